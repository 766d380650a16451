/-! printed by wip/p32/libp.py: fillings -/
def m_fills : aM := ([], [218, 219])
def rq_fills (n : Int) (st : zS) : Prop := gInv zgt st ∧ (1 ≤ n ∧ n ≤ 20)
def en_fills (n : Int) (st : zS) (r : Int) (s1 : zS) : Prop := gInv zgt s1 ∧ aFr m_fills st s1 ∧ (-9223372036854775808 ≤ r ∧ r ≤ 9223372036854775807) ∧ (FL0 s1 (npl s1) r) ∧ (¬ r = 0 → FLA s1 n 0)
def ct_fills (n : Int) (st : zS) (Q : zQ) : Prop := rq_fills n st ∧ (∀ (r : Int) (s1 : zS), en_fills n st r s1 → Q (some (.inr (.inl r))) s1)
theorem ct_fills_m {n : Int} {st : zS} {Q Q' : zQ} (hQ : ∀ r st', Q r st' → Q' r st') (h : ct_fills n st Q) : ct_fills n st Q' := ⟨h.1, fun x0 x1 x2 => hQ _ _ (h.2 x0 x1 x2)⟩
def k_fills : zCall := fun _ as st Q => match as with
  | [.inr (.inr (.inl z_o)), .inl n] => z_o = 170 ∧ ct_fills n st Q
  | _ => False
theorem k_fills_mon : zmon k_fills := by
  intro nu as st Q Q' hQ h
  unfold k_fills at h ⊢
  split at h
  · exact ⟨h.1, ct_fills_m hQ h.2⟩
  · exact h.elim
def rq_filling (n : Int) (k : Int) (st : zS) : Prop := gInv zgt st ∧ zJ st
def en_filling (n : Int) (k : Int) (st : zS) (r : Int) (s1 : zS) : Prop := gInv zgt s1 ∧ zJ s1 ∧ s1 170 1 = st 170 1 ∧ zV0 st s1
def ct_filling (n : Int) (k : Int) (st : zS) (Q : zQ) : Prop := rq_filling n k st ∧ (∀ (r : Int) (s1 : zS), en_filling n k st r s1 → Q (some (.inl r)) s1)
theorem ct_filling_m {n k : Int} {st : zS} {Q Q' : zQ} (hQ : ∀ r st', Q r st' → Q' r st') (h : ct_filling n k st Q) : ct_filling n k st Q' := ⟨h.1, fun x0 x1 x2 => hQ _ _ (h.2 x0 x1 x2)⟩
def k_filling : zCall := fun _ as st Q => match as with
  | [.inr (.inr (.inl z_o)), .inl n, .inl k] => z_o = 170 ∧ ct_filling n k st Q
  | _ => False
theorem k_filling_mon : zmon k_filling := by
  intro nu as st Q Q' hQ h
  unfold k_filling at h ⊢
  split at h
  · exact ⟨h.1, ct_filling_m hQ h.2⟩
  · exact h.elim
section R7m
variable {cl : Nat → zCall}
set_option maxHeartbeats 40000000 in
set_option maxRecDepth 100000 in
theorem c_fills (hTb : aTb zSh rx_tb cl) {D : Nat} (hD : 2 ≤ D) {n : Int} {st : zS} {Q : zQ} (h : ct_fills n st Q) : cl D 35 [.inr (.inr (.inl 170)), .inl n] st Q := by
  obtain ⟨d, rfl⟩ : ∃ d, D = d + 1 := ⟨D - 1, by omega⟩
  refine hTb d 35 (rx_m35, 7, 0, 0, 5) rfl _ _ _ (Nat.le_of_ble_eq_true rfl) (fun K hcl hsf hsl => ?_)
  have hcm : zmo (wcL [(0, k_between), (222, k_canBe)]) (cl d) := (wcL_m (wm_cons (k_between_m hTb (by omega)) (wm_cons (k_canBe_m hTb (by omega)) wm_nil)))
  obtain ⟨hR, hQ⟩ := h
  obtain ⟨hG, nn⟩ := hR
  change 1 ≤ n ∧ n ≤ 20 at nn
  have l7 : ∀ (u : Nat) (p : Int) (al : Int) (s_l7 : zS), gInv zgt s_l7 ∧ aFr m_fills st s_l7 ∧ (FLA s_l7 n 0) ∧ (FL0 s_l7 p al) ∧ (-9223372036854775808 ≤ al ∧ al ≤ 9223372036854775807) ∧ (0 ≤ p ∧ p ≤ s_l7 172 (s_l7 170 13 : Int).toNat) → (s_l7 172 (s_l7 170 13 : Int).toNat - p).toNat = u → K (rx_find rx_m35 310) [(4, .inl p), (2, .inr (.inl al)), (0, .inr (.inr (.inl 170))), (1, .inl n)] [] s_l7 := by
    intro u_l7
    induction u_l7 using Nat.strongRecOn with
    | _ u_l7 ih_l7 =>
      intro p al s_l7 hi hu_l7
      obtain ⟨gI_l7, fI_l7, a_l7, w_l7, r_l7, i_l7⟩ := hi
      have g2 := g_bank hG
      have e1 : s_l7 170 13 = st 170 13 := fI_l7 170 13 rfl rfl
      have g4 := g_places hG (st 170 13 : Int).toNat
      have e3 : s_l7 172 (s_l7 170 13 : Int).toNat = st 172 (st 170 13 : Int).toNat := (fI_l7 172 (s_l7 170 13 : Int).toNat rfl rfl).trans (by rw [e1] <;> rfl)
      refine yr1_ok (Rt := Q) (wc := (wcL [(0, k_between), (222, k_canBe)])) (stp := [310]) hcm hcl [123, 258, 332] 215 ?_
      show ((0 ≤ s_l7 170 13 ∧ s_l7 170 13 < 2) ∧ ((s_l7 172 (s_l7 170 13 : Int).toNat ≤ p → Q (some (.inr (.inl al))) s_l7) ∧ (¬ (s_l7 172 (s_l7 170 13 : Int).toNat ≤ p) → ((0 ≤ p ∧ p < 160) ∧ ((-2147483648 ≤ p + 1 ∧ p + 1 ≤ 2147483647) ∧ K (rx_find rx_m35 310) [(4, .inl (p + 1)), (2, .inr (.inl (zx (al + (s_l7 218 (p : Int).toNat))))), (0, .inr (.inr (.inl 170))), (1, .inl n)] [] s_l7)))))
      refine ⟨by omega, ?_⟩
      refine ⟨fun h5 => ?_, fun h5 => ?_⟩
      · exact hQ _ _ ⟨gI_l7, fI_l7, (show -9223372036854775808 ≤ al ∧ al ≤ 9223372036854775807 from by omega), (show FL0 s_l7 (npl s_l7) al from FL0_m w_l7 (show p ≤ s_l7 172 (s_l7 170 13 : Int).toNat by omega)), (show ¬ al = 0 → FLA s_l7 n 0 from fun _ => a_l7)⟩
      · have g6 := g_onFrom gI_l7 (p : Int).toNat
        refine ⟨by omega, ?_⟩
        refine ⟨by omega, ?_⟩
        exact ih_l7 _ (show (s_l7 172 (s_l7 170 13 : Int).toNat - (p + 1) : Int).toNat < u_l7 from by omega) (p + 1) (zx (al + (s_l7 218 (p : Int).toNat))) s_l7 ⟨gI_l7, fI_l7, (show FLA s_l7 n 0 from a_l7), (show FL0 s_l7 (p + 1) (zx (al + (s_l7 218 (p : Int).toNat))) from FL0_s w_l7 (by omega)), (show -9223372036854775808 ≤ (zx (al + (s_l7 218 (p : Int).toNat))) ∧ (zx (al + (s_l7 218 (p : Int).toNat))) ≤ 9223372036854775807 from zx_ok _), (show 0 ≤ (p + 1) ∧ (p + 1) ≤ s_l7 172 (s_l7 170 13 : Int).toNat from by omega)⟩ rfl
  have l4 : ∀ (u : Nat) (i : Int) (s_l4 : zS), gInv zgt s_l4 ∧ aFr m_fills st s_l4 ∧ (FLA s_l4 n 0) ∧ (0 ≤ i ∧ i ≤ n) → (n - i).toNat = u → K (rx_find rx_m35 172) [(2, .inl i), (0, .inr (.inr (.inl 170))), (1, .inl n)] [] s_l4 := by
    intro u_l4
    induction u_l4 using Nat.strongRecOn with
    | _ u_l4 ih_l4 =>
      intro i s_l4 hi hu_l4
      obtain ⟨gI_l4, fI_l4, a_l4, i_l4⟩ := hi
      have g8 := g_bank hG
      have e7 : s_l4 170 13 = st 170 13 := fI_l4 170 13 rfl rfl
      have l5 : ∀ (u : Nat) (p : Int) (s_l5 : zS), gInv zgt s_l5 ∧ aFr m_fills st s_l5 ∧ (FLA s_l5 n 0) ∧ (0 ≤ p ∧ p ≤ s_l5 172 (s_l5 170 13 : Int).toNat ∧ 0 ≤ i ∧ i < n) → (s_l5 172 (s_l5 170 13 : Int).toNat - p).toNat = u → K (rx_find rx_m35 179) [(3, .inl p), (2, .inl i), (0, .inr (.inr (.inl 170))), (1, .inl n)] [] s_l5 := by
        intro u_l5
        induction u_l5 using Nat.strongRecOn with
        | _ u_l5 ih_l5 =>
          intro p s_l5 hi hu_l5
          obtain ⟨gI_l5, fI_l5, a_l5, i_l5⟩ := hi
          have g10 := g_bank hG
          have e9 : s_l5 170 13 = st 170 13 := fI_l5 170 13 rfl rfl
          have g12 := g_places hG (st 170 13 : Int).toNat
          have e11 : s_l5 172 (s_l5 170 13 : Int).toNat = st 172 (st 170 13 : Int).toNat := (fI_l5 172 (s_l5 170 13 : Int).toNat rfl rfl).trans (by rw [e9] <;> rfl)
          have l6 : ∀ (u : Nat) (q : Int) (wy : Int), (-9223372036854775808 ≤ wy ∧ wy ≤ 9223372036854775807) ∧ (0 ≤ q ∧ q ≤ s_l5 172 (s_l5 170 13 : Int).toNat ∧ 0 ≤ p ∧ p < s_l5 172 (s_l5 170 13 : Int).toNat) → (s_l5 172 (s_l5 170 13 : Int).toNat - q).toNat = u → K (rx_find rx_m35 206) [(6, .inl q), (4, .inr (.inl wy)), (3, .inl p), (2, .inl i), (0, .inr (.inr (.inl 170))), (1, .inl n)] [] s_l5 := by
            intro u_l6
            induction u_l6 using Nat.strongRecOn with
            | _ u_l6 ih_l6 =>
              intro q wy hi hu_l6
              obtain ⟨r_l6, i_l6⟩ := hi
              have g14 := g_bank hG
              have e13 : s_l5 170 13 = st 170 13 := fI_l5 170 13 rfl rfl
              have g16 := g_places hG (st 170 13 : Int).toNat
              have e15 : s_l5 172 (s_l5 170 13 : Int).toNat = st 172 (st 170 13 : Int).toNat := (fI_l5 172 (s_l5 170 13 : Int).toNat rfl rfl).trans (by rw [e13] <;> rfl)
              refine yr1_ok (Rt := Q) (wc := (wcL [(0, k_between), (222, k_canBe)])) (stp := [172, 179, 206, 310]) hcm hcl [123, 258, 332] 215 ?_
              show ((0 ≤ s_l5 170 13 ∧ s_l5 170 13 < 2) ∧ ((s_l5 172 (s_l5 170 13 : Int).toNat ≤ q → ((-2147483648 ≤ (8 : Int) * i ∧ (8 : Int) * i ≤ 2147483647) ∧ ((-2147483648 ≤ ((8 : Int) * i) + p ∧ ((8 : Int) * i) + p ≤ 2147483647) ∧ (170 = 170 ∧ (rq_canBe i p s_l5 ∧ (∀ (r17 : Int), ((r17 = (0 : Int) → ((0 ≤ ((8 : Int) * i) + p ∧ ((8 : Int) * i) + p < 160) ∧ ((-2147483648 ≤ p + 1 ∧ p + 1 ≤ 2147483647) ∧ K (rx_find rx_m35 179) [(3, .inl (p + 1)), (6, .inl q), (4, .inr (.inl wy)), (2, .inl i), (0, .inr (.inr (.inl 170))), (1, .inl n)] [] (zup s_l5 219 (((8 : Int) * i) + p : Int).toNat 0)))) ∧ (¬ (r17 = (0 : Int)) → ((0 ≤ ((8 : Int) * i) + p ∧ ((8 : Int) * i) + p < 160) ∧ ((-2147483648 ≤ p + 1 ∧ p + 1 ≤ 2147483647) ∧ K (rx_find rx_m35 179) [(3, .inl (p + 1)), (6, .inl q), (4, .inr (.inl wy)), (2, .inl i), (0, .inr (.inr (.inl 170))), (1, .inl n)] [] (zup s_l5 219 (((8 : Int) * i) + p : Int).toNat wy))))))))))) ∧ (¬ (s_l5 172 (s_l5 170 13 : Int).toNat ≤ q) → ((i ≤ (0 : Int) → ((-2147483648 ≤ (8 : Int) * i ∧ (8 : Int) * i ≤ 2147483647) ∧ ((-2147483648 ≤ ((8 : Int) * i) + p ∧ ((8 : Int) * i) + p ≤ 2147483647) ∧ (170 = 170 ∧ (rq_canBe i p s_l5 ∧ (∀ (r18 : Int), ((r18 = (0 : Int) → ((0 ≤ ((8 : Int) * i) + p ∧ ((8 : Int) * i) + p < 160) ∧ ((-2147483648 ≤ p + 1 ∧ p + 1 ≤ 2147483647) ∧ K (rx_find rx_m35 179) [(3, .inl (p + 1)), (6, .inl q), (4, .inr (.inl wy)), (2, .inl i), (0, .inr (.inr (.inl 170))), (1, .inl n)] [] (zup s_l5 219 (((8 : Int) * i) + p : Int).toNat 0)))) ∧ (¬ (r18 = (0 : Int)) → ((0 ≤ ((8 : Int) * i) + p ∧ ((8 : Int) * i) + p < 160) ∧ ((-2147483648 ≤ p + 1 ∧ p + 1 ≤ 2147483647) ∧ K (rx_find rx_m35 179) [(3, .inl (p + 1)), (6, .inl q), (4, .inr (.inl wy)), (2, .inl i), (0, .inr (.inr (.inl 170))), (1, .inl n)] [] (zup s_l5 219 (((8 : Int) * i) + p : Int).toNat wy))))))))))) ∧ (¬ (i ≤ (0 : Int)) → (170 = 170 ∧ (rq_between (s_l5 170 13) p q s_l5 ∧ (∀ (r19 : Int), en_between (s_l5 170 13) p q s_l5 r19 → ((r19 ≤ (0 : Int) → ((-2147483648 ≤ q + 1 ∧ q + 1 ≤ 2147483647) ∧ K (rx_find rx_m35 206) [(6, .inl (q + 1)), (4, .inr (.inl (zx (wy + 0)))), (3, .inl p), (2, .inl i), (0, .inr (.inr (.inl 170))), (1, .inl n)] [] s_l5)) ∧ (¬ (r19 ≤ (0 : Int)) → ((-2147483648 ≤ i - 1 ∧ i - 1 ≤ 2147483647) ∧ ((-2147483648 ≤ (8 : Int) * (i - 1) ∧ (8 : Int) * (i - 1) ≤ 2147483647) ∧ ((-2147483648 ≤ ((8 : Int) * (i - 1)) + q ∧ ((8 : Int) * (i - 1)) + q ≤ 2147483647) ∧ ((0 ≤ ((8 : Int) * (i - 1)) + q ∧ ((8 : Int) * (i - 1)) + q < 160) ∧ ((-2147483648 ≤ q + 1 ∧ q + 1 ≤ 2147483647) ∧ K (rx_find rx_m35 206) [(6, .inl (q + 1)), (4, .inr (.inl (zx (wy + (s_l5 219 (((8 : Int) * (i - 1)) + q : Int).toNat))))), (3, .inl p), (2, .inl i), (0, .inr (.inr (.inl 170))), (1, .inl n)] [] s_l5)))))))))))))))
              refine ⟨by omega, ?_⟩
              refine ⟨fun h20 => ?_, fun h20 => ?_⟩
              · refine ⟨by omega, ?_⟩
                refine ⟨by omega, ?_⟩
                refine ⟨rfl, gI_l5, fun r17 => ?_⟩
                refine ⟨fun h21 => ?_, fun h21 => ?_⟩
                · refine ⟨by omega, ?_⟩
                  refine ⟨by omega, ?_⟩
                  exact hsl _ _ _ _ _ (sb_cons (.head _) (sb_cons (.tail _ (.tail _ (.tail _ (.head _)))) (sb_cons (.tail _ (.tail _ (.tail _ (.tail _ (.head _))))) (sb_cons (.tail _ (.tail _ (.tail _ (.tail _ (.tail _ (.head _)))))) sb_nil)))) (ih_l5 _ (show (s_l5 172 (s_l5 170 13 : Int).toNat - (p + 1) : Int).toNat < u_l5 from by omega) (p + 1) (zup s_l5 219 (((8 : Int) * i) + p : Int).toNat 0) ⟨(gInv_up gI_l5 (p_upTo (by omega))), (fr_a fI_l5 rfl), (show FLA (zup s_l5 219 (((8 : Int) * i) + p : Int).toNat 0) n 0 from FLA_u a_l5), (show 0 ≤ (p + 1) ∧ (p + 1) ≤ s_l5 172 (s_l5 170 13 : Int).toNat ∧ 0 ≤ i ∧ i < n from by omega)⟩ rfl)
                · refine ⟨by omega, ?_⟩
                  refine ⟨by omega, ?_⟩
                  exact hsl _ _ _ _ _ (sb_cons (.head _) (sb_cons (.tail _ (.tail _ (.tail _ (.head _)))) (sb_cons (.tail _ (.tail _ (.tail _ (.tail _ (.head _))))) (sb_cons (.tail _ (.tail _ (.tail _ (.tail _ (.tail _ (.head _)))))) sb_nil)))) (ih_l5 _ (show (s_l5 172 (s_l5 170 13 : Int).toNat - (p + 1) : Int).toNat < u_l5 from by omega) (p + 1) (zup s_l5 219 (((8 : Int) * i) + p : Int).toNat wy) ⟨(gInv_up gI_l5 (p_upTo (by omega))), (fr_a fI_l5 rfl), (show FLA (zup s_l5 219 (((8 : Int) * i) + p : Int).toNat wy) n 0 from FLA_u a_l5), (show 0 ≤ (p + 1) ∧ (p + 1) ≤ s_l5 172 (s_l5 170 13 : Int).toNat ∧ 0 ≤ i ∧ i < n from by omega)⟩ rfl)
              · refine ⟨fun h22 => ?_, fun h22 => ?_⟩
                · refine ⟨by omega, ?_⟩
                  refine ⟨by omega, ?_⟩
                  refine ⟨rfl, gI_l5, fun r18 => ?_⟩
                  refine ⟨fun h23 => ?_, fun h23 => ?_⟩
                  · refine ⟨by omega, ?_⟩
                    refine ⟨by omega, ?_⟩
                    exact hsl _ _ _ _ _ (sb_cons (.head _) (sb_cons (.tail _ (.tail _ (.tail _ (.head _)))) (sb_cons (.tail _ (.tail _ (.tail _ (.tail _ (.head _))))) (sb_cons (.tail _ (.tail _ (.tail _ (.tail _ (.tail _ (.head _)))))) sb_nil)))) (ih_l5 _ (show (s_l5 172 (s_l5 170 13 : Int).toNat - (p + 1) : Int).toNat < u_l5 from by omega) (p + 1) (zup s_l5 219 (((8 : Int) * i) + p : Int).toNat 0) ⟨(gInv_up gI_l5 (p_upTo (by omega))), (fr_a fI_l5 rfl), (show FLA (zup s_l5 219 (((8 : Int) * i) + p : Int).toNat 0) n 0 from FLA_u a_l5), (show 0 ≤ (p + 1) ∧ (p + 1) ≤ s_l5 172 (s_l5 170 13 : Int).toNat ∧ 0 ≤ i ∧ i < n from by omega)⟩ rfl)
                  · refine ⟨by omega, ?_⟩
                    refine ⟨by omega, ?_⟩
                    exact hsl _ _ _ _ _ (sb_cons (.head _) (sb_cons (.tail _ (.tail _ (.tail _ (.head _)))) (sb_cons (.tail _ (.tail _ (.tail _ (.tail _ (.head _))))) (sb_cons (.tail _ (.tail _ (.tail _ (.tail _ (.tail _ (.head _)))))) sb_nil)))) (ih_l5 _ (show (s_l5 172 (s_l5 170 13 : Int).toNat - (p + 1) : Int).toNat < u_l5 from by omega) (p + 1) (zup s_l5 219 (((8 : Int) * i) + p : Int).toNat wy) ⟨(gInv_up gI_l5 (p_upTo (by omega))), (fr_a fI_l5 rfl), (show FLA (zup s_l5 219 (((8 : Int) * i) + p : Int).toNat wy) n 0 from FLA_u a_l5), (show 0 ≤ (p + 1) ∧ (p + 1) ≤ s_l5 172 (s_l5 170 13 : Int).toNat ∧ 0 ≤ i ∧ i < n from by omega)⟩ rfl)
                · refine ⟨rfl, (show 0 ≤ (s_l5 170 13) ∧ (s_l5 170 13) ≤ 1 ∧ 0 ≤ p ∧ p < 8 ∧ 0 ≤ q ∧ q < 8 from by omega), fun r19 q19 => ?_⟩
                  have e19 := q19
                  change r19 = s_l5 177 (64 * (s_l5 170 13) + 8 * p + q : Int).toNat at e19
                  have g25 := g_streetAt hG (64 * (st 170 13) + 8 * p + q : Int).toNat
                  have e24 : s_l5 177 (64 * (s_l5 170 13) + 8 * p + q : Int).toNat = st 177 (64 * (st 170 13) + 8 * p + q : Int).toNat := (fI_l5 177 (64 * (s_l5 170 13) + 8 * p + q : Int).toNat rfl rfl).trans (by rw [e13] <;> rfl)
                  refine ⟨fun h26 => ?_, fun h26 => ?_⟩
                  · refine ⟨by omega, ?_⟩
                    exact ih_l6 _ (show (s_l5 172 (s_l5 170 13 : Int).toNat - (q + 1) : Int).toNat < u_l6 from by omega) (q + 1) (zx (wy + 0)) ⟨(show -9223372036854775808 ≤ (zx (wy + 0)) ∧ (zx (wy + 0)) ≤ 9223372036854775807 from zx_ok _), (show 0 ≤ (q + 1) ∧ (q + 1) ≤ s_l5 172 (s_l5 170 13 : Int).toNat ∧ 0 ≤ p ∧ p < s_l5 172 (s_l5 170 13 : Int).toNat from by omega)⟩ rfl
                  · refine ⟨by omega, ?_⟩
                    refine ⟨by omega, ?_⟩
                    refine ⟨by omega, ?_⟩
                    have g27 := g_upTo gI_l5 (((8 : Int) * (i - 1)) + q : Int).toNat
                    refine ⟨by omega, ?_⟩
                    refine ⟨by omega, ?_⟩
                    exact ih_l6 _ (show (s_l5 172 (s_l5 170 13 : Int).toNat - (q + 1) : Int).toNat < u_l6 from by omega) (q + 1) (zx (wy + (s_l5 219 (((8 : Int) * (i - 1)) + q : Int).toNat))) ⟨(show -9223372036854775808 ≤ (zx (wy + (s_l5 219 (((8 : Int) * (i - 1)) + q : Int).toNat))) ∧ (zx (wy + (s_l5 219 (((8 : Int) * (i - 1)) + q : Int).toNat))) ≤ 9223372036854775807 from zx_ok _), (show 0 ≤ (q + 1) ∧ (q + 1) ≤ s_l5 172 (s_l5 170 13 : Int).toNat ∧ 0 ≤ p ∧ p < s_l5 172 (s_l5 170 13 : Int).toNat from by omega)⟩ rfl
          refine yr1_ok (Rt := Q) (wc := (wcL [(0, k_between), (222, k_canBe)])) (stp := [172, 179, 206, 310]) hcm hcl [123, 258, 332] 215 ?_
          show ((0 ≤ s_l5 170 13 ∧ s_l5 170 13 < 2) ∧ ((s_l5 172 (s_l5 170 13 : Int).toNat ≤ p → ((-2147483648 ≤ i + 1 ∧ i + 1 ≤ 2147483647) ∧ K (rx_find rx_m35 172) [(2, .inl (i + 1)), (3, .inl p), (0, .inr (.inr (.inl 170))), (1, .inl n)] [] s_l5)) ∧ (¬ (s_l5 172 (s_l5 170 13 : Int).toNat ≤ p) → ((¬ i = (0 : Int) → K (rx_find rx_m35 206) [(6, .inl 0), (4, .inr (.inl 0)), (3, .inl p), (2, .inl i), (0, .inr (.inr (.inl 170))), (1, .inl n)] [] s_l5) ∧ (¬ (¬ i = (0 : Int)) → K (rx_find rx_m35 206) [(6, .inl 0), (4, .inr (.inl 1)), (3, .inl p), (2, .inl i), (0, .inr (.inr (.inl 170))), (1, .inl n)] [] s_l5)))))
          refine ⟨by omega, ?_⟩
          refine ⟨fun h28 => ?_, fun h28 => ?_⟩
          · refine ⟨by omega, ?_⟩
            exact hsl _ _ _ _ _ (sb_cons (.head _) (sb_cons (.tail _ (.tail _ (.head _))) (sb_cons (.tail _ (.tail _ (.tail _ (.head _)))) sb_nil))) (ih_l4 _ (show (n - (i + 1) : Int).toNat < u_l4 from by omega) (i + 1) s_l5 ⟨gI_l5, fI_l5, (show FLA s_l5 n 0 from a_l5), (show 0 ≤ (i + 1) ∧ (i + 1) ≤ n from by omega)⟩ rfl)
          · refine ⟨fun h29 => ?_, fun h29 => ?_⟩
            · exact l6 _ 0 0 ⟨(show -9223372036854775808 ≤ (0 : Int) ∧ (0 : Int) ≤ 9223372036854775807 from by omega), (show 0 ≤ (0 : Int) ∧ (0 : Int) ≤ s_l5 172 (s_l5 170 13 : Int).toNat ∧ 0 ≤ p ∧ p < s_l5 172 (s_l5 170 13 : Int).toNat from by omega)⟩ rfl
            · exact l6 _ 0 1 ⟨(show -9223372036854775808 ≤ (1 : Int) ∧ (1 : Int) ≤ 9223372036854775807 from by omega), (show 0 ≤ (0 : Int) ∧ (0 : Int) ≤ s_l5 172 (s_l5 170 13 : Int).toNat ∧ 0 ≤ p ∧ p < s_l5 172 (s_l5 170 13 : Int).toNat from by omega)⟩ rfl
      refine yr1_ok (Rt := Q) (wc := (wcL [(0, k_between), (222, k_canBe)])) (stp := [172, 179, 206, 310]) hcm hcl [123, 258, 332] 215 ?_
      show ((n ≤ i → K (rx_find rx_m35 310) [(4, .inl 0), (2, .inr (.inl 0)), (0, .inr (.inr (.inl 170))), (1, .inl n)] [] s_l4) ∧ (¬ (n ≤ i) → K (rx_find rx_m35 179) [(3, .inl 0), (2, .inl i), (0, .inr (.inr (.inl 170))), (1, .inl n)] [] s_l4))
      refine ⟨fun h30 => ?_, fun h30 => ?_⟩
      · have g32 := g_places hG (st 170 13 : Int).toNat
        have e31 : s_l4 172 (s_l4 170 13 : Int).toNat = st 172 (st 170 13 : Int).toNat := (fI_l4 172 (s_l4 170 13 : Int).toNat rfl rfl).trans (by rw [e7] <;> rfl)
        exact l7 _ 0 0 s_l4 ⟨gI_l4, fI_l4, (show FLA s_l4 n 0 from a_l4), (show FL0 s_l4 (0 : Int) (0 : Int) from fun z => absurd rfl z), (show -9223372036854775808 ≤ (0 : Int) ∧ (0 : Int) ≤ 9223372036854775807 from by omega), (show 0 ≤ (0 : Int) ∧ (0 : Int) ≤ s_l4 172 (s_l4 170 13 : Int).toNat from by omega)⟩ rfl
      · have g34 := g_places hG (st 170 13 : Int).toNat
        have e33 : s_l4 172 (s_l4 170 13 : Int).toNat = st 172 (st 170 13 : Int).toNat := (fI_l4 172 (s_l4 170 13 : Int).toNat rfl rfl).trans (by rw [e7] <;> rfl)
        exact l5 _ 0 s_l4 ⟨gI_l4, fI_l4, (show FLA s_l4 n 0 from a_l4), (show 0 ≤ (0 : Int) ∧ (0 : Int) ≤ s_l4 172 (s_l4 170 13 : Int).toNat ∧ 0 ≤ i ∧ i < n from by omega)⟩ rfl
  have l1 : ∀ (u : Nat) (i : Int) (s_l1 : zS), gInv zgt s_l1 ∧ aFr m_fills st s_l1 ∧ (FLA s_l1 n (i + 1)) ∧ (-1 ≤ i ∧ i ≤ n - 1) → (i + 1).toNat = u → K (rx_find rx_m35 32) [(2, .inl i), (0, .inr (.inr (.inl 170))), (1, .inl n)] [] s_l1 := by
    intro u_l1
    induction u_l1 using Nat.strongRecOn with
    | _ u_l1 ih_l1 =>
      intro i s_l1 hi hu_l1
      obtain ⟨gI_l1, fI_l1, a_l1, i_l1⟩ := hi
      have g36 := g_bank hG
      have e35 : s_l1 170 13 = st 170 13 := fI_l1 170 13 rfl rfl
      have l2 : ∀ (u : Nat) (p : Int) (s_l2 : zS), gInv zgt s_l2 ∧ aFr m_fills st s_l2 ∧ (FLA s_l2 n (i + 1)) ∧ (FLb s_l2 n i p) ∧ (0 ≤ p ∧ p ≤ s_l2 172 (s_l2 170 13 : Int).toNat ∧ 0 ≤ i ∧ i ≤ n - 1) → (s_l2 172 (s_l2 170 13 : Int).toNat - p).toNat = u → K (rx_find rx_m35 38) [(3, .inl p), (2, .inl i), (0, .inr (.inr (.inl 170))), (1, .inl n)] [] s_l2 := by
        intro u_l2
        induction u_l2 using Nat.strongRecOn with
        | _ u_l2 ih_l2 =>
          intro p s_l2 hi hu_l2
          obtain ⟨gI_l2, fI_l2, a_l2, b_l2, i_l2⟩ := hi
          have g38 := g_bank hG
          have e37 : s_l2 170 13 = st 170 13 := fI_l2 170 13 rfl rfl
          have g40 := g_places hG (st 170 13 : Int).toNat
          have e39 : s_l2 172 (s_l2 170 13 : Int).toNat = st 172 (st 170 13 : Int).toNat := (fI_l2 172 (s_l2 170 13 : Int).toNat rfl rfl).trans (by rw [e37] <;> rfl)
          have l3 : ∀ (u : Nat) (q : Int) (wy : Int), (FLw s_l2 n i p q wy) ∧ (-9223372036854775808 ≤ wy ∧ wy ≤ 9223372036854775807) ∧ (0 ≤ q ∧ q ≤ s_l2 172 (s_l2 170 13 : Int).toNat ∧ 0 ≤ p ∧ p < s_l2 172 (s_l2 170 13 : Int).toNat) → (s_l2 172 (s_l2 170 13 : Int).toNat - q).toNat = u → K (rx_find rx_m35 68) [(6, .inl q), (4, .inr (.inl wy)), (3, .inl p), (2, .inl i), (0, .inr (.inr (.inl 170))), (1, .inl n)] [] s_l2 := by
            intro u_l3
            induction u_l3 using Nat.strongRecOn with
            | _ u_l3 ih_l3 =>
              intro q wy hi hu_l3
              obtain ⟨w_l3, r_l3, i_l3⟩ := hi
              have g42 := g_bank hG
              have e41 : s_l2 170 13 = st 170 13 := fI_l2 170 13 rfl rfl
              have g44 := g_places hG (st 170 13 : Int).toNat
              have e43 : s_l2 172 (s_l2 170 13 : Int).toNat = st 172 (st 170 13 : Int).toNat := (fI_l2 172 (s_l2 170 13 : Int).toNat rfl rfl).trans (by rw [e41] <;> rfl)
              refine yr1_ok (Rt := Q) (wc := (wcL [(0, k_between), (222, k_canBe)])) (stp := [32, 38, 68, 172, 179, 206, 310]) hcm hcl [123, 258, 332] 215 ?_
              show ((0 ≤ s_l2 170 13 ∧ s_l2 170 13 < 2) ∧ ((s_l2 172 (s_l2 170 13 : Int).toNat ≤ q → ((-2147483648 ≤ (8 : Int) * i ∧ (8 : Int) * i ≤ 2147483647) ∧ ((-2147483648 ≤ ((8 : Int) * i) + p ∧ ((8 : Int) * i) + p ≤ 2147483647) ∧ (170 = 170 ∧ (rq_canBe i p s_l2 ∧ (∀ (r45 : Int), ((r45 = (0 : Int) → ((0 ≤ ((8 : Int) * i) + p ∧ ((8 : Int) * i) + p < 160) ∧ ((-2147483648 ≤ p + 1 ∧ p + 1 ≤ 2147483647) ∧ K (rx_find rx_m35 38) [(3, .inl (p + 1)), (6, .inl q), (4, .inr (.inl wy)), (2, .inl i), (0, .inr (.inr (.inl 170))), (1, .inl n)] [] (zup s_l2 218 (((8 : Int) * i) + p : Int).toNat 0)))) ∧ (¬ (r45 = (0 : Int)) → ((0 ≤ ((8 : Int) * i) + p ∧ ((8 : Int) * i) + p < 160) ∧ ((-2147483648 ≤ p + 1 ∧ p + 1 ≤ 2147483647) ∧ K (rx_find rx_m35 38) [(3, .inl (p + 1)), (6, .inl q), (4, .inr (.inl wy)), (2, .inl i), (0, .inr (.inr (.inl 170))), (1, .inl n)] [] (zup s_l2 218 (((8 : Int) * i) + p : Int).toNat wy))))))))))) ∧ (¬ (s_l2 172 (s_l2 170 13 : Int).toNat ≤ q) → ((-2147483648 ≤ n - 1 ∧ n - 1 ≤ 2147483647) ∧ ((n - 1 ≤ i → ((-2147483648 ≤ (8 : Int) * i ∧ (8 : Int) * i ≤ 2147483647) ∧ ((-2147483648 ≤ ((8 : Int) * i) + p ∧ ((8 : Int) * i) + p ≤ 2147483647) ∧ (170 = 170 ∧ (rq_canBe i p s_l2 ∧ (∀ (r46 : Int), ((r46 = (0 : Int) → ((0 ≤ ((8 : Int) * i) + p ∧ ((8 : Int) * i) + p < 160) ∧ ((-2147483648 ≤ p + 1 ∧ p + 1 ≤ 2147483647) ∧ K (rx_find rx_m35 38) [(3, .inl (p + 1)), (6, .inl q), (4, .inr (.inl wy)), (2, .inl i), (0, .inr (.inr (.inl 170))), (1, .inl n)] [] (zup s_l2 218 (((8 : Int) * i) + p : Int).toNat 0)))) ∧ (¬ (r46 = (0 : Int)) → ((0 ≤ ((8 : Int) * i) + p ∧ ((8 : Int) * i) + p < 160) ∧ ((-2147483648 ≤ p + 1 ∧ p + 1 ≤ 2147483647) ∧ K (rx_find rx_m35 38) [(3, .inl (p + 1)), (6, .inl q), (4, .inr (.inl wy)), (2, .inl i), (0, .inr (.inr (.inl 170))), (1, .inl n)] [] (zup s_l2 218 (((8 : Int) * i) + p : Int).toNat wy))))))))))) ∧ (¬ (n - 1 ≤ i) → (170 = 170 ∧ (rq_between (s_l2 170 13) p q s_l2 ∧ (∀ (r47 : Int), en_between (s_l2 170 13) p q s_l2 r47 → ((r47 ≤ (0 : Int) → ((-2147483648 ≤ q + 1 ∧ q + 1 ≤ 2147483647) ∧ K (rx_find rx_m35 68) [(6, .inl (q + 1)), (4, .inr (.inl (zx (wy + 0)))), (3, .inl p), (2, .inl i), (0, .inr (.inr (.inl 170))), (1, .inl n)] [] s_l2)) ∧ (¬ (r47 ≤ (0 : Int)) → ((-2147483648 ≤ i + 1 ∧ i + 1 ≤ 2147483647) ∧ ((-2147483648 ≤ (8 : Int) * (i + 1) ∧ (8 : Int) * (i + 1) ≤ 2147483647) ∧ ((-2147483648 ≤ ((8 : Int) * (i + 1)) + q ∧ ((8 : Int) * (i + 1)) + q ≤ 2147483647) ∧ ((0 ≤ ((8 : Int) * (i + 1)) + q ∧ ((8 : Int) * (i + 1)) + q < 160) ∧ ((-2147483648 ≤ q + 1 ∧ q + 1 ≤ 2147483647) ∧ K (rx_find rx_m35 68) [(6, .inl (q + 1)), (4, .inr (.inl (zx (wy + (s_l2 218 (((8 : Int) * (i + 1)) + q : Int).toNat))))), (3, .inl p), (2, .inl i), (0, .inr (.inr (.inl 170))), (1, .inl n)] [] s_l2))))))))))))))))
              refine ⟨by omega, ?_⟩
              refine ⟨fun h48 => ?_, fun h48 => ?_⟩
              · refine ⟨by omega, ?_⟩
                refine ⟨by omega, ?_⟩
                refine ⟨rfl, gI_l2, fun r45 => ?_⟩
                refine ⟨fun h49 => ?_, fun h49 => ?_⟩
                · refine ⟨by omega, ?_⟩
                  refine ⟨by omega, ?_⟩
                  exact hsl _ _ _ _ _ (sb_cons (.head _) (sb_cons (.tail _ (.tail _ (.tail _ (.head _)))) (sb_cons (.tail _ (.tail _ (.tail _ (.tail _ (.head _))))) (sb_cons (.tail _ (.tail _ (.tail _ (.tail _ (.tail _ (.head _)))))) sb_nil)))) (ih_l2 _ (show (s_l2 172 (s_l2 170 13 : Int).toNat - (p + 1) : Int).toNat < u_l2 from by omega) (p + 1) (zup s_l2 218 (((8 : Int) * i) + p : Int).toNat 0) ⟨(gInv_up gI_l2 (p_onFrom (by omega))), (fr_a fI_l2 rfl), (show FLA (zup s_l2 218 (((8 : Int) * i) + p : Int).toNat 0) n (i + 1) from FLA_up (show s_l2 172 (s_l2 170 13 : Int).toNat ≤ 8 by omega) (by omega) ⟨by omega, by omega⟩ a_l2), (show FLb (zup s_l2 218 (((8 : Int) * i) + p : Int).toNat 0) n i (p + 1) from FLb_up (show s_l2 172 (s_l2 170 13 : Int).toNat ≤ 8 by omega) (by omega) ⟨by omega, by omega⟩ b_l2 w_l3 (show q ≤ s_l2 172 (s_l2 170 13 : Int).toNat by omega) (fun z => absurd rfl z)), (show 0 ≤ (p + 1) ∧ (p + 1) ≤ s_l2 172 (s_l2 170 13 : Int).toNat ∧ 0 ≤ i ∧ i ≤ n - 1 from by omega)⟩ rfl)
                · refine ⟨by omega, ?_⟩
                  refine ⟨by omega, ?_⟩
                  exact hsl _ _ _ _ _ (sb_cons (.head _) (sb_cons (.tail _ (.tail _ (.tail _ (.head _)))) (sb_cons (.tail _ (.tail _ (.tail _ (.tail _ (.head _))))) (sb_cons (.tail _ (.tail _ (.tail _ (.tail _ (.tail _ (.head _)))))) sb_nil)))) (ih_l2 _ (show (s_l2 172 (s_l2 170 13 : Int).toNat - (p + 1) : Int).toNat < u_l2 from by omega) (p + 1) (zup s_l2 218 (((8 : Int) * i) + p : Int).toNat wy) ⟨(gInv_up gI_l2 (p_onFrom (by omega))), (fr_a fI_l2 rfl), (show FLA (zup s_l2 218 (((8 : Int) * i) + p : Int).toNat wy) n (i + 1) from FLA_up (show s_l2 172 (s_l2 170 13 : Int).toNat ≤ 8 by omega) (by omega) ⟨by omega, by omega⟩ a_l2), (show FLb (zup s_l2 218 (((8 : Int) * i) + p : Int).toNat wy) n i (p + 1) from FLb_up (show s_l2 172 (s_l2 170 13 : Int).toNat ≤ 8 by omega) (by omega) ⟨by omega, by omega⟩ b_l2 w_l3 (show q ≤ s_l2 172 (s_l2 170 13 : Int).toNat by omega) (fun _ => rfl)), (show 0 ≤ (p + 1) ∧ (p + 1) ≤ s_l2 172 (s_l2 170 13 : Int).toNat ∧ 0 ≤ i ∧ i ≤ n - 1 from by omega)⟩ rfl)
              · refine ⟨by omega, ?_⟩
                refine ⟨fun h50 => ?_, fun h50 => ?_⟩
                · refine ⟨by omega, ?_⟩
                  refine ⟨by omega, ?_⟩
                  refine ⟨rfl, gI_l2, fun r46 => ?_⟩
                  refine ⟨fun h51 => ?_, fun h51 => ?_⟩
                  · refine ⟨by omega, ?_⟩
                    refine ⟨by omega, ?_⟩
                    exact hsl _ _ _ _ _ (sb_cons (.head _) (sb_cons (.tail _ (.tail _ (.tail _ (.head _)))) (sb_cons (.tail _ (.tail _ (.tail _ (.tail _ (.head _))))) (sb_cons (.tail _ (.tail _ (.tail _ (.tail _ (.tail _ (.head _)))))) sb_nil)))) (ih_l2 _ (show (s_l2 172 (s_l2 170 13 : Int).toNat - (p + 1) : Int).toNat < u_l2 from by omega) (p + 1) (zup s_l2 218 (((8 : Int) * i) + p : Int).toNat 0) ⟨(gInv_up gI_l2 (p_onFrom (by omega))), (fr_a fI_l2 rfl), (show FLA (zup s_l2 218 (((8 : Int) * i) + p : Int).toNat 0) n (i + 1) from FLA_up (show s_l2 172 (s_l2 170 13 : Int).toNat ≤ 8 by omega) (by omega) ⟨by omega, by omega⟩ a_l2), (show FLb (zup s_l2 218 (((8 : Int) * i) + p : Int).toNat 0) n i (p + 1) from FLb_up (show s_l2 172 (s_l2 170 13 : Int).toNat ≤ 8 by omega) (by omega) ⟨by omega, by omega⟩ b_l2 w_l3 (show q ≤ s_l2 172 (s_l2 170 13 : Int).toNat by omega) (fun z => absurd rfl z)), (show 0 ≤ (p + 1) ∧ (p + 1) ≤ s_l2 172 (s_l2 170 13 : Int).toNat ∧ 0 ≤ i ∧ i ≤ n - 1 from by omega)⟩ rfl)
                  · refine ⟨by omega, ?_⟩
                    refine ⟨by omega, ?_⟩
                    exact hsl _ _ _ _ _ (sb_cons (.head _) (sb_cons (.tail _ (.tail _ (.tail _ (.head _)))) (sb_cons (.tail _ (.tail _ (.tail _ (.tail _ (.head _))))) (sb_cons (.tail _ (.tail _ (.tail _ (.tail _ (.tail _ (.head _)))))) sb_nil)))) (ih_l2 _ (show (s_l2 172 (s_l2 170 13 : Int).toNat - (p + 1) : Int).toNat < u_l2 from by omega) (p + 1) (zup s_l2 218 (((8 : Int) * i) + p : Int).toNat wy) ⟨(gInv_up gI_l2 (p_onFrom (by omega))), (fr_a fI_l2 rfl), (show FLA (zup s_l2 218 (((8 : Int) * i) + p : Int).toNat wy) n (i + 1) from FLA_up (show s_l2 172 (s_l2 170 13 : Int).toNat ≤ 8 by omega) (by omega) ⟨by omega, by omega⟩ a_l2), (show FLb (zup s_l2 218 (((8 : Int) * i) + p : Int).toNat wy) n i (p + 1) from FLb_up (show s_l2 172 (s_l2 170 13 : Int).toNat ≤ 8 by omega) (by omega) ⟨by omega, by omega⟩ b_l2 w_l3 (show q ≤ s_l2 172 (s_l2 170 13 : Int).toNat by omega) (fun _ => rfl)), (show 0 ≤ (p + 1) ∧ (p + 1) ≤ s_l2 172 (s_l2 170 13 : Int).toNat ∧ 0 ≤ i ∧ i ≤ n - 1 from by omega)⟩ rfl)
                · refine ⟨rfl, (show 0 ≤ (s_l2 170 13) ∧ (s_l2 170 13) ≤ 1 ∧ 0 ≤ p ∧ p < 8 ∧ 0 ≤ q ∧ q < 8 from by omega), fun r47 q47 => ?_⟩
                  have e47 := q47
                  change r47 = s_l2 177 (64 * (s_l2 170 13) + 8 * p + q : Int).toNat at e47
                  have g53 := g_streetAt hG (64 * (st 170 13) + 8 * p + q : Int).toNat
                  have e52 : s_l2 177 (64 * (s_l2 170 13) + 8 * p + q : Int).toNat = st 177 (64 * (st 170 13) + 8 * p + q : Int).toNat := (fI_l2 177 (64 * (s_l2 170 13) + 8 * p + q : Int).toNat rfl rfl).trans (by rw [e41] <;> rfl)
                  refine ⟨fun h54 => ?_, fun h54 => ?_⟩
                  · refine ⟨by omega, ?_⟩
                    exact ih_l3 _ (show (s_l2 172 (s_l2 170 13 : Int).toNat - (q + 1) : Int).toNat < u_l3 from by omega) (q + 1) (zx (wy + 0)) ⟨(show FLw s_l2 n i p (q + 1) (zx (wy + 0)) from FLw_s w_l3 (by omega) (fun z => absurd rfl z)), (show -9223372036854775808 ≤ (zx (wy + 0)) ∧ (zx (wy + 0)) ≤ 9223372036854775807 from zx_ok _), (show 0 ≤ (q + 1) ∧ (q + 1) ≤ s_l2 172 (s_l2 170 13 : Int).toNat ∧ 0 ≤ p ∧ p < s_l2 172 (s_l2 170 13 : Int).toNat from by omega)⟩ rfl
                  · refine ⟨by omega, ?_⟩
                    refine ⟨by omega, ?_⟩
                    refine ⟨by omega, ?_⟩
                    have g55 := g_onFrom gI_l2 (((8 : Int) * (i + 1)) + q : Int).toNat
                    refine ⟨by omega, ?_⟩
                    refine ⟨by omega, ?_⟩
                    exact ih_l3 _ (show (s_l2 172 (s_l2 170 13 : Int).toNat - (q + 1) : Int).toNat < u_l3 from by omega) (q + 1) (zx (wy + (s_l2 218 (((8 : Int) * (i + 1)) + q : Int).toNat))) ⟨(show FLw s_l2 n i p (q + 1) (zx (wy + (s_l2 218 (((8 : Int) * (i + 1)) + q : Int).toNat))) from FLw_s w_l3 (by omega) (fun z => ⟨by show 0 < s_l2 177 (64 * s_l2 170 13 + 8 * p + q : Int).toNat; omega, z⟩)), (show -9223372036854775808 ≤ (zx (wy + (s_l2 218 (((8 : Int) * (i + 1)) + q : Int).toNat))) ∧ (zx (wy + (s_l2 218 (((8 : Int) * (i + 1)) + q : Int).toNat))) ≤ 9223372036854775807 from zx_ok _), (show 0 ≤ (q + 1) ∧ (q + 1) ≤ s_l2 172 (s_l2 170 13 : Int).toNat ∧ 0 ≤ p ∧ p < s_l2 172 (s_l2 170 13 : Int).toNat from by omega)⟩ rfl
          refine yr1_ok (Rt := Q) (wc := (wcL [(0, k_between), (222, k_canBe)])) (stp := [32, 38, 68, 172, 179, 206, 310]) hcm hcl [123, 258, 332] 215 ?_
          show ((0 ≤ s_l2 170 13 ∧ s_l2 170 13 < 2) ∧ ((s_l2 172 (s_l2 170 13 : Int).toNat ≤ p → ((-2147483648 ≤ i + (-1) ∧ i + (-1) ≤ 2147483647) ∧ K (rx_find rx_m35 32) [(2, .inl (i + (-1))), (3, .inl p), (0, .inr (.inr (.inl 170))), (1, .inl n)] [] s_l2)) ∧ (¬ (s_l2 172 (s_l2 170 13 : Int).toNat ≤ p) → ((-2147483648 ≤ n - 1 ∧ n - 1 ≤ 2147483647) ∧ ((¬ i = n - 1 → K (rx_find rx_m35 68) [(6, .inl 0), (4, .inr (.inl 0)), (3, .inl p), (2, .inl i), (0, .inr (.inr (.inl 170))), (1, .inl n)] [] s_l2) ∧ (¬ (¬ i = n - 1) → K (rx_find rx_m35 68) [(6, .inl 0), (4, .inr (.inl 1)), (3, .inl p), (2, .inl i), (0, .inr (.inr (.inl 170))), (1, .inl n)] [] s_l2))))))
          refine ⟨by omega, ?_⟩
          refine ⟨fun h56 => ?_, fun h56 => ?_⟩
          · refine ⟨by omega, ?_⟩
            exact hsl _ _ _ _ _ (sb_cons (.head _) (sb_cons (.tail _ (.tail _ (.head _))) (sb_cons (.tail _ (.tail _ (.tail _ (.head _)))) sb_nil))) (ih_l1 _ (show ((i + (-1)) + 1 : Int).toNat < u_l1 from by omega) (i + (-1)) s_l2 ⟨gI_l2, fI_l2, (show FLA s_l2 n ((i + (-1)) + 1) from by rw [show (i + (-1) + 1 : Int) = i by omega]; exact FLA_dn a_l2 b_l2 (show s_l2 172 (s_l2 170 13 : Int).toNat ≤ p by omega)), (show -1 ≤ (i + (-1)) ∧ (i + (-1)) ≤ n - 1 from by omega)⟩ rfl)
          · refine ⟨by omega, ?_⟩
            refine ⟨fun h57 => ?_, fun h57 => ?_⟩
            · exact l3 _ 0 0 ⟨(show FLw s_l2 n i p (0 : Int) (0 : Int) from fun z1 z2 => absurd rfl z2), (show -9223372036854775808 ≤ (0 : Int) ∧ (0 : Int) ≤ 9223372036854775807 from by omega), (show 0 ≤ (0 : Int) ∧ (0 : Int) ≤ s_l2 172 (s_l2 170 13 : Int).toNat ∧ 0 ≤ p ∧ p < s_l2 172 (s_l2 170 13 : Int).toNat from by omega)⟩ rfl
            · exact l3 _ 0 1 ⟨(show FLw s_l2 n i p (0 : Int) (1 : Int) from fun z1 z2 => by omega), (show -9223372036854775808 ≤ (1 : Int) ∧ (1 : Int) ≤ 9223372036854775807 from by omega), (show 0 ≤ (0 : Int) ∧ (0 : Int) ≤ s_l2 172 (s_l2 170 13 : Int).toNat ∧ 0 ≤ p ∧ p < s_l2 172 (s_l2 170 13 : Int).toNat from by omega)⟩ rfl
      refine yr1_ok (Rt := Q) (wc := (wcL [(0, k_between), (222, k_canBe)])) (stp := [32, 38, 68, 172, 179, 206, 310]) hcm hcl [123, 258, 332] 215 ?_
      show ((i < (0 : Int) → K (rx_find rx_m35 172) [(2, .inl 0), (0, .inr (.inr (.inl 170))), (1, .inl n)] [] s_l1) ∧ (¬ (i < (0 : Int)) → K (rx_find rx_m35 38) [(3, .inl 0), (2, .inl i), (0, .inr (.inr (.inl 170))), (1, .inl n)] [] s_l1))
      refine ⟨fun h58 => ?_, fun h58 => ?_⟩
      · exact l4 _ 0 s_l1 ⟨gI_l1, fI_l1, (show FLA s_l1 n 0 from by have z := a_l1; rw [show (i + 1 : Int) = 0 by omega] at z; exact z), (show 0 ≤ (0 : Int) ∧ (0 : Int) ≤ n from by omega)⟩ rfl
      · have g60 := g_places hG (st 170 13 : Int).toNat
        have e59 : s_l1 172 (s_l1 170 13 : Int).toNat = st 172 (st 170 13 : Int).toNat := (fI_l1 172 (s_l1 170 13 : Int).toNat rfl rfl).trans (by rw [e35] <;> rfl)
        exact l2 _ 0 s_l1 ⟨gI_l1, fI_l1, (show FLA s_l1 n (i + 1) from a_l1), (show FLb s_l1 n i (0 : Int) from fun _ c z1 z2 => by omega), (show 0 ≤ (0 : Int) ∧ (0 : Int) ≤ s_l1 172 (s_l1 170 13 : Int).toNat ∧ 0 ≤ i ∧ i ≤ n - 1 from by omega)⟩ rfl
  have l0 : ∀ (u : Nat) (k : Int), (0 ≤ k ∧ k ≤ st 170 71) → (st 170 71 - k).toNat = u → K (rx_find rx_m35 2) [(2, .inl k), (0, .inr (.inr (.inl 170))), (1, .inl n)] [] st := by
    intro u_l0
    induction u_l0 using Nat.strongRecOn with
    | _ u_l0 ih_l0 =>
      intro k hi hu_l0
      have i_l0 := hi
      have g61 := g_rows hG
      refine yr1_ok (Rt := Q) (wc := (wcL [(0, k_between), (222, k_canBe)])) (stp := [2, 32, 38, 68, 172, 179, 206, 310]) hcm hcl [123, 258, 332] 215 ?_
      show ((st 170 71 ≤ k → ((-2147483648 ≤ n - 1 ∧ n - 1 ≤ 2147483647) ∧ K (rx_find rx_m35 32) [(2, .inl (n - 1)), (0, .inr (.inr (.inl 170))), (1, .inl n)] [] st)) ∧ (¬ (st 170 71 ≤ k) → ((0 ≤ k ∧ k < 20) ∧ ((st 216 (k : Int).toNat < n → ((-2147483648 ≤ k + 1 ∧ k + 1 ≤ 2147483647) ∧ K (rx_find rx_m35 2) [(2, .inl (k + 1)), (0, .inr (.inr (.inl 170))), (1, .inl n)] [] st)) ∧ (¬ (st 216 (k : Int).toNat < n) → Q (some (.inr (.inl 0))) st)))))
      refine ⟨fun h62 => ?_, fun h62 => ?_⟩
      · refine ⟨by omega, ?_⟩
        exact l1 _ (n - 1) st ⟨hG, (fr_rf _ _), (show FLA st n ((n - 1) + 1) from fun i p z1 z2 => by omega), (show -1 ≤ (n - 1) ∧ (n - 1) ≤ n - 1 from by omega)⟩ rfl
      · have g63 := g_rowNumber hG (k : Int).toNat
        refine ⟨by omega, ?_⟩
        refine ⟨fun h64 => ?_, fun h64 => ?_⟩
        · refine ⟨by omega, ?_⟩
          exact ih_l0 _ (show (st 170 71 - (k + 1) : Int).toNat < u_l0 from by omega) (k + 1) (show 0 ≤ (k + 1) ∧ (k + 1) ≤ st 170 71 from by omega) rfl
        · exact hQ _ _ ⟨hG, (fr_rf _ _), (show -9223372036854775808 ≤ (0 : Int) ∧ (0 : Int) ≤ 9223372036854775807 from by omega), (show FL0 st (npl st) (0 : Int) from fun z => absurd rfl z), (show ¬ (0 : Int) = 0 → FLA st n 0 from fun z => absurd rfl z)⟩
  have g65 := g_rows hG
  refine yr1_ok (Rt := Q) (wc := (wcL [(0, k_between), (222, k_canBe)])) (stp := [2, 32, 38, 68, 172, 179, 206, 310]) hcm hcl [123, 258, 332] 215 ?_
  show K (rx_find rx_m35 2) [(2, .inl 0), (0, .inr (.inr (.inl 170))), (1, .inl n)] [] st
  exact l0 _ 0 (show 0 ≤ (0 : Int) ∧ (0 : Int) ≤ st 170 71 from by omega) rfl
theorem k_fills_m (hTb : aTb zSh rx_tb cl) {D : Nat} (hD : 2 ≤ D) : ∀ as st (Q Q' : zQ), (∀ r st', Q r st' → Q' r st') → k_fills 35 as st Q → cl D 35 as st Q' := by
  intro as st Q Q' hQ h
  unfold k_fills at h
  split at h
  · obtain ⟨rfl, h⟩ := h
    exact c_fills hTb hD (ct_fills_m hQ h)
  · exact h.elim
set_option maxHeartbeats 40000000 in
set_option maxRecDepth 100000 in
theorem c_filling (hTb : aTb zSh rx_tb cl) {D : Nat} (hD : 3 ≤ D) {n k : Int} {st : zS} {Q : zQ} (h : ct_filling n k st Q) : cl D 30 [.inr (.inr (.inl 170)), .inl n, .inl k] st Q := by
  obtain ⟨d, rfl⟩ : ∃ d, D = d + 1 := ⟨D - 1, by omega⟩
  refine hTb d 30 (rx_m30, 6, 0, 0, 1) rfl _ _ _ (Nat.le_of_ble_eq_true rfl) (fun K hcl hsf hsl => ?_)
  have hcm : zmo (wcL [(8, k_is), (35, k_fills), (0, k_between)]) (cl d) := (wcL_m (wm_cons (k_is_m hTb (by omega)) (wm_cons (k_fills_m hTb (by omega)) (wm_cons (k_between_m hTb (by omega)) wm_nil))))
  obtain ⟨hR, hQ⟩ := h
  obtain ⟨hG, hJ⟩ := hR
  have lo : ∀ (u : Nat) (i : Int) (wa : Int) (s_lo : zS), gInv zgt s_lo ∧ zJ s_lo ∧ s_lo 170 1 = st 170 1 ∧ zV0 st s_lo ∧ (FLA s_lo n 0) ∧ (∃ c : Int, 0 ≤ c ∧ c < npl s_lo ∧ ¬ s_lo 218 c.toNat = 0) ∧ (FLs s_lo i wa) ∧ (0 ≤ i ∧ i ≤ k + 1 ∧ 0 ≤ k ∧ k < n ∧ n ≤ 20) → (k + 1 - i).toNat = u → K (rx_find rx_m30 38) [(4, .inl i), (3, .inl wa), (0, .inr (.inr (.inl 170))), (1, .inl n), (2, .inl k)] [] s_lo := by
    intro u_lo
    induction u_lo using Nat.strongRecOn with
    | _ u_lo ih_lo =>
      intro i wa s_lo hi hu_lo
      obtain ⟨gI_lo, jI_lo, tI_lo, vI_lo, a_lo, z_lo, w_lo, i_lo⟩ := hi
      have li : ∀ (u : Nat) (ai : Int), (FLt s_lo i wa ai) ∧ (0 ≤ ai ∧ 0 ≤ i ∧ i ≤ k) → (8 - ai).toNat = u → K (rx_find rx_m30 47) [(5, .inl ai), (4, .inl i), (3, .inl wa), (0, .inr (.inr (.inl 170))), (1, .inl n), (2, .inl k)] [] s_lo := by
        intro u_li
        induction u_li using Nat.strongRecOn with
        | _ u_li ih_li =>
          intro ai hi hu_li
          obtain ⟨t_li, i_li⟩ := hi
          have tb := FLt_b t_li
          have wb := FLs_b w_lo
          have g1 := g_bank gI_lo
          have g2 := g_places gI_lo (s_lo 170 13 : Int).toNat
          refine yr1_ok (Rt := Q) (wc := (wcL [(8, k_is), (35, k_fills), (0, k_between)])) (stp := [38, 47]) hcm hcl [] 78 ?_
          show ((-2147483648 ≤ (8 : Int) * i ∧ (8 : Int) * i ≤ 2147483647) ∧ ((-2147483648 ≤ ((8 : Int) * i) + ai ∧ ((8 : Int) * i) + ai ≤ 2147483647) ∧ ((0 ≤ ((8 : Int) * i) + ai ∧ ((8 : Int) * i) + ai < 160) ∧ (∀ (w3 : Int), (s_lo 218 (((8 : Int) * i) + ai : Int).toNat < 0 ∧ w3 = -1 ∨ s_lo 218 (((8 : Int) * i) + ai : Int).toNat = 0 ∧ w3 = 0 ∨ 0 < s_lo 218 (((8 : Int) * i) + ai : Int).toNat ∧ w3 = 1) → ((w3 = (0 : Int) → ((-2147483648 ≤ ai + 1 ∧ ai + 1 ≤ 2147483647) ∧ K (rx_find rx_m30 47) [(5, .inl (ai + 1)), (4, .inl i), (3, .inl wa), (0, .inr (.inr (.inl 170))), (1, .inl n), (2, .inl k)] [] s_lo)) ∧ (¬ (w3 = (0 : Int)) → ((wa = ((-1) : Int) → ((-2147483648 ≤ i + 1 ∧ i + 1 ≤ 2147483647) ∧ K (rx_find rx_m30 38) [(4, .inl (i + 1)), (3, .inl ai), (5, .inl ai), (0, .inr (.inr (.inl 170))), (1, .inl n), (2, .inl k)] [] s_lo)) ∧ (¬ (wa = ((-1) : Int)) → (170 = 170 ∧ (rq_between (s_lo 170 13) wa ai s_lo ∧ (∀ (r4 : Int), en_between (s_lo 170 13) wa ai s_lo r4 → ((¬ r4 = (0 : Int) → ((-2147483648 ≤ i + 1 ∧ i + 1 ≤ 2147483647) ∧ K (rx_find rx_m30 38) [(4, .inl (i + 1)), (3, .inl ai), (5, .inl ai), (0, .inr (.inr (.inl 170))), (1, .inl n), (2, .inl k)] [] s_lo)) ∧ (¬ (¬ r4 = (0 : Int)) → ((-2147483648 ≤ ai + 1 ∧ ai + 1 ≤ 2147483647) ∧ K (rx_find rx_m30 47) [(5, .inl (ai + 1)), (4, .inl i), (3, .inl wa), (0, .inr (.inr (.inl 170))), (1, .inl n), (2, .inl k)] [] s_lo))))))))))))))
          refine ⟨by omega, ?_⟩
          refine ⟨by omega, ?_⟩
          have g5 := g_onFrom gI_lo (((8 : Int) * i) + ai : Int).toNat
          refine ⟨by omega, ?_⟩
          intro w3 hw3
          refine ⟨fun h6 => ?_, fun h6 => ?_⟩
          · refine ⟨by omega, ?_⟩
            exact ih_li _ (show (8 - (ai + 1) : Int).toNat < u_li from by omega) (ai + 1) ⟨(show FLt s_lo i wa (ai + 1) from FLt_s t_li (by first | exact Or.inl (by omega) | exact Or.inr ⟨by omega, by show s_lo 177 (64 * s_lo 170 13 + 8 * wa + ai : Int).toNat = 0; omega⟩)), (show 0 ≤ (ai + 1) ∧ 0 ≤ i ∧ i ≤ k from by omega)⟩ rfl
          · refine ⟨fun h7 => ?_, fun h7 => ?_⟩
            · refine ⟨by omega, ?_⟩
              exact hsl _ _ _ _ _ (sb_cons (.head _) (sb_cons (.tail _ (.head _)) (sb_cons (.tail _ (.tail _ (.tail _ (.head _)))) (sb_cons (.tail _ (.tail _ (.tail _ (.tail _ (.head _))))) (sb_cons (.tail _ (.tail _ (.tail _ (.tail _ (.tail _ (.head _)))))) sb_nil))))) (ih_lo _ (show (k + 1 - (i + 1) : Int).toNat < u_lo from by omega) (i + 1) ai s_lo ⟨gI_lo, jI_lo, tI_lo, vI_lo, (show FLA s_lo n 0 from a_lo), (show ∃ c : Int, 0 ≤ c ∧ c < npl s_lo ∧ ¬ s_lo 218 c.toNat = 0 from z_lo), (show FLs s_lo (i + 1) ai from Or.inr ⟨by omega, by omega, FLt_b t_li, by rw [show (i + 1 - 1 : Int) = i by omega]; omega⟩), (show 0 ≤ (i + 1) ∧ (i + 1) ≤ k + 1 ∧ 0 ≤ k ∧ k < n ∧ n ≤ 20 from by omega)⟩ rfl)
            · refine ⟨rfl, (show 0 ≤ (s_lo 170 13) ∧ (s_lo 170 13) ≤ 1 ∧ 0 ≤ wa ∧ wa < 8 ∧ 0 ≤ ai ∧ ai < 8 from by omega), fun r4 q4 => ?_⟩
              have e4 := q4
              change r4 = s_lo 177 (64 * (s_lo 170 13) + 8 * wa + ai : Int).toNat at e4
              have g8 := g_streetAt gI_lo (64 * (s_lo 170 13) + 8 * wa + ai : Int).toNat
              refine ⟨fun h9 => ?_, fun h9 => ?_⟩
              · refine ⟨by omega, ?_⟩
                exact hsl _ _ _ _ _ (sb_cons (.head _) (sb_cons (.tail _ (.head _)) (sb_cons (.tail _ (.tail _ (.tail _ (.head _)))) (sb_cons (.tail _ (.tail _ (.tail _ (.tail _ (.head _))))) (sb_cons (.tail _ (.tail _ (.tail _ (.tail _ (.tail _ (.head _)))))) sb_nil))))) (ih_lo _ (show (k + 1 - (i + 1) : Int).toNat < u_lo from by omega) (i + 1) ai s_lo ⟨gI_lo, jI_lo, tI_lo, vI_lo, (show FLA s_lo n 0 from a_lo), (show ∃ c : Int, 0 ≤ c ∧ c < npl s_lo ∧ ¬ s_lo 218 c.toNat = 0 from z_lo), (show FLs s_lo (i + 1) ai from Or.inr ⟨by omega, by omega, FLt_b t_li, by rw [show (i + 1 - 1 : Int) = i by omega]; omega⟩), (show 0 ≤ (i + 1) ∧ (i + 1) ≤ k + 1 ∧ 0 ≤ k ∧ k < n ∧ n ≤ 20 from by omega)⟩ rfl)
              · refine ⟨by omega, ?_⟩
                exact ih_li _ (show (8 - (ai + 1) : Int).toNat < u_li from by omega) (ai + 1) ⟨(show FLt s_lo i wa (ai + 1) from FLt_s t_li (by first | exact Or.inl (by omega) | exact Or.inr ⟨by omega, by show s_lo 177 (64 * s_lo 170 13 + 8 * wa + ai : Int).toNat = 0; omega⟩)), (show 0 ≤ (ai + 1) ∧ 0 ≤ i ∧ i ≤ k from by omega)⟩ rfl
      refine yr1_ok (Rt := Q) (wc := (wcL [(8, k_is), (35, k_fills), (0, k_between)])) (stp := [38, 47]) hcm hcl [] 78 ?_
      show ((k < i → Q (some (.inl wa)) s_lo) ∧ (¬ (k < i) → K (rx_find rx_m30 47) [(5, .inl 0), (4, .inl i), (3, .inl wa), (0, .inr (.inr (.inl 170))), (1, .inl n), (2, .inl k)] [] s_lo))
      refine ⟨fun h10 => ?_, fun h10 => ?_⟩
      · exact hQ _ _ ⟨gI_lo, jI_lo, tI_lo, vI_lo⟩
      · exact li _ 0 ⟨(show FLt s_lo i wa (0 : Int) from FLt_0 a_lo z_lo w_lo (by omega)), (show 0 ≤ (0 : Int) ∧ 0 ≤ i ∧ i ≤ k from by omega)⟩ rfl
  refine yr1_ok (Rt := Q) (wc := (wcL [(8, k_is), (35, k_fills), (0, k_between)])) (stp := [38, 47]) hcm hcl [] 78 ?_
  show (∀ (r11 : Int), en_is n (1) (20) st r11 → ((r11 = (0 : Int) → Q (some (.inl (-1))) st) ∧ (¬ (r11 = (0 : Int)) → ((-2147483648 ≤ n - 1 ∧ n - 1 ≤ 2147483647) ∧ (∀ (r12 : Int), en_is k (0) (n - 1) st r12 → ((r12 = (0 : Int) → Q (some (.inl (-1))) st) ∧ (¬ (r12 = (0 : Int)) → (170 = 170 ∧ (rq_fills n st ∧ (∀ (r13 : Int) (s13 : zS), en_fills n st r13 s13 → (∀ (w14 : Int), (r13 < 0 ∧ w14 = -1 ∨ r13 = 0 ∧ w14 = 0 ∨ 0 < r13 ∧ w14 = 1) → ((¬ w14 = (0 : Int) → K (rx_find rx_m30 38) [(4, .inl 0), (3, .inl (-1)), (0, .inr (.inr (.inl 170))), (1, .inl n), (2, .inl k)] [] s13) ∧ (¬ (¬ w14 = (0 : Int)) → Q (some (.inl (-1))) s13)))))))))))))
  refine fun r11 q11 => ?_
  have b11 := q11
  change (r11 = 0 ∨ r11 = 1) ∧ (r11 = 1 ↔ (1) ≤ n ∧ n ≤ (20)) at b11
  refine ⟨fun h15 => ?_, fun h15 => ?_⟩
  · exact hQ _ _ ⟨hG, hJ, rfl, (zV0_rf _)⟩
  · refine ⟨by omega, ?_⟩
    refine fun r12 q12 => ?_
    have b12 := q12
    change (r12 = 0 ∨ r12 = 1) ∧ (r12 = 1 ↔ (0) ≤ k ∧ k ≤ (n - 1)) at b12
    refine ⟨fun h16 => ?_, fun h16 => ?_⟩
    · exact hQ _ _ ⟨hG, hJ, rfl, (zV0_rf _)⟩
    · refine ⟨rfl, ⟨hG, (show 1 ≤ n ∧ n ≤ 20 from by omega)⟩, fun r13 s13 q13 => ?_⟩
      obtain ⟨gs13, fs13, e13, fz13, fa13⟩ := q13
      change -9223372036854775808 ≤ r13 ∧ r13 ≤ 9223372036854775807 at e13
      change FL0 s13 (npl s13) r13 at fz13
      change ¬ r13 = 0 → FLA s13 n 0 at fa13
      intro w14 hw14
      refine ⟨fun h17 => ?_, fun h17 => ?_⟩
      · exact lo _ 0 (-1) s13 ⟨gs13, (zJ_fr rfl fs13 hJ), (fs13 170 1 rfl rfl), (zV0_tr (zV0_rf _) (zV0_fr rfl fs13)), (show FLA s13 n 0 from fa13 (by omega)), (show ∃ c : Int, 0 ≤ c ∧ c < npl s13 ∧ ¬ s13 218 c.toNat = 0 from fz13 (by omega)), (show FLs s13 (0 : Int) ((-1) : Int) from Or.inl ⟨rfl, rfl⟩), (show 0 ≤ (0 : Int) ∧ (0 : Int) ≤ k + 1 ∧ 0 ≤ k ∧ k < n ∧ n ≤ 20 from by omega)⟩ rfl
      · exact hQ _ _ ⟨gs13, (zJ_fr rfl fs13 hJ), (fs13 170 1 rfl rfl), (zV0_tr (zV0_rf _) (zV0_fr rfl fs13))⟩
theorem k_filling_m (hTb : aTb zSh rx_tb cl) {D : Nat} (hD : 3 ≤ D) : ∀ as st (Q Q' : zQ), (∀ r st', Q r st' → Q' r st') → k_filling 30 as st Q → cl D 30 as st Q' := by
  intro as st Q Q' hQ h
  unfold k_filling at h
  split at h
  · obtain ⟨rfl, h⟩ := h
    exact c_filling hTb hD (ct_filling_m hQ h)
  · exact h.elim
end R7m
