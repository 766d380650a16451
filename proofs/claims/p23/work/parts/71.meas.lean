/-! printed by wip/p32/libc.py: the reference measures -/
def m_measures : aM := ([], [209])
def rq_measures (g : Int) (st : zS) : Prop := gInv zgt st
def en_measures (g : Int) (st : zS) (s1 : zS) : Prop := gInv zgt s1 ∧ aFr m_measures st s1 ∧ (FWs (eg st g) (wgt st) (s1 209) 8)
def ct_measures (g : Int) (st : zS) (Q : zQ) : Prop := rq_measures g st ∧ (∀ (s1 : zS), en_measures g st s1 → Q none s1)
theorem ct_measures_m {g : Int} {st : zS} {Q Q' : zQ} (hQ : ∀ r st', Q r st' → Q' r st') (h : ct_measures g st Q) : ct_measures g st Q' := ⟨h.1, fun x0 x1 => hQ _ _ (h.2 x0 x1)⟩
def k_measures : zCall := fun _ as st Q => match as with
  | [.inr (.inr (.inl z_o)), .inl g] => z_o = 170 ∧ ct_measures g st Q
  | _ => False
theorem k_measures_mon : zmon k_measures := by
  intro nu as st Q Q' hQ h
  unfold k_measures at h ⊢
  split at h
  · exact ⟨h.1, ct_measures_m hQ h.2⟩
  · exact h.elim
section R71
variable {cl : Nat → zCall}
set_option maxHeartbeats 40000000 in
set_option maxRecDepth 100000 in
theorem c_measures (hTb : aTb zSh rx_tb cl) {D : Nat} (hD : 2 ≤ D) {g : Int} {st : zS} {Q : zQ} (h : ct_measures g st Q) : cl D 15 [.inr (.inr (.inl 170)), .inl g] st Q := by
  obtain ⟨d, rfl⟩ : ∃ d, D = d + 1 := ⟨D - 1, by omega⟩
  refine hTb d 15 (rx_m15, 6, 0, 0, 0) rfl _ _ _ (Nat.le_of_ble_eq_true rfl) (fun K hcl hsf hsl => ?_)
  have hcm : zmo (wcL [(0, k_between), (201, k_has2)]) (cl d) := (wcL_m (wm_cons (k_between_m hTb (by omega)) (wm_cons (k_has2_m hTb (by omega)) wm_nil)))
  obtain ⟨hR, hQ⟩ := h
  have hG := hR
  have hw : ∀ x y : Int, 0 ≤ wgt st x y ∧ wgt st x y ≤ 99 := fun x y => g_pacesOf hG _
  have lk : ∀ (u : Nat) (k : Int) (s_lk : zS), gInv zgt s_lk ∧ aFr m_measures st s_lk ∧ (FWs (eg st g) (wgt st) (s_lk 209) k) ∧ (0 ≤ k ∧ k ≤ 8) → (8 - k).toNat = u → K (rx_find rx_m15 101) [(2, .inl k), (0, .inr (.inr (.inl 170)))] [] s_lk := by
    intro u_lk
    induction u_lk using Nat.strongRecOn with
    | _ u_lk ih_lk =>
      intro k s_lk hi hu_lk
      obtain ⟨gI_lk, fI_lk, w_lk, b_lk⟩ := hi
      have la : ∀ (u : Nat) (a : Int) (s_la : zS), gInv zgt s_la ∧ aFr m_measures st s_la ∧ (FWb (s_lk 209) (s_la 209) k a 0) ∧ (0 ≤ a ∧ a ≤ 8 ∧ k < 8) → (8 - a).toNat = u → K (rx_find rx_m15 109) [(3, .inl a), (2, .inl k), (0, .inr (.inr (.inl 170)))] [] s_la := by
        intro u_la
        induction u_la using Nat.strongRecOn with
        | _ u_la ih_la =>
          intro a s_la hi hu_la
          obtain ⟨gI_la, fI_la, w_la, b_la⟩ := hi
          have lb : ∀ (u : Nat) (b : Int) (s_lb : zS), gInv zgt s_lb ∧ aFr m_measures st s_lb ∧ (FWb (s_lk 209) (s_lb 209) k a b) ∧ (0 ≤ b ∧ b ≤ 8 ∧ a < 8) → (8 - b).toNat = u → K (rx_find rx_m15 118) [(4, .inl b), (3, .inl a), (2, .inl k), (0, .inr (.inr (.inl 170)))] [] s_lb := by
            intro u_lb
            induction u_lb using Nat.strongRecOn with
            | _ u_lb ih_lb =>
              intro b s_lb hi hu_lb
              obtain ⟨gI_lb, fI_lb, w_lb, b_lb⟩ := hi
              refine yr1_ok (Rt := Q) (wc := (wcL [(0, k_between), (201, k_has2)])) (stp := [101, 109, 118]) hcm hcl [] 134 ?_
              show (((8 : Int) ≤ b → ((-2147483648 ≤ a + 1 ∧ a + 1 ≤ 2147483647) ∧ K (rx_find rx_m15 109) [(3, .inl (a + 1)), (4, .inl b), (2, .inl k), (0, .inr (.inr (.inl 170)))] [] s_lb)) ∧ (¬ ((8 : Int) ≤ b) → ((-2147483648 ≤ (8 : Int) * a ∧ (8 : Int) * a ≤ 2147483647) ∧ ((-2147483648 ≤ ((8 : Int) * a) + k ∧ ((8 : Int) * a) + k ≤ 2147483647) ∧ ((0 ≤ ((8 : Int) * a) + k ∧ ((8 : Int) * a) + k < 64) ∧ ((-2147483648 ≤ (8 : Int) * k ∧ (8 : Int) * k ≤ 2147483647) ∧ ((-2147483648 ≤ ((8 : Int) * k) + b ∧ ((8 : Int) * k) + b ≤ 2147483647) ∧ ((0 ≤ ((8 : Int) * k) + b ∧ ((8 : Int) * k) + b < 64) ∧ ((-2147483648 ≤ (s_lb 209 (((8 : Int) * a) + k : Int).toNat) + (s_lb 209 (((8 : Int) * k) + b : Int).toNat) ∧ (s_lb 209 (((8 : Int) * a) + k : Int).toNat) + (s_lb 209 (((8 : Int) * k) + b : Int).toNat) ≤ 2147483647) ∧ ((-2147483648 ≤ (8 : Int) * a ∧ (8 : Int) * a ≤ 2147483647) ∧ ((-2147483648 ≤ ((8 : Int) * a) + b ∧ ((8 : Int) * a) + b ≤ 2147483647) ∧ ((0 ≤ ((8 : Int) * a) + b ∧ ((8 : Int) * a) + b < 64) ∧ ((s_lb 209 (((8 : Int) * a) + b : Int).toNat ≤ (s_lb 209 (((8 : Int) * a) + k : Int).toNat) + (s_lb 209 (((8 : Int) * k) + b : Int).toNat) → ((-2147483648 ≤ b + 1 ∧ b + 1 ≤ 2147483647) ∧ K (rx_find rx_m15 118) [(4, .inl (b + 1)), (5, .inl ((s_lb 209 (((8 : Int) * a) + k : Int).toNat) + (s_lb 209 (((8 : Int) * k) + b : Int).toNat))), (3, .inl a), (2, .inl k), (0, .inr (.inr (.inl 170)))] [] s_lb)) ∧ (¬ (s_lb 209 (((8 : Int) * a) + b : Int).toNat ≤ (s_lb 209 (((8 : Int) * a) + k : Int).toNat) + (s_lb 209 (((8 : Int) * k) + b : Int).toNat)) → ((-2147483648 ≤ (8 : Int) * a ∧ (8 : Int) * a ≤ 2147483647) ∧ ((-2147483648 ≤ ((8 : Int) * a) + b ∧ ((8 : Int) * a) + b ≤ 2147483647) ∧ ((0 ≤ ((8 : Int) * a) + b ∧ ((8 : Int) * a) + b < 64) ∧ ((-2147483648 ≤ b + 1 ∧ b + 1 ≤ 2147483647) ∧ K (rx_find rx_m15 118) [(4, .inl (b + 1)), (5, .inl ((s_lb 209 (((8 : Int) * a) + k : Int).toNat) + (s_lb 209 (((8 : Int) * k) + b : Int).toNat))), (3, .inl a), (2, .inl k), (0, .inr (.inr (.inl 170)))] [] (zup s_lb 209 (((8 : Int) * a) + b : Int).toNat ((s_lb 209 (((8 : Int) * a) + k : Int).toNat) + (s_lb 209 (((8 : Int) * k) + b : Int).toNat)))))))))))))))))))))
              refine ⟨fun h1 => ?_, fun h1 => ?_⟩
              · refine ⟨by omega, ?_⟩
                exact hsl _ _ _ _ _ (sb_cons (.head _) (sb_cons (.tail _ (.tail _ (.head _))) (sb_cons (.tail _ (.tail _ (.tail _ (.head _)))) sb_nil))) (ih_la _ (show (8 - (a + 1) : Int).toNat < u_la from by omega) (a + 1) s_lb ⟨gI_lb, fI_lb, (show FWb (s_lk 209) (s_lb 209) k (a + 1) 0 from FWb_row w_lb (by omega)), (show 0 ≤ (a + 1) ∧ (a + 1) ≤ 8 ∧ k < 8 from by omega)⟩ rfl)
              · refine ⟨by omega, ?_⟩
                refine ⟨by omega, ?_⟩
                have g2 := g_distance gI_lb (((8 : Int) * a) + k : Int).toNat
                refine ⟨by omega, ?_⟩
                refine ⟨by omega, ?_⟩
                refine ⟨by omega, ?_⟩
                have g3 := g_distance gI_lb (((8 : Int) * k) + b : Int).toNat
                refine ⟨by omega, ?_⟩
                refine ⟨by omega, ?_⟩
                refine ⟨by omega, ?_⟩
                refine ⟨by omega, ?_⟩
                have g4 := g_distance gI_lb (((8 : Int) * a) + b : Int).toNat
                refine ⟨by omega, ?_⟩
                refine ⟨fun h5 => ?_, fun h5 => ?_⟩
                · refine ⟨by omega, ?_⟩
                  exact hsl _ _ _ _ _ (sb_cons (.head _) (sb_cons (.tail _ (.tail _ (.head _))) (sb_cons (.tail _ (.tail _ (.tail _ (.head _)))) (sb_cons (.tail _ (.tail _ (.tail _ (.tail _ (.head _))))) sb_nil)))) (ih_lb _ (show (8 - (b + 1) : Int).toNat < u_lb from by omega) (b + 1) s_lb ⟨gI_lb, fI_lb, (show FWb (s_lk 209) (s_lb 209) k a (b + 1) from FWb_keep w_lk w_lb (by omega) (by omega) (by omega) (by omega) (by omega) (by omega) (by unfold dd; omega)), (show 0 ≤ (b + 1) ∧ (b + 1) ≤ 8 ∧ a < 8 from by omega)⟩ rfl)
                · refine ⟨by omega, ?_⟩
                  refine ⟨by omega, ?_⟩
                  refine ⟨by omega, ?_⟩
                  refine ⟨by omega, ?_⟩
                  exact hsl _ _ _ _ _ (sb_cons (.head _) (sb_cons (.tail _ (.tail _ (.head _))) (sb_cons (.tail _ (.tail _ (.tail _ (.head _)))) (sb_cons (.tail _ (.tail _ (.tail _ (.tail _ (.head _))))) sb_nil)))) (ih_lb _ (show (8 - (b + 1) : Int).toNat < u_lb from by omega) (b + 1) (zup s_lb 209 (((8 : Int) * a) + b : Int).toNat ((s_lb 209 (((8 : Int) * a) + k : Int).toNat) + (s_lb 209 (((8 : Int) * k) + b : Int).toNat))) ⟨(gInv_up gI_lb (p_distance (by omega))), (fr_a fI_lb rfl), (show FWb (s_lk 209) ((zup s_lb 209 (((8 : Int) * a) + b : Int).toNat ((s_lb 209 (((8 : Int) * a) + k : Int).toNat) + (s_lb 209 (((8 : Int) * k) + b : Int).toNat))) 209) k a (b + 1) from FWb_set w_lk w_lb (by omega) (by omega) (by omega) (by omega) (by omega) (by omega) (by unfold dd; omega) rfl rfl), (show 0 ≤ (b + 1) ∧ (b + 1) ≤ 8 ∧ a < 8 from by omega)⟩ rfl)
          refine yr1_ok (Rt := Q) (wc := (wcL [(0, k_between), (201, k_has2)])) (stp := [101, 109, 118]) hcm hcl [] 134 ?_
          show (((8 : Int) ≤ a → ((-2147483648 ≤ k + 1 ∧ k + 1 ≤ 2147483647) ∧ K (rx_find rx_m15 101) [(2, .inl (k + 1)), (3, .inl a), (0, .inr (.inr (.inl 170)))] [] s_la)) ∧ (¬ ((8 : Int) ≤ a) → K (rx_find rx_m15 118) [(4, .inl 0), (3, .inl a), (2, .inl k), (0, .inr (.inr (.inl 170)))] [] s_la))
          refine ⟨fun h6 => ?_, fun h6 => ?_⟩
          · refine ⟨by omega, ?_⟩
            exact hsl _ _ _ _ _ (sb_cons (.head _) (sb_cons (.tail _ (.tail _ (.head _))) sb_nil)) (ih_lk _ (show (8 - (k + 1) : Int).toNat < u_lk from by omega) (k + 1) s_la ⟨gI_la, fI_la, (show FWs (eg st g) (wgt st) (s_la 209) (k + 1) from FW_pass w_lk (by omega) (by omega) (FWb_end w_la (by omega))), (show 0 ≤ (k + 1) ∧ (k + 1) ≤ 8 from by omega)⟩ rfl)
          · exact lb _ 0 s_la ⟨gI_la, fI_la, (show FWb (s_lk 209) (s_la 209) k a (0 : Int) from w_la), (show 0 ≤ (0 : Int) ∧ (0 : Int) ≤ 8 ∧ a < 8 from by omega)⟩ rfl
      refine yr1_ok (Rt := Q) (wc := (wcL [(0, k_between), (201, k_has2)])) (stp := [101, 109, 118]) hcm hcl [] 134 ?_
      show (((8 : Int) ≤ k → Q none s_lk) ∧ (¬ ((8 : Int) ≤ k) → K (rx_find rx_m15 109) [(3, .inl 0), (2, .inl k), (0, .inr (.inr (.inl 170)))] [] s_lk))
      refine ⟨fun h7 => ?_, fun h7 => ?_⟩
      · exact hQ _ ⟨gI_lk, fI_lk, (show FWs (eg st g) (wgt st) (s_lk 209) 8 from (show k = 8 by omega) ▸ w_lk)⟩
      · exact la _ 0 s_lk ⟨gI_lk, fI_lk, (show FWb (s_lk 209) (s_lk 209) k (0 : Int) 0 from FWb_start _ _), (show 0 ≤ (0 : Int) ∧ (0 : Int) ≤ 8 ∧ k < 8 from by omega)⟩ rfl
  have ia : ∀ (u : Nat) (a : Int) (s_ia : zS), gInv zgt s_ia ∧ aFr m_measures st s_ia ∧ (FWi (eg st g) (wgt st) (s_ia 209) a 0) ∧ (0 ≤ a ∧ a ≤ 8) → (8 - a).toNat = u → K (rx_find rx_m15 2) [(2, .inl a), (1, .inl g), (0, .inr (.inr (.inl 170)))] [] s_ia := by
    intro u_ia
    induction u_ia using Nat.strongRecOn with
    | _ u_ia ih_ia =>
      intro a s_ia hi hu_ia
      obtain ⟨gI_ia, fI_ia, w_ia, b_ia⟩ := hi
      have g9 := g_bank hG
      have e8 : s_ia 170 13 = st 170 13 := fI_ia 170 13 rfl rfl
      have ib : ∀ (u : Nat) (b : Int) (s_ib : zS), gInv zgt s_ib ∧ aFr m_measures st s_ib ∧ (FWi (eg st g) (wgt st) (s_ib 209) a b) ∧ (0 ≤ b ∧ b ≤ 8 ∧ a < 8) → (8 - b).toNat = u → K (rx_find rx_m15 10) [(3, .inl b), (2, .inl a), (1, .inl g), (0, .inr (.inr (.inl 170)))] [] s_ib := by
        intro u_ib
        induction u_ib using Nat.strongRecOn with
        | _ u_ib ih_ib =>
          intro b s_ib hi hu_ib
          obtain ⟨gI_ib, fI_ib, w_ib, b_ib⟩ := hi
          have g11 := g_bank hG
          have e10 : s_ib 170 13 = st 170 13 := fI_ib 170 13 rfl rfl
          refine yr1_ok (Rt := Q) (wc := (wcL [(0, k_between), (201, k_has2)])) (stp := [2, 10, 101, 109, 118]) hcm hcl [] 134 ?_
          show (((8 : Int) ≤ b → ((-2147483648 ≤ a + 1 ∧ a + 1 ≤ 2147483647) ∧ K (rx_find rx_m15 2) [(2, .inl (a + 1)), (3, .inl b), (1, .inl g), (0, .inr (.inr (.inl 170)))] [] s_ib)) ∧ (¬ ((8 : Int) ≤ b) → (170 = 170 ∧ (rq_between (s_ib 170 13) a b s_ib ∧ (∀ (r12 : Int), en_between (s_ib 170 13) a b s_ib r12 → ((-2147483648 ≤ (8 : Int) * a ∧ (8 : Int) * a ≤ 2147483647) ∧ ((-2147483648 ≤ ((8 : Int) * a) + b ∧ ((8 : Int) * a) + b ≤ 2147483647) ∧ ((¬ a = b → ((r12 ≤ (0 : Int) → ((0 ≤ ((8 : Int) * a) + b ∧ ((8 : Int) * a) + b < 64) ∧ ((-2147483648 ≤ b + 1 ∧ b + 1 ≤ 2147483647) ∧ K (rx_find rx_m15 10) [(3, .inl (b + 1)), (4, .inl r12), (2, .inl a), (1, .inl g), (0, .inr (.inr (.inl 170)))] [] (zup s_ib 209 (((8 : Int) * a) + b : Int).toNat 100000000)))) ∧ (¬ (r12 ≤ (0 : Int)) → ((-2147483648 ≤ r12 - 1 ∧ r12 - 1 ≤ 2147483647) ∧ (∀ (r13 : Int), en_has2 g (r12 - 1) s_ib r13 → ((¬ r13 = (0 : Int) → ((0 ≤ ((8 : Int) * a) + b ∧ ((8 : Int) * a) + b < 64) ∧ ((-2147483648 ≤ b + 1 ∧ b + 1 ≤ 2147483647) ∧ K (rx_find rx_m15 10) [(3, .inl (b + 1)), (4, .inl r12), (2, .inl a), (1, .inl g), (0, .inr (.inr (.inl 170)))] [] (zup s_ib 209 (((8 : Int) * a) + b : Int).toNat 100000000)))) ∧ (¬ (¬ r13 = (0 : Int)) → ((-2147483648 ≤ (14 : Int) * (s_ib 170 13) ∧ (14 : Int) * (s_ib 170 13) ≤ 2147483647) ∧ ((-2147483648 ≤ ((14 : Int) * (s_ib 170 13)) + r12 ∧ ((14 : Int) * (s_ib 170 13)) + r12 ≤ 2147483647) ∧ ((-2147483648 ≤ (((14 : Int) * (s_ib 170 13)) + r12) - 1 ∧ (((14 : Int) * (s_ib 170 13)) + r12) - 1 ≤ 2147483647) ∧ ((0 ≤ (((14 : Int) * (s_ib 170 13)) + r12) - 1 ∧ (((14 : Int) * (s_ib 170 13)) + r12) - 1 < 28) ∧ ((0 ≤ ((8 : Int) * a) + b ∧ ((8 : Int) * a) + b < 64) ∧ ((-2147483648 ≤ b + 1 ∧ b + 1 ≤ 2147483647) ∧ K (rx_find rx_m15 10) [(3, .inl (b + 1)), (4, .inl r12), (2, .inl a), (1, .inl g), (0, .inr (.inr (.inl 170)))] [] (zup s_ib 209 (((8 : Int) * a) + b : Int).toNat (s_ib 176 ((((14 : Int) * (s_ib 170 13)) + r12) - 1 : Int).toNat))))))))))))))) ∧ (¬ (¬ a = b) → ((0 ≤ ((8 : Int) * a) + b ∧ ((8 : Int) * a) + b < 64) ∧ ((-2147483648 ≤ b + 1 ∧ b + 1 ≤ 2147483647) ∧ K (rx_find rx_m15 10) [(3, .inl (b + 1)), (4, .inl r12), (2, .inl a), (1, .inl g), (0, .inr (.inr (.inl 170)))] [] (zup s_ib 209 (((8 : Int) * a) + b : Int).toNat 0))))))))))))
          refine ⟨fun h14 => ?_, fun h14 => ?_⟩
          · refine ⟨by omega, ?_⟩
            exact hsl _ _ _ _ _ (sb_cons (.head _) (sb_cons (.tail _ (.tail _ (.head _))) (sb_cons (.tail _ (.tail _ (.tail _ (.head _)))) sb_nil))) (ih_ia _ (show (8 - (a + 1) : Int).toNat < u_ia from by omega) (a + 1) s_ib ⟨gI_ib, fI_ib, (show FWi (eg st g) (wgt st) (s_ib 209) (a + 1) 0 from FWi_row w_ib (by omega)), (show 0 ≤ (a + 1) ∧ (a + 1) ≤ 8 from by omega)⟩ rfl)
          · refine ⟨rfl, (show 0 ≤ (s_ib 170 13) ∧ (s_ib 170 13) ≤ 1 ∧ 0 ≤ a ∧ a < 8 ∧ 0 ≤ b ∧ b < 8 from by omega), fun r12 q12 => ?_⟩
            have e12 := q12
            change r12 = s_ib 177 (64 * (s_ib 170 13) + 8 * a + b : Int).toNat at e12
            have g16 := g_streetAt hG (64 * (st 170 13) + 8 * a + b : Int).toNat
            have e15 : s_ib 177 (64 * (s_ib 170 13) + 8 * a + b : Int).toNat = st 177 (64 * (st 170 13) + 8 * a + b : Int).toNat := (fI_ib 177 (64 * (s_ib 170 13) + 8 * a + b : Int).toNat rfl rfl).trans (by rw [e10] <;> rfl)
            refine ⟨by omega, ?_⟩
            refine ⟨by omega, ?_⟩
            refine ⟨fun h17 => ?_, fun h17 => ?_⟩
            · refine ⟨fun h18 => ?_, fun h18 => ?_⟩
              · refine ⟨by omega, ?_⟩
                refine ⟨by omega, ?_⟩
                exact hsl _ _ _ _ _ (sb_cons (.head _) (sb_cons (.tail _ (.tail _ (.head _))) (sb_cons (.tail _ (.tail _ (.tail _ (.head _)))) (sb_cons (.tail _ (.tail _ (.tail _ (.tail _ (.head _))))) sb_nil)))) (ih_ib _ (show (8 - (b + 1) : Int).toNat < u_ib from by omega) (b + 1) (zup s_ib 209 (((8 : Int) * a) + b : Int).toNat 100000000) ⟨(gInv_up gI_ib (p_distance (by omega))), (fr_a fI_ib rfl), (show FWi (eg st g) (wgt st) ((zup s_ib 209 (((8 : Int) * a) + b : Int).toNat 100000000) 209) a (b + 1) from by
            have zr : r12 = st 177 (64 * st 170 13 + 8 * a + b : Int).toNat := by omega
            refine FWi_set w_ib (by omega) (by omega) (by omega) (by omega) rfl (fun z1 => ?_) (fun z1 z2 => ?_) (fun z1 z2 => ?_)
            · exfalso; omega
            · exfalso
              have z3 : 0 < st 177 (64 * st 170 13 + 8 * a + b : Int).toNat := z2.1
              have z4 : ¬ hb g (st 177 (64 * st 170 13 + 8 * a + b : Int).toNat - 1) = 1 := z2.2
              rw [← zr] at z3 z4
              omega
            · rfl), (show 0 ≤ (b + 1) ∧ (b + 1) ≤ 8 ∧ a < 8 from by omega)⟩ rfl)
              · refine ⟨by omega, ?_⟩
                refine fun r13 q13 => ?_
                have b13 := q13
                change (r13 = 0 ∨ r13 = 1) ∧ r13 = hb g (r12 - 1) at b13
                refine ⟨fun h19 => ?_, fun h19 => ?_⟩
                · refine ⟨by omega, ?_⟩
                  refine ⟨by omega, ?_⟩
                  exact hsl _ _ _ _ _ (sb_cons (.head _) (sb_cons (.tail _ (.tail _ (.head _))) (sb_cons (.tail _ (.tail _ (.tail _ (.head _)))) (sb_cons (.tail _ (.tail _ (.tail _ (.tail _ (.head _))))) sb_nil)))) (ih_ib _ (show (8 - (b + 1) : Int).toNat < u_ib from by omega) (b + 1) (zup s_ib 209 (((8 : Int) * a) + b : Int).toNat 100000000) ⟨(gInv_up gI_ib (p_distance (by omega))), (fr_a fI_ib rfl), (show FWi (eg st g) (wgt st) ((zup s_ib 209 (((8 : Int) * a) + b : Int).toNat 100000000) 209) a (b + 1) from by
            have zr : r12 = st 177 (64 * st 170 13 + 8 * a + b : Int).toNat := by omega
            refine FWi_set w_ib (by omega) (by omega) (by omega) (by omega) rfl (fun z1 => ?_) (fun z1 z2 => ?_) (fun z1 z2 => ?_)
            · exfalso; omega
            · exfalso
              have z3 : 0 < st 177 (64 * st 170 13 + 8 * a + b : Int).toNat := z2.1
              have z4 : ¬ hb g (st 177 (64 * st 170 13 + 8 * a + b : Int).toNat - 1) = 1 := z2.2
              rw [← zr] at z3 z4
              omega
            · rfl), (show 0 ≤ (b + 1) ∧ (b + 1) ≤ 8 ∧ a < 8 from by omega)⟩ rfl)
                · refine ⟨by omega, ?_⟩
                  refine ⟨by omega, ?_⟩
                  refine ⟨by omega, ?_⟩
                  have g21 := g_pacesOf hG ((((14 : Int) * (st 170 13)) + r12) - 1 : Int).toNat
                  have e20 : s_ib 176 ((((14 : Int) * (s_ib 170 13)) + r12) - 1 : Int).toNat = st 176 ((((14 : Int) * (st 170 13)) + r12) - 1 : Int).toNat := (fI_ib 176 ((((14 : Int) * (s_ib 170 13)) + r12) - 1 : Int).toNat rfl rfl).trans (by rw [e10] <;> rfl)
                  refine ⟨by omega, ?_⟩
                  refine ⟨by omega, ?_⟩
                  refine ⟨by omega, ?_⟩
                  exact hsl _ _ _ _ _ (sb_cons (.head _) (sb_cons (.tail _ (.tail _ (.head _))) (sb_cons (.tail _ (.tail _ (.tail _ (.head _)))) (sb_cons (.tail _ (.tail _ (.tail _ (.tail _ (.head _))))) sb_nil)))) (ih_ib _ (show (8 - (b + 1) : Int).toNat < u_ib from by omega) (b + 1) (zup s_ib 209 (((8 : Int) * a) + b : Int).toNat (s_ib 176 ((((14 : Int) * (s_ib 170 13)) + r12) - 1 : Int).toNat)) ⟨(gInv_up gI_ib (p_distance (by omega))), (fr_a fI_ib rfl), (show FWi (eg st g) (wgt st) ((zup s_ib 209 (((8 : Int) * a) + b : Int).toNat (s_ib 176 ((((14 : Int) * (s_ib 170 13)) + r12) - 1 : Int).toNat)) 209) a (b + 1) from by
            have zr : r12 = st 177 (64 * st 170 13 + 8 * a + b : Int).toNat := by omega
            refine FWi_set w_ib (by omega) (by omega) (by omega) (by omega) rfl (fun z1 => ?_) (fun z1 z2 => ?_) (fun z1 z2 => ?_)
            · exfalso; omega
            · show s_ib 176 (14 * s_ib 170 13 + r12 - 1 : Int).toNat = st 176 (14 * st 170 13 + st 177 (64 * st 170 13 + 8 * a + b : Int).toNat - 1 : Int).toNat
              rw [fI_ib 176 _ rfl rfl, fI_ib 170 13 rfl rfl, zr]
            · exact absurd ⟨show 0 < st 177 (64 * st 170 13 + 8 * a + b : Int).toNat by omega, show ¬ hb g (st 177 (64 * st 170 13 + 8 * a + b : Int).toNat - 1) = 1 by rw [← zr]; omega⟩ z2), (show 0 ≤ (b + 1) ∧ (b + 1) ≤ 8 ∧ a < 8 from by omega)⟩ rfl)
            · refine ⟨by omega, ?_⟩
              refine ⟨by omega, ?_⟩
              exact hsl _ _ _ _ _ (sb_cons (.head _) (sb_cons (.tail _ (.tail _ (.head _))) (sb_cons (.tail _ (.tail _ (.tail _ (.head _)))) (sb_cons (.tail _ (.tail _ (.tail _ (.tail _ (.head _))))) sb_nil)))) (ih_ib _ (show (8 - (b + 1) : Int).toNat < u_ib from by omega) (b + 1) (zup s_ib 209 (((8 : Int) * a) + b : Int).toNat 0) ⟨(gInv_up gI_ib (p_distance (by omega))), (fr_a fI_ib rfl), (show FWi (eg st g) (wgt st) ((zup s_ib 209 (((8 : Int) * a) + b : Int).toNat 0) 209) a (b + 1) from by
            have zr : r12 = st 177 (64 * st 170 13 + 8 * a + b : Int).toNat := by omega
            refine FWi_set w_ib (by omega) (by omega) (by omega) (by omega) rfl (fun z1 => ?_) (fun z1 z2 => ?_) (fun z1 z2 => ?_)
            · rfl
            · exact absurd (by omega) z1
            · exact absurd (by omega) z1), (show 0 ≤ (b + 1) ∧ (b + 1) ≤ 8 ∧ a < 8 from by omega)⟩ rfl)
      refine yr1_ok (Rt := Q) (wc := (wcL [(0, k_between), (201, k_has2)])) (stp := [2, 10, 101, 109, 118]) hcm hcl [] 134 ?_
      show (((8 : Int) ≤ a → K (rx_find rx_m15 101) [(2, .inl 0), (1, .inl g), (0, .inr (.inr (.inl 170)))] [] s_ia) ∧ (¬ ((8 : Int) ≤ a) → K (rx_find rx_m15 10) [(3, .inl 0), (2, .inl a), (1, .inl g), (0, .inr (.inr (.inl 170)))] [] s_ia))
      refine ⟨fun h22 => ?_, fun h22 => ?_⟩
      · exact hsl _ _ _ _ _ (sb_cons (.head _) (sb_cons (.tail _ (.tail _ (.head _))) sb_nil)) (lk _ 0 s_ia ⟨gI_ia, fI_ia, (show FWs (eg st g) (wgt st) (s_ia 209) (0 : Int) from FWi_end w_ia (by omega) hw), (show 0 ≤ (0 : Int) ∧ (0 : Int) ≤ 8 from by omega)⟩ rfl)
      · exact ib _ 0 s_ia ⟨gI_ia, fI_ia, (show FWi (eg st g) (wgt st) (s_ia 209) a (0 : Int) from w_ia), (show 0 ≤ (0 : Int) ∧ (0 : Int) ≤ 8 ∧ a < 8 from by omega)⟩ rfl
  refine yr1_ok (Rt := Q) (wc := (wcL [(0, k_between), (201, k_has2)])) (stp := [2, 10, 101, 109, 118]) hcm hcl [] 134 ?_
  show K (rx_find rx_m15 2) [(2, .inl 0), (0, .inr (.inr (.inl 170))), (1, .inl g)] [] st
  exact hsl _ _ _ _ _ (sb_cons (.head _) (sb_cons (.tail _ (.tail _ (.head _))) (sb_cons (.tail _ (.head _)) sb_nil))) (ia _ 0 st ⟨hG, (fr_rf _ _), (show FWi (eg st g) (wgt st) (st 209) (0 : Int) 0 from FWi_start _ _ _), (show 0 ≤ (0 : Int) ∧ (0 : Int) ≤ 8 from by omega)⟩ rfl)
theorem k_measures_m (hTb : aTb zSh rx_tb cl) {D : Nat} (hD : 2 ≤ D) : ∀ as st (Q Q' : zQ), (∀ r st', Q r st' → Q' r st') → k_measures 15 as st Q → cl D 15 as st Q' := by
  intro as st Q Q' hQ h
  unfold k_measures at h
  split at h
  · obtain ⟨rfl, h⟩ := h
    exact c_measures hTb hD (ct_measures_m hQ h)
  · exact h.elim
end R71
