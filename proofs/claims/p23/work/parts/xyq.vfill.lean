/-! printed by wip/pw/py/h8.py: the fillings, the reference -/
def rq_vCanBe (x : Int) (p : Int) (st : zS) : Prop := gInv zgt st
def en_vCanBe (x : Int) (p : Int) (st : zS) (r : Int) : Prop := (r = cbv (st 216) (st 217) (st 170 71) x p)
def ct_vCanBe (x : Int) (p : Int) (st : zS) (Q : zQ) : Prop := rq_vCanBe x p st ∧ (∀ (r : Int), en_vCanBe x p st r → Q (some (.inl r)) st)
theorem ct_vCanBe_m {x p : Int} {st : zS} {Q Q' : zQ} (hQ : ∀ r st', Q r st' → Q' r st') (h : ct_vCanBe x p st Q) : ct_vCanBe x p st Q' := ⟨h.1, fun x0 x1 => hQ _ _ (h.2 x0 x1)⟩
def k_vCanBe : zCall := fun _ as st Q => match as with
  | [.inr (.inr (.inl z_o)), .inl x, .inl p] => z_o = 170 ∧ ct_vCanBe x p st Q
  | _ => False
def rq_vCut (a : Int) (st : zS) : Prop := (0 ≤ a)
def en_vCut (a : Int) (st : zS) (r : Int) : Prop := (r = cp9 a)
def ct_vCut (a : Int) (st : zS) (Q : zQ) : Prop := rq_vCut a st ∧ (∀ (r : Int), en_vCut a st r → Q (some (.inl r)) st)
theorem ct_vCut_m {a : Int} {st : zS} {Q Q' : zQ} (hQ : ∀ r st', Q r st' → Q' r st') (h : ct_vCut a st Q) : ct_vCut a st Q' := ⟨h.1, fun x0 x1 => hQ _ _ (h.2 x0 x1)⟩
def k_vCut : zCall := fun _ as st Q => match as with
  | [.inr (.inl a)] => ct_vCut a st Q
  | _ => False
def m_vFills : aM := ([], [218, 219])
def rq_vFills (T : zS) (n : Int) (st : zS) : Prop := gInv zgt st ∧ (RT (st 170 13) T st) ∧ (TW T) ∧ (1 ≤ n ∧ n ≤ 20)
def en_vFills (T : zS) (n : Int) (st : zS) (r : Int) (s1 : zS) : Prop := gInv zgt s1 ∧ aFr m_vFills st s1 ∧ (r = flT T (flo (st 216) (st 217) (st 170 71) n) (n - 1 : Int).toNat) ∧ (¬ r = 0 → TD T (flo (st 216) (st 217) (st 170 71) n) (n - 1 : Int).toNat (s1 218) (-1) ∧ TU T (flo (st 216) (st 217) (st 170 71) n) (s1 219) n)
def ct_vFills (T : zS) (n : Int) (st : zS) (Q : zQ) : Prop := rq_vFills T n st ∧ (∀ (r : Int) (s1 : zS), en_vFills T n st r s1 → Q (some (.inr (.inl r))) s1)
theorem ct_vFills_m {T : zS} {n : Int} {st : zS} {Q Q' : zQ} (hQ : ∀ r st', Q r st' → Q' r st') (h : ct_vFills T n st Q) : ct_vFills T n st Q' := ⟨h.1, fun x0 x1 x2 => hQ _ _ (h.2 x0 x1 x2)⟩
def k_vFills (T : zS) : zCall := fun _ as st Q => match as with
  | [.inr (.inr (.inl z_o)), .inl n] => z_o = 170 ∧ ct_vFills T n st Q
  | _ => False
def m_vFilled : aM := ([], [218, 219])
def rq_vFilled (T : zS) (n : Int) (st : zS) : Prop := gInv zgt st ∧ (RT (st 170 13) T st) ∧ (TW T)
def en_vFilled (T : zS) (n : Int) (st : zS) (r : Int) (s1 : zS) : Prop := gInv zgt s1 ∧ aFr m_vFilled st s1 ∧ (r = fF T (st 216) (st 217) (st 170 71) n)
def ct_vFilled (T : zS) (n : Int) (st : zS) (Q : zQ) : Prop := rq_vFilled T n st ∧ (∀ (r : Int) (s1 : zS), en_vFilled T n st r s1 → Q (some (.inl r)) s1)
theorem ct_vFilled_m {T : zS} {n : Int} {st : zS} {Q Q' : zQ} (hQ : ∀ r st', Q r st' → Q' r st') (h : ct_vFilled T n st Q) : ct_vFilled T n st Q' := ⟨h.1, fun x0 x1 x2 => hQ _ _ (h.2 x0 x1 x2)⟩
def k_vFilled (T : zS) : zCall := fun _ as st Q => match as with
  | [.inr (.inr (.inl z_o)), .inl n] => z_o = 170 ∧ ct_vFilled T n st Q
  | _ => False
def m_vFilling : aM := ([], [218, 219])
def rq_vFilling (T : zS) (n : Int) (k : Int) (st : zS) : Prop := gInv zgt st ∧ (RT (st 170 13) T st) ∧ (TW T)
def en_vFilling (T : zS) (n : Int) (k : Int) (st : zS) (r : Int) (s1 : zS) : Prop := gInv zgt s1 ∧ aFr m_vFilling st s1 ∧ (r = fG T (st 216) (st 217) (st 170 71) n k)
def ct_vFilling (T : zS) (n : Int) (k : Int) (st : zS) (Q : zQ) : Prop := rq_vFilling T n k st ∧ (∀ (r : Int) (s1 : zS), en_vFilling T n k st r s1 → Q (some (.inl r)) s1)
theorem ct_vFilling_m {T : zS} {n k : Int} {st : zS} {Q Q' : zQ} (hQ : ∀ r st', Q r st' → Q' r st') (h : ct_vFilling T n k st Q) : ct_vFilling T n k st Q' := ⟨h.1, fun x0 x1 x2 => hQ _ _ (h.2 x0 x1 x2)⟩
def k_vFilling (T : zS) : zCall := fun _ as st Q => match as with
  | [.inr (.inr (.inl z_o)), .inl n, .inl k] => z_o = 170 ∧ ct_vFilling T n k st Q
  | _ => False
def m_vAsked : aM := ([], [218, 219])
def rq_vAsked (T : zS) (n : Int) (x : Int) (st : zS) : Prop := gInv zgt st ∧ (RT (st 170 13) T st) ∧ (TW T)
def en_vAsked (T : zS) (n : Int) (x : Int) (st : zS) (r : Int) (s1 : zS) : Prop := gInv zgt s1 ∧ aFr m_vAsked st s1 ∧ (r = fA T (st 216) (st 217) (st 170 71) n x)
def ct_vAsked (T : zS) (n : Int) (x : Int) (st : zS) (Q : zQ) : Prop := rq_vAsked T n x st ∧ (∀ (r : Int) (s1 : zS), en_vAsked T n x st r s1 → Q (some (.inl r)) s1)
theorem ct_vAsked_m {T : zS} {n x : Int} {st : zS} {Q Q' : zQ} (hQ : ∀ r st', Q r st' → Q' r st') (h : ct_vAsked T n x st Q) : ct_vAsked T n x st Q' := ⟨h.1, fun x0 x1 x2 => hQ _ _ (h.2 x0 x1 x2)⟩
def k_vAsked (T : zS) : zCall := fun _ as st Q => match as with
  | [.inr (.inr (.inl z_o)), .inl n, .inl x] => z_o = 170 ∧ ct_vAsked T n x st Q
  | _ => False
section XYQ
variable {cl : Nat → zCall}
set_option maxHeartbeats 4000000 in
set_option maxRecDepth 100000 in
theorem c_vCanBe (hTb : aTb zSh rx_tb cl) {D : Nat} (hD : 1 ≤ D) {x p : Int} {st : zS} {Q : zQ} (h : ct_vCanBe x p st Q) : cl D 222 [.inr (.inr (.inl 170)), .inl x, .inl p] st Q := by
  obtain ⟨d, rfl⟩ : ∃ d, D = d + 1 := ⟨D - 1, by omega⟩
  refine hTb d 222 (rx_m222, 4, 0, 0, 2) rfl _ _ _ (Nat.le_of_ble_eq_true rfl) (fun K hcl hsf hsl => ?_)
  have hcm : zmo (zno) (cl d) := zno_m
  obtain ⟨hR, hQ⟩ := h
  have hG := hR
  have lp : ∀ (u : Nat) (i : Int), (0 ≤ i ∧ i ≤ st 170 71) ∧ (∀ j : Nat, (j : Int) < i → st 216 j = x → st 217 j = p) → (st 170 71 - i).toNat = u → K (rx_find rx_m222 2) [(3, .inl i), (0, .inr (.inr (.inl 170))), (1, .inl x), (2, .inl p)] [] st := by
    intro u
    induction u using Nat.strongRecOn with
    | _ u ih =>
      intro i hi hu
      obtain ⟨i_lp, n_lp⟩ := hi
      have g1 := g_rows hG
      refine yr1_ok (Rt := Q) (wc := (zno)) (stp := [2]) hcm hcl [] 44 ?_
      show ((st 170 71 ≤ i → ((1 = (0 : Int) ∨ 1 = (1 : Int)) ∧ Q (some (.inl 1)) st)) ∧ (¬ (st 170 71 ≤ i) → ((0 ≤ i ∧ i < 20) ∧ ((¬ st 216 (i : Int).toNat = x → ((-2147483648 ≤ i + 1 ∧ i + 1 ≤ 2147483647) ∧ K (rx_find rx_m222 2) [(3, .inl (i + 1)), (0, .inr (.inr (.inl 170))), (1, .inl x), (2, .inl p)] [] st)) ∧ (¬ (¬ st 216 (i : Int).toNat = x) → ((0 ≤ i ∧ i < 20) ∧ ((st 217 (i : Int).toNat = p → ((-2147483648 ≤ i + 1 ∧ i + 1 ≤ 2147483647) ∧ K (rx_find rx_m222 2) [(3, .inl (i + 1)), (0, .inr (.inr (.inl 170))), (1, .inl x), (2, .inl p)] [] st)) ∧ (¬ (st 217 (i : Int).toNat = p) → ((0 = (0 : Int) ∨ 0 = (1 : Int)) ∧ Q (some (.inl 0)) st)))))))))
      refine ⟨fun h2 => ?_, fun h2 => ?_⟩
      · refine ⟨by omega, ?_⟩
        exact hQ _ (show (1 : Int) = cbv (st 216) (st 217) (st 170 71) x p from (cbv_y (fun j z1 z2 => n_lp j (by omega) z2)))
      · have g3 := g_rowNumber hG (i : Int).toNat
        refine ⟨by omega, ?_⟩
        refine ⟨fun h4 => ?_, fun h4 => ?_⟩
        · refine ⟨by omega, ?_⟩
          exact ih _ (show (st 170 71 - (i + 1) : Int).toNat < u from by omega) (i + 1) ⟨(show 0 ≤ (i + 1) ∧ (i + 1) ≤ st 170 71 from by omega), (show ∀ j : Nat, (j : Int) < (i + 1) → st 216 j = x → st 217 j = p from (by
              intro j z1 z2
              by_cases z3 : j = (i : Int).toNat
              · rw [z3] at z2 ⊢
                omega
              · exact n_lp j (by omega) z2))⟩ rfl
        · have g5 := g_rowPlace hG (i : Int).toNat
          refine ⟨by omega, ?_⟩
          refine ⟨fun h6 => ?_, fun h6 => ?_⟩
          · refine ⟨by omega, ?_⟩
            exact ih _ (show (st 170 71 - (i + 1) : Int).toNat < u from by omega) (i + 1) ⟨(show 0 ≤ (i + 1) ∧ (i + 1) ≤ st 170 71 from by omega), (show ∀ j : Nat, (j : Int) < (i + 1) → st 216 j = x → st 217 j = p from (by
              intro j z1 z2
              by_cases z3 : j = (i : Int).toNat
              · rw [z3] at z2 ⊢
                omega
              · exact n_lp j (by omega) z2))⟩ rfl
          · refine ⟨by omega, ?_⟩
            exact hQ _ (show (0 : Int) = cbv (st 216) (st 217) (st 170 71) x p from (cbv_n (i := (i : Int).toNat) (by omega) (by omega) (by omega)))
  have g7 := g_rows hG
  refine yr1_ok (Rt := Q) (wc := (zno)) (stp := [2]) hcm hcl [] 44 ?_
  show K (rx_find rx_m222 2) [(3, .inl 0), (0, .inr (.inr (.inl 170))), (1, .inl x), (2, .inl p)] [] st
  exact lp _ 0 ⟨(show 0 ≤ (0 : Int) ∧ (0 : Int) ≤ st 170 71 from by omega), (show ∀ j : Nat, (j : Int) < (0 : Int) → st 216 j = x → st 217 j = p from fun j z1 z2 => by omega)⟩ rfl
theorem k_vCanBe_m (hTb : aTb zSh rx_tb cl) {D : Nat} (hD : 1 ≤ D) : ∀ as st (Q Q' : zQ), (∀ r st', Q r st' → Q' r st') → k_vCanBe 222 as st Q → cl D 222 as st Q' := by
  intro as st Q Q' hQ h
  unfold k_vCanBe at h
  split at h
  · obtain ⟨rfl, h⟩ := h
    exact c_vCanBe hTb hD (ct_vCanBe_m hQ h)
  · exact h.elim
set_option maxHeartbeats 4000000 in
set_option maxRecDepth 100000 in
theorem c_vCut (hTb : aTb zSh rx_tb cl) {D : Nat} (hD : 1 ≤ D) {a : Int} {st : zS} {Q : zQ} (h : ct_vCut a st Q) : cl D 53 [.inr (.inl a)] st Q := by
  obtain ⟨d, rfl⟩ : ∃ d, D = d + 1 := ⟨D - 1, by omega⟩
  refine hTb d 53 (rx_m53, 2, 0, 0, 1) rfl _ _ _ (Nat.le_of_ble_eq_true rfl) (fun K hcl hsf hsl => ?_)
  have hcm : zmo (zno) (cl d) := zno_m
  obtain ⟨hR, hQ⟩ := h
  have q := hR
  change 0 ≤ a at q
  have hc := cp9_c (x := a)
  refine yr1_ok (Rt := Q) (wc := (zno)) (stp := []) hcm hcl [] 29 ?_
  show (∀ (w1 : Int), (a < 999999999 ∧ w1 = -1 ∨ a = 999999999 ∧ w1 = 0 ∨ 999999999 < a ∧ w1 = 1) → ((w1 ≤ (0 : Int) → ((-2147483648 ≤ a ∧ a ≤ 2147483647) ∧ Q (some (.inl a)) st)) ∧ (¬ (w1 ≤ (0 : Int)) → Q (some (.inl 999999999)) st)))
  intro w1 hw1
  refine ⟨fun h2 => ?_, fun h2 => ?_⟩
  · refine ⟨by omega, ?_⟩
    exact hQ _ (show a = cp9 a from by omega)
  · exact hQ _ (show (999999999 : Int) = cp9 a from by omega)
theorem k_vCut_m (hTb : aTb zSh rx_tb cl) {D : Nat} (hD : 1 ≤ D) : ∀ as st (Q Q' : zQ), (∀ r st', Q r st' → Q' r st') → k_vCut 53 as st Q → cl D 53 as st Q' := by
  intro as st Q Q' hQ h
  unfold k_vCut at h
  split at h
  · exact c_vCut hTb hD (ct_vCut_m hQ h)
  · exact h.elim
set_option maxHeartbeats 4000000 in
set_option maxRecDepth 100000 in
theorem c_vFills (hTb : aTb zSh rx_tb cl) {T : zS} {D : Nat} (hD : 2 ≤ D) {n : Int} {st : zS} {Q : zQ} (h : ct_vFills T n st Q) : cl D 35 [.inr (.inr (.inl 170)), .inl n] st Q := by
  obtain ⟨d, rfl⟩ : ∃ d, D = d + 1 := ⟨D - 1, by omega⟩
  refine hTb d 35 (rx_m35, 7, 0, 0, 5) rfl _ _ _ (Nat.le_of_ble_eq_true rfl) (fun K hcl hsf hsl => ?_)
  have hcm : zmo (wcL [(0, k_between), (222, k_vCanBe)]) (cl d) := (wcL_m (wm_cons (k_between_m hTb (by omega)) (wm_cons (k_vCanBe_m hTb (by omega)) wm_nil)))
  obtain ⟨hR, hQ⟩ := h
  obtain ⟨hG, rt, tw, nn⟩ := hR
  change RT (st 170 13) T st at rt
  change TW T at tw
  change 1 ≤ n ∧ n ≤ 20 at nn
  have b8 : 0 ≤ T 0 1 ∧ T 0 1 ≤ 8 := tw.1.1
  have hP : (T 0 1).toNat ≤ 8 := by omega
  have hpl : st 172 (st 170 13 : Int).toNat = T 0 1 := rt.1.1
  have ls : ∀ (u : Nat) (i : Int) (su : Int) (s_ls : zS), gInv zgt s_ls ∧ aFr m_vFills st s_ls ∧ (0 ≤ i ∧ i ≤ T 0 1 ∧ 0 ≤ su ∧ su ≤ i * 144115188075855872) ∧ (TD T (flo (st 216) (st 217) (st 170 71) n) (n - 1 : Int).toNat (s_ls 218) (-1)) ∧ (TU T (flo (st 216) (st 217) (st 170 71) n) (s_ls 219) n) ∧ (su = flS (s_ls 218) (i : Int).toNat) → (T 0 1 - i).toNat = u → K (rx_find rx_m35 310) [(4, .inl i), (2, .inr (.inl su)), (0, .inr (.inr (.inl 170))), (1, .inl n)] [] s_ls := by
    intro u_ls
    induction u_ls using Nat.strongRecOn with
    | _ u_ls ih_ls =>
      intro i su s_ls hi hu_ls
      obtain ⟨gI_ls, fI_ls, i_ls, t_ls, w_ls, v_ls⟩ := hi
      have hpl_ls : s_ls 172 (st 170 13 : Int).toNat = T 0 1 := (fI_ls 172 _ rfl rfl).trans hpl
      have hsb_ls : ∀ q : Int, 0 ≤ q → q < T 0 1 → 0 ≤ s_ls 218 q.toNat ∧ s_ls 218 q.toNat ≤ 144115188075855872 := fun q z1 z2 => by
        have z := TD_b hP (show (n - 1 : Int).toNat ≤ 19 by omega) t_ls (j := 0) (by omega) (by omega) (q := q.toNat) (by omega)
        rw [show 8 * 0 + q.toNat = q.toNat by omega] at z
        exact z
      have hsb1 := hsb_ls i
      have g2 := g_bank hG
      have e1 : s_ls 170 13 = st 170 13 := fI_ls 170 13 rfl rfl
      have g4 := g_rows hG
      have e3 : s_ls 170 71 = st 170 71 := fI_ls 170 71 rfl rfl
      refine yr1_ok (Rt := Q) (wc := (wcL [(0, k_between), (222, k_vCanBe)])) (stp := [310]) hcm hcl [] 215 ?_
      show ((0 ≤ s_ls 170 13 ∧ s_ls 170 13 < 2) ∧ ((s_ls 172 (s_ls 170 13 : Int).toNat ≤ i → Q (some (.inr (.inl su))) s_ls) ∧ (¬ (s_ls 172 (s_ls 170 13 : Int).toNat ≤ i) → ((0 ≤ i ∧ i < 160) ∧ ((-9223372036854775808 ≤ su + (s_ls 218 (i : Int).toNat) ∧ su + (s_ls 218 (i : Int).toNat) ≤ 9223372036854775807) ∧ ((-2147483648 ≤ i + 1 ∧ i + 1 ≤ 2147483647) ∧ K (rx_find rx_m35 310) [(4, .inl (i + 1)), (2, .inr (.inl (su + (s_ls 218 (i : Int).toNat)))), (0, .inr (.inr (.inl 170))), (1, .inl n)] [] s_ls))))))
      have g6 := g_places hG (st 170 13 : Int).toNat
      have e5 : s_ls 172 (s_ls 170 13 : Int).toNat = st 172 (st 170 13 : Int).toNat := (fI_ls 172 (s_ls 170 13 : Int).toNat rfl rfl).trans (by rw [e1] <;> rfl)
      refine ⟨by omega, ?_⟩
      refine ⟨fun h7 => ?_, fun h7 => ?_⟩
      · exact hQ _ _ ⟨gI_ls, fI_ls, (show su = flT T (flo (st 216) (st 217) (st 170 71) n) (n - 1 : Int).toNat from (by
          have z := TT_sum t_ls (g := s_ls 218) (fun q _ => rfl)
          rw [show T 0 1 = i by omega] at z
          rw [← z]
          exact v_ls)), (show ¬ su = 0 → TD T (flo (st 216) (st 217) (st 170 71) n) (n - 1 : Int).toNat (s_ls 218) (-1) ∧ TU T (flo (st 216) (st 217) (st 170 71) n) (s_ls 219) n from (fun _ => ⟨t_ls, w_ls⟩))⟩
      · have g8 := g_onFrom gI_ls (i : Int).toNat
        refine ⟨by omega, ?_⟩
        refine ⟨by omega, ?_⟩
        refine ⟨by omega, ?_⟩
        exact ih_ls _ (show (T 0 1 - (i + 1) : Int).toNat < u_ls from by omega) (i + 1) (su + (s_ls 218 (i : Int).toNat)) s_ls ⟨gI_ls, fI_ls, (show 0 ≤ (i + 1) ∧ (i + 1) ≤ T 0 1 ∧ 0 ≤ (su + (s_ls 218 (i : Int).toNat)) ∧ (su + (s_ls 218 (i : Int).toNat)) ≤ (i + 1) * 144115188075855872 from by omega), (show TD T (flo (st 216) (st 217) (st 170 71) n) (n - 1 : Int).toNat (s_ls 218) (-1) from t_ls), (show TU T (flo (st 216) (st 217) (st 170 71) n) (s_ls 219) n from w_ls), (show (su + (s_ls 218 (i : Int).toNat)) = flS (s_ls 218) ((i + 1) : Int).toNat from (by
              rw [flS_s (by omega), ← v_ls]))⟩ rfl
  have mk : ∀ (u : Nat) (k : Int) (s_mk : zS), gInv zgt s_mk ∧ aFr m_vFills st s_mk ∧ (0 ≤ k ∧ k ≤ n) ∧ (∀ j : Nat, (j : Int) < st 170 71 → st 216 j < n) ∧ (TU T (flo (st 216) (st 217) (st 170 71) n) (s_mk 219) k) ∧ (TD T (flo (st 216) (st 217) (st 170 71) n) (n - 1 : Int).toNat (s_mk 218) (-1)) → (n - k).toNat = u → K (rx_find rx_m35 172) [(2, .inl k), (0, .inr (.inr (.inl 170))), (1, .inl n)] [] s_mk := by
    intro u_mk
    induction u_mk using Nat.strongRecOn with
    | _ u_mk ih_mk =>
      intro k s_mk hi hu_mk
      obtain ⟨gI_mk, fI_mk, i_mk, nf_mk, t_mk, d_mk⟩ := hi
      have hpl_mk : s_mk 172 (st 170 13 : Int).toNat = T 0 1 := (fI_mk 172 _ rfl rfl).trans hpl
      have g9 := g_rows hG
      have g11 := g_bank hG
      have e10 : s_mk 170 13 = st 170 13 := fI_mk 170 13 rfl rfl
      have e12 : s_mk 170 71 = st 170 71 := fI_mk 170 71 rfl rfl
      have mp : ∀ (u : Nat) (z : Int) (s_mp : zS), gInv zgt s_mp ∧ aFr m_vFills st s_mp ∧ (0 ≤ z ∧ z ≤ T 0 1 ∧ 0 ≤ k ∧ k < n) ∧ (∀ j : Nat, (j : Int) < st 170 71 → st 216 j < n) ∧ (TU T (flo (st 216) (st 217) (st 170 71) n) (s_mp 219) k) ∧ (TUp T (flo (st 216) (st 217) (st 170 71) n) (s_mp 219) k z) ∧ (TD T (flo (st 216) (st 217) (st 170 71) n) (n - 1 : Int).toNat (s_mp 218) (-1)) → (T 0 1 - z).toNat = u → K (rx_find rx_m35 179) [(3, .inl z), (2, .inl k), (0, .inr (.inr (.inl 170))), (1, .inl n)] [] s_mp := by
        intro u_mp
        induction u_mp using Nat.strongRecOn with
        | _ u_mp ih_mp =>
          intro z s_mp hi hu_mp
          obtain ⟨gI_mp, fI_mp, i_mp, nf_mp, t_mp, p_mp, d_mp⟩ := hi
          have hpl_mp : s_mp 172 (st 170 13 : Int).toNat = T 0 1 := (fI_mp 172 _ rfl rfl).trans hpl
          have g13 := g_rows hG
          have g15 := g_bank hG
          have e14 : s_mp 170 13 = st 170 13 := fI_mp 170 13 rfl rfl
          have e16 : s_mp 170 71 = st 170 71 := fI_mp 170 71 rfl rfl
          have mq : ∀ (u : Nat) (i : Int) (su : Int), (0 ≤ i ∧ i ≤ T 0 1 ∧ 0 ≤ su ∧ su ≤ 1 + i * 144115188075855872 ∧ 0 ≤ z ∧ z < T 0 1 ∧ 0 ≤ k ∧ k < n) ∧ ((k = 0 → su = 1) ∧ (¬ k = 0 → su = flS (fun q : Nat => if 0 ≤ lnk T ((z : Int).toNat : Int) (q : Int) then s_mp 219 (8 * (k - 1) + (q : Int) : Int).toNat else 0) (i : Int).toNat)) → (T 0 1 - i).toNat = u → K (rx_find rx_m35 206) [(6, .inl i), (4, .inr (.inl su)), (3, .inl z), (2, .inl k), (0, .inr (.inr (.inl 170))), (1, .inl n)] [] s_mp := by
            intro u_mq
            induction u_mq using Nat.strongRecOn with
            | _ u_mq ih_mq =>
              intro i su hi hu_mq
              obtain ⟨i_mq, v_mq⟩ := hi
              have hz : i < T 0 1 → _ := fun y => zad_l (T := T) (st := s_mp) (by rw [show s_mp 170 13 = st 170 13 from fI_mp 170 13 rfl rfl]; exact RT_fr rfl fI_mp rt) (x := z) (y := i) (by omega) (by omega) (by omega) (by omega)
              unfold zad at hz
              have hw : i < T 0 1 → _ := fun y => tw.2.2.1 z i (by omega) (by omega) (by omega) (by omega)
              have hfb : 0 < k → i < T 0 1 → 0 ≤ s_mp 219 (8 * (k - 1) + i : Int).toNat ∧ s_mp 219 (8 * (k - 1) + i : Int).toNat ≤ 144115188075855872 := fun y1 y2 => by
                have y := TU_b hP t_mp (j := k.toNat - 1) (by omega) (by omega) (q := (i : Int).toNat) (by omega)
                rw [show 8 * (k.toNat - 1) + (i : Int).toNat = (8 * (k - 1) + i : Int).toNat by omega] at y
                exact y
              have g18 := g_bank hG
              have e17 : s_mp 170 13 = st 170 13 := fI_mp 170 13 rfl rfl
              have g20 := g_rows hG
              have e19 : s_mp 170 71 = st 170 71 := fI_mp 170 71 rfl rfl
              refine yr1_ok (Rt := Q) (wc := (wcL [(0, k_between), (222, k_vCanBe)])) (stp := [172, 179, 206, 310]) hcm hcl [] 215 ?_
              show ((0 ≤ s_mp 170 13 ∧ s_mp 170 13 < 2) ∧ ((s_mp 172 (s_mp 170 13 : Int).toNat ≤ i → ((-2147483648 ≤ (8 : Int) * k ∧ (8 : Int) * k ≤ 2147483647) ∧ ((-2147483648 ≤ ((8 : Int) * k) + z ∧ ((8 : Int) * k) + z ≤ 2147483647) ∧ (170 = 170 ∧ (rq_vCanBe k z s_mp ∧ (∀ (r21 : Int), en_vCanBe k z s_mp r21 → ((r21 = (0 : Int) → ((0 ≤ ((8 : Int) * k) + z ∧ ((8 : Int) * k) + z < 160) ∧ ((-2147483648 ≤ z + 1 ∧ z + 1 ≤ 2147483647) ∧ K (rx_find rx_m35 179) [(3, .inl (z + 1)), (6, .inl i), (4, .inr (.inl su)), (2, .inl k), (0, .inr (.inr (.inl 170))), (1, .inl n)] [] (zup s_mp 219 (((8 : Int) * k) + z : Int).toNat 0)))) ∧ (¬ (r21 = (0 : Int)) → ((0 ≤ ((8 : Int) * k) + z ∧ ((8 : Int) * k) + z < 160) ∧ ((-2147483648 ≤ z + 1 ∧ z + 1 ≤ 2147483647) ∧ K (rx_find rx_m35 179) [(3, .inl (z + 1)), (6, .inl i), (4, .inr (.inl su)), (2, .inl k), (0, .inr (.inr (.inl 170))), (1, .inl n)] [] (zup s_mp 219 (((8 : Int) * k) + z : Int).toNat su))))))))))) ∧ (¬ (s_mp 172 (s_mp 170 13 : Int).toNat ≤ i) → ((k ≤ (0 : Int) → ((-2147483648 ≤ (8 : Int) * k ∧ (8 : Int) * k ≤ 2147483647) ∧ ((-2147483648 ≤ ((8 : Int) * k) + z ∧ ((8 : Int) * k) + z ≤ 2147483647) ∧ (170 = 170 ∧ (rq_vCanBe k z s_mp ∧ (∀ (r22 : Int), en_vCanBe k z s_mp r22 → ((r22 = (0 : Int) → ((0 ≤ ((8 : Int) * k) + z ∧ ((8 : Int) * k) + z < 160) ∧ ((-2147483648 ≤ z + 1 ∧ z + 1 ≤ 2147483647) ∧ K (rx_find rx_m35 179) [(3, .inl (z + 1)), (6, .inl i), (4, .inr (.inl su)), (2, .inl k), (0, .inr (.inr (.inl 170))), (1, .inl n)] [] (zup s_mp 219 (((8 : Int) * k) + z : Int).toNat 0)))) ∧ (¬ (r22 = (0 : Int)) → ((0 ≤ ((8 : Int) * k) + z ∧ ((8 : Int) * k) + z < 160) ∧ ((-2147483648 ≤ z + 1 ∧ z + 1 ≤ 2147483647) ∧ K (rx_find rx_m35 179) [(3, .inl (z + 1)), (6, .inl i), (4, .inr (.inl su)), (2, .inl k), (0, .inr (.inr (.inl 170))), (1, .inl n)] [] (zup s_mp 219 (((8 : Int) * k) + z : Int).toNat su))))))))))) ∧ (¬ (k ≤ (0 : Int)) → (170 = 170 ∧ (rq_between (s_mp 170 13) z i s_mp ∧ (∀ (r23 : Int), en_between (s_mp 170 13) z i s_mp r23 → ((r23 ≤ (0 : Int) → ((-9223372036854775808 ≤ su + 0 ∧ su + 0 ≤ 9223372036854775807) ∧ ((-2147483648 ≤ i + 1 ∧ i + 1 ≤ 2147483647) ∧ K (rx_find rx_m35 206) [(6, .inl (i + 1)), (4, .inr (.inl (su + 0))), (3, .inl z), (2, .inl k), (0, .inr (.inr (.inl 170))), (1, .inl n)] [] s_mp))) ∧ (¬ (r23 ≤ (0 : Int)) → ((-2147483648 ≤ k - 1 ∧ k - 1 ≤ 2147483647) ∧ ((-2147483648 ≤ (8 : Int) * (k - 1) ∧ (8 : Int) * (k - 1) ≤ 2147483647) ∧ ((-2147483648 ≤ ((8 : Int) * (k - 1)) + i ∧ ((8 : Int) * (k - 1)) + i ≤ 2147483647) ∧ ((0 ≤ ((8 : Int) * (k - 1)) + i ∧ ((8 : Int) * (k - 1)) + i < 160) ∧ ((-9223372036854775808 ≤ su + (s_mp 219 (((8 : Int) * (k - 1)) + i : Int).toNat) ∧ su + (s_mp 219 (((8 : Int) * (k - 1)) + i : Int).toNat) ≤ 9223372036854775807) ∧ ((-2147483648 ≤ i + 1 ∧ i + 1 ≤ 2147483647) ∧ K (rx_find rx_m35 206) [(6, .inl (i + 1)), (4, .inr (.inl (su + (s_mp 219 (((8 : Int) * (k - 1)) + i : Int).toNat)))), (3, .inl z), (2, .inl k), (0, .inr (.inr (.inl 170))), (1, .inl n)] [] s_mp))))))))))))))))
              have g25 := g_places hG (st 170 13 : Int).toNat
              have e24 : s_mp 172 (s_mp 170 13 : Int).toNat = st 172 (st 170 13 : Int).toNat := (fI_mp 172 (s_mp 170 13 : Int).toNat rfl rfl).trans (by rw [e17] <;> rfl)
              refine ⟨by omega, ?_⟩
              refine ⟨fun h26 => ?_, fun h26 => ?_⟩
              · refine ⟨by omega, ?_⟩
                refine ⟨by omega, ?_⟩
                refine ⟨rfl, gI_mp, fun r21 q21 => ?_⟩
                have e21 := q21
                change r21 = cbv (s_mp 216) (s_mp 217) (s_mp 170 71) k z at e21
                rw [show s_mp 216 = st 216 from funext (fun i => fI_mp 216 i rfl rfl), show s_mp 217 = st 217 from funext (fun i => fI_mp 217 i rfl rfl), show s_mp 170 71 = st 170 71 from fI_mp 170 71 rfl rfl] at e21
                refine ⟨fun h27 => ?_, fun h27 => ?_⟩
                · refine ⟨by omega, ?_⟩
                  refine ⟨by omega, ?_⟩
                  exact hsl _ _ _ _ _ (sb_cons (.head _) (sb_cons (.tail _ (.tail _ (.tail _ (.head _)))) (sb_cons (.tail _ (.tail _ (.tail _ (.tail _ (.head _))))) (sb_cons (.tail _ (.tail _ (.tail _ (.tail _ (.tail _ (.head _)))))) sb_nil)))) (ih_mp _ (show (T 0 1 - (z + 1) : Int).toNat < u_mp from by omega) (z + 1) (zup s_mp 219 (((8 : Int) * k) + z : Int).toNat 0) ⟨(gInv_up gI_mp (p_upTo (by omega))), (fr_a fI_mp rfl), (show 0 ≤ (z + 1) ∧ (z + 1) ≤ T 0 1 ∧ 0 ≤ k ∧ k < n from by omega), (show ∀ j : Nat, (j : Int) < st 170 71 → st 216 j < n from nf_mp), (show TU T (flo (st 216) (st 217) (st 170 71) n) ((zup s_mp 219 (((8 : Int) * k) + z : Int).toNat 0) 219) k from (TU_up b8.2 t_mp (z := z) (by omega) (by omega) (x := (((8 : Int) * k) + z : Int).toNat) (by omega))), (show TUp T (flo (st 216) (st 217) (st 170 71) n) ((zup s_mp 219 (((8 : Int) * k) + z : Int).toNat 0) 219) k (z + 1) from (TUp_up p_mp (by omega) (by omega) (x := (((8 : Int) * k) + z : Int).toNat) (by omega) (by
                have hO := cbv_o (S := st 217) nf_mp (k := k) (p := z) (by omega) (by omega)
                have h01 := flo_01 (st 216) (st 217) (st 170 71) n (k : Int).toNat (z : Int).toNat
                by_cases hq : k = 0
                · rw [TU_v1 hq, if_neg (by omega)]
                · rw [TU_v2 (by omega) t_mp (g := (fun q : Nat => s_mp 219 (8 * (k - 1) + (q : Int) : Int).toNat)) (fun q hq2 => by show s_mp 219 _ = _; rw [show (8 * (k - 1) + (q : Int) : Int).toNat = 8 * (k.toNat - 1) + q by omega]), if_neg (by omega)]))), (show TD T (flo (st 216) (st 217) (st 170 71) n) (n - 1 : Int).toNat ((zup s_mp 219 (((8 : Int) * k) + z : Int).toNat 0) 218) (-1) from d_mp)⟩ rfl)
                · refine ⟨by omega, ?_⟩
                  refine ⟨by omega, ?_⟩
                  exact hsl _ _ _ _ _ (sb_cons (.head _) (sb_cons (.tail _ (.tail _ (.tail _ (.head _)))) (sb_cons (.tail _ (.tail _ (.tail _ (.tail _ (.head _))))) (sb_cons (.tail _ (.tail _ (.tail _ (.tail _ (.tail _ (.head _)))))) sb_nil)))) (ih_mp _ (show (T 0 1 - (z + 1) : Int).toNat < u_mp from by omega) (z + 1) (zup s_mp 219 (((8 : Int) * k) + z : Int).toNat su) ⟨(gInv_up gI_mp (p_upTo (by omega))), (fr_a fI_mp rfl), (show 0 ≤ (z + 1) ∧ (z + 1) ≤ T 0 1 ∧ 0 ≤ k ∧ k < n from by omega), (show ∀ j : Nat, (j : Int) < st 170 71 → st 216 j < n from nf_mp), (show TU T (flo (st 216) (st 217) (st 170 71) n) ((zup s_mp 219 (((8 : Int) * k) + z : Int).toNat su) 219) k from (TU_up b8.2 t_mp (z := z) (by omega) (by omega) (x := (((8 : Int) * k) + z : Int).toNat) (by omega))), (show TUp T (flo (st 216) (st 217) (st 170 71) n) ((zup s_mp 219 (((8 : Int) * k) + z : Int).toNat su) 219) k (z + 1) from (TUp_up p_mp (by omega) (by omega) (x := (((8 : Int) * k) + z : Int).toNat) (by omega) (by
                have hO := cbv_o (S := st 217) nf_mp (k := k) (p := z) (by omega) (by omega)
                have h01 := flo_01 (st 216) (st 217) (st 170 71) n (k : Int).toNat (z : Int).toNat
                by_cases hq : k = 0
                · rw [TU_v1 hq, if_pos (by omega)]
                  exact v_mq.1 hq
                · rw [TU_v2 (by omega) t_mp (g := (fun q : Nat => s_mp 219 (8 * (k - 1) + (q : Int) : Int).toNat)) (fun q hq2 => by show s_mp 219 _ = _; rw [show (8 * (k - 1) + (q : Int) : Int).toNat = 8 * (k.toNat - 1) + q by omega]), if_pos (by omega)]
                  have hv := v_mq.2 hq
                  rw [show (i : Int) = T 0 1 by omega] at hv
                  exact hv))), (show TD T (flo (st 216) (st 217) (st 170 71) n) (n - 1 : Int).toNat ((zup s_mp 219 (((8 : Int) * k) + z : Int).toNat su) 218) (-1) from d_mp)⟩ rfl)
              · refine ⟨fun h28 => ?_, fun h28 => ?_⟩
                · refine ⟨by omega, ?_⟩
                  refine ⟨by omega, ?_⟩
                  refine ⟨rfl, gI_mp, fun r22 q22 => ?_⟩
                  have e22 := q22
                  change r22 = cbv (s_mp 216) (s_mp 217) (s_mp 170 71) k z at e22
                  rw [show s_mp 216 = st 216 from funext (fun i => fI_mp 216 i rfl rfl), show s_mp 217 = st 217 from funext (fun i => fI_mp 217 i rfl rfl), show s_mp 170 71 = st 170 71 from fI_mp 170 71 rfl rfl] at e22
                  refine ⟨fun h29 => ?_, fun h29 => ?_⟩
                  · refine ⟨by omega, ?_⟩
                    refine ⟨by omega, ?_⟩
                    exact hsl _ _ _ _ _ (sb_cons (.head _) (sb_cons (.tail _ (.tail _ (.tail _ (.head _)))) (sb_cons (.tail _ (.tail _ (.tail _ (.tail _ (.head _))))) (sb_cons (.tail _ (.tail _ (.tail _ (.tail _ (.tail _ (.head _)))))) sb_nil)))) (ih_mp _ (show (T 0 1 - (z + 1) : Int).toNat < u_mp from by omega) (z + 1) (zup s_mp 219 (((8 : Int) * k) + z : Int).toNat 0) ⟨(gInv_up gI_mp (p_upTo (by omega))), (fr_a fI_mp rfl), (show 0 ≤ (z + 1) ∧ (z + 1) ≤ T 0 1 ∧ 0 ≤ k ∧ k < n from by omega), (show ∀ j : Nat, (j : Int) < st 170 71 → st 216 j < n from nf_mp), (show TU T (flo (st 216) (st 217) (st 170 71) n) ((zup s_mp 219 (((8 : Int) * k) + z : Int).toNat 0) 219) k from (TU_up b8.2 t_mp (z := z) (by omega) (by omega) (x := (((8 : Int) * k) + z : Int).toNat) (by omega))), (show TUp T (flo (st 216) (st 217) (st 170 71) n) ((zup s_mp 219 (((8 : Int) * k) + z : Int).toNat 0) 219) k (z + 1) from (TUp_up p_mp (by omega) (by omega) (x := (((8 : Int) * k) + z : Int).toNat) (by omega) (by
                have hO := cbv_o (S := st 217) nf_mp (k := k) (p := z) (by omega) (by omega)
                have h01 := flo_01 (st 216) (st 217) (st 170 71) n (k : Int).toNat (z : Int).toNat
                by_cases hq : k = 0
                · rw [TU_v1 hq, if_neg (by omega)]
                · rw [TU_v2 (by omega) t_mp (g := (fun q : Nat => s_mp 219 (8 * (k - 1) + (q : Int) : Int).toNat)) (fun q hq2 => by show s_mp 219 _ = _; rw [show (8 * (k - 1) + (q : Int) : Int).toNat = 8 * (k.toNat - 1) + q by omega]), if_neg (by omega)]))), (show TD T (flo (st 216) (st 217) (st 170 71) n) (n - 1 : Int).toNat ((zup s_mp 219 (((8 : Int) * k) + z : Int).toNat 0) 218) (-1) from d_mp)⟩ rfl)
                  · refine ⟨by omega, ?_⟩
                    refine ⟨by omega, ?_⟩
                    exact hsl _ _ _ _ _ (sb_cons (.head _) (sb_cons (.tail _ (.tail _ (.tail _ (.head _)))) (sb_cons (.tail _ (.tail _ (.tail _ (.tail _ (.head _))))) (sb_cons (.tail _ (.tail _ (.tail _ (.tail _ (.tail _ (.head _)))))) sb_nil)))) (ih_mp _ (show (T 0 1 - (z + 1) : Int).toNat < u_mp from by omega) (z + 1) (zup s_mp 219 (((8 : Int) * k) + z : Int).toNat su) ⟨(gInv_up gI_mp (p_upTo (by omega))), (fr_a fI_mp rfl), (show 0 ≤ (z + 1) ∧ (z + 1) ≤ T 0 1 ∧ 0 ≤ k ∧ k < n from by omega), (show ∀ j : Nat, (j : Int) < st 170 71 → st 216 j < n from nf_mp), (show TU T (flo (st 216) (st 217) (st 170 71) n) ((zup s_mp 219 (((8 : Int) * k) + z : Int).toNat su) 219) k from (TU_up b8.2 t_mp (z := z) (by omega) (by omega) (x := (((8 : Int) * k) + z : Int).toNat) (by omega))), (show TUp T (flo (st 216) (st 217) (st 170 71) n) ((zup s_mp 219 (((8 : Int) * k) + z : Int).toNat su) 219) k (z + 1) from (TUp_up p_mp (by omega) (by omega) (x := (((8 : Int) * k) + z : Int).toNat) (by omega) (by
                have hO := cbv_o (S := st 217) nf_mp (k := k) (p := z) (by omega) (by omega)
                have h01 := flo_01 (st 216) (st 217) (st 170 71) n (k : Int).toNat (z : Int).toNat
                by_cases hq : k = 0
                · rw [TU_v1 hq, if_pos (by omega)]
                  exact v_mq.1 hq
                · rw [TU_v2 (by omega) t_mp (g := (fun q : Nat => s_mp 219 (8 * (k - 1) + (q : Int) : Int).toNat)) (fun q hq2 => by show s_mp 219 _ = _; rw [show (8 * (k - 1) + (q : Int) : Int).toNat = 8 * (k.toNat - 1) + q by omega]), if_pos (by omega)]
                  have hv := v_mq.2 hq
                  rw [show (i : Int) = T 0 1 by omega] at hv
                  exact hv))), (show TD T (flo (st 216) (st 217) (st 170 71) n) (n - 1 : Int).toNat ((zup s_mp 219 (((8 : Int) * k) + z : Int).toNat su) 218) (-1) from d_mp)⟩ rfl)
                · refine ⟨rfl, (show 0 ≤ (s_mp 170 13) ∧ (s_mp 170 13) ≤ 1 ∧ 0 ≤ z ∧ z < 8 ∧ 0 ≤ i ∧ i < 8 from by omega), fun r23 q23 => ?_⟩
                  have e23 := q23
                  change r23 = s_mp 177 (64 * (s_mp 170 13) + 8 * z + i : Int).toNat at e23
                  have g31 := g_streetAt hG (64 * (st 170 13) + 8 * z + i : Int).toNat
                  have e30 : s_mp 177 (64 * (s_mp 170 13) + 8 * z + i : Int).toNat = st 177 (64 * (st 170 13) + 8 * z + i : Int).toNat := (fI_mp 177 (64 * (s_mp 170 13) + 8 * z + i : Int).toNat rfl rfl).trans (by rw [e17] <;> rfl)
                  refine ⟨fun h32 => ?_, fun h32 => ?_⟩
                  · refine ⟨by omega, ?_⟩
                    refine ⟨by omega, ?_⟩
                    exact ih_mq _ (show (T 0 1 - (i + 1) : Int).toNat < u_mq from by omega) (i + 1) (su + 0) ⟨(show 0 ≤ (i + 1) ∧ (i + 1) ≤ T 0 1 ∧ 0 ≤ (su + 0) ∧ (su + 0) ≤ 1 + (i + 1) * 144115188075855872 ∧ 0 ≤ z ∧ z < T 0 1 ∧ 0 ≤ k ∧ k < n from by omega), (show (k = 0 → (su + 0) = 1) ∧ (¬ k = 0 → (su + 0) = flS (fun q : Nat => if 0 ≤ lnk T ((z : Int).toNat : Int) (q : Int) then s_mp 219 (8 * (k - 1) + (q : Int) : Int).toNat else 0) ((i + 1) : Int).toNat) from (by
                  refine ⟨fun q => by exfalso; omega, fun q => ?_⟩
                  have hv := flb_s (T := T) (f := (fun q : Nat => s_mp 219 (8 * (k - 1) + (q : Int) : Int).toNat)) (p := z) (i := i) (by omega) (by omega)
                  refine Eq.trans ?_ hv.symm
                  rw [if_neg (show ¬ 0 ≤ lnk T z i by omega), ← v_mq.2 q]))⟩ rfl
                  · refine ⟨by omega, ?_⟩
                    refine ⟨by omega, ?_⟩
                    refine ⟨by omega, ?_⟩
                    have g33 := g_upTo gI_mp (((8 : Int) * (k - 1)) + i : Int).toNat
                    refine ⟨by omega, ?_⟩
                    refine ⟨by omega, ?_⟩
                    refine ⟨by omega, ?_⟩
                    exact ih_mq _ (show (T 0 1 - (i + 1) : Int).toNat < u_mq from by omega) (i + 1) (su + (s_mp 219 (((8 : Int) * (k - 1)) + i : Int).toNat)) ⟨(show 0 ≤ (i + 1) ∧ (i + 1) ≤ T 0 1 ∧ 0 ≤ (su + (s_mp 219 (((8 : Int) * (k - 1)) + i : Int).toNat)) ∧ (su + (s_mp 219 (((8 : Int) * (k - 1)) + i : Int).toNat)) ≤ 1 + (i + 1) * 144115188075855872 ∧ 0 ≤ z ∧ z < T 0 1 ∧ 0 ≤ k ∧ k < n from by omega), (show (k = 0 → (su + (s_mp 219 (((8 : Int) * (k - 1)) + i : Int).toNat)) = 1) ∧ (¬ k = 0 → (su + (s_mp 219 (((8 : Int) * (k - 1)) + i : Int).toNat)) = flS (fun q : Nat => if 0 ≤ lnk T ((z : Int).toNat : Int) (q : Int) then s_mp 219 (8 * (k - 1) + (q : Int) : Int).toNat else 0) ((i + 1) : Int).toNat) from (by
                  refine ⟨fun q => by exfalso; omega, fun q => ?_⟩
                  have hv := flb_s (T := T) (f := (fun q : Nat => s_mp 219 (8 * (k - 1) + (q : Int) : Int).toNat)) (p := z) (i := i) (by omega) (by omega)
                  refine Eq.trans ?_ hv.symm
                  rw [if_pos (show 0 ≤ lnk T z i by omega), ← v_mq.2 q]
                  show _ = _ + s_mp 219 (8 * (k - 1) + ((i.toNat : Nat) : Int) : Int).toNat
                  rw [show ((i.toNat : Nat) : Int) = i by omega]))⟩ rfl
          refine yr1_ok (Rt := Q) (wc := (wcL [(0, k_between), (222, k_vCanBe)])) (stp := [172, 179, 206, 310]) hcm hcl [] 215 ?_
          show ((0 ≤ s_mp 170 13 ∧ s_mp 170 13 < 2) ∧ ((s_mp 172 (s_mp 170 13 : Int).toNat ≤ z → ((-2147483648 ≤ k + 1 ∧ k + 1 ≤ 2147483647) ∧ K (rx_find rx_m35 172) [(2, .inl (k + 1)), (3, .inl z), (0, .inr (.inr (.inl 170))), (1, .inl n)] [] s_mp)) ∧ (¬ (s_mp 172 (s_mp 170 13 : Int).toNat ≤ z) → ((¬ k = (0 : Int) → K (rx_find rx_m35 206) [(6, .inl 0), (4, .inr (.inl 0)), (3, .inl z), (2, .inl k), (0, .inr (.inr (.inl 170))), (1, .inl n)] [] s_mp) ∧ (¬ (¬ k = (0 : Int)) → K (rx_find rx_m35 206) [(6, .inl 0), (4, .inr (.inl 1)), (3, .inl z), (2, .inl k), (0, .inr (.inr (.inl 170))), (1, .inl n)] [] s_mp)))))
          have g35 := g_places hG (st 170 13 : Int).toNat
          have e34 : s_mp 172 (s_mp 170 13 : Int).toNat = st 172 (st 170 13 : Int).toNat := (fI_mp 172 (s_mp 170 13 : Int).toNat rfl rfl).trans (by rw [e14] <;> rfl)
          refine ⟨by omega, ?_⟩
          refine ⟨fun h36 => ?_, fun h36 => ?_⟩
          · refine ⟨by omega, ?_⟩
            exact hsl _ _ _ _ _ (sb_cons (.head _) (sb_cons (.tail _ (.tail _ (.head _))) (sb_cons (.tail _ (.tail _ (.tail _ (.head _)))) sb_nil))) (ih_mk _ (show (n - (k + 1) : Int).toNat < u_mk from by omega) (k + 1) s_mp ⟨gI_mp, fI_mp, (show 0 ≤ (k + 1) ∧ (k + 1) ≤ n from by omega), (show ∀ j : Nat, (j : Int) < st 170 71 → st 216 j < n from nf_mp), (show TU T (flo (st 216) (st 217) (st 170 71) n) (s_mp 219) (k + 1) from (TU_row t_mp p_mp (by omega) (by omega))), (show TD T (flo (st 216) (st 217) (st 170 71) n) (n - 1 : Int).toNat (s_mp 218) (-1) from d_mp)⟩ rfl)
          · refine ⟨fun h37 => ?_, fun h37 => ?_⟩
            · exact mq _ 0 0 ⟨(show 0 ≤ (0 : Int) ∧ (0 : Int) ≤ T 0 1 ∧ 0 ≤ (0 : Int) ∧ (0 : Int) ≤ 1 + (0 : Int) * 144115188075855872 ∧ 0 ≤ z ∧ z < T 0 1 ∧ 0 ≤ k ∧ k < n from by omega), (show (k = 0 → (0 : Int) = 1) ∧ (¬ k = 0 → (0 : Int) = flS (fun q : Nat => if 0 ≤ lnk T ((z : Int).toNat : Int) (q : Int) then s_mp 219 (8 * (k - 1) + (q : Int) : Int).toNat else 0) ((0 : Int) : Int).toNat) from ⟨fun q => by omega, fun q => by first | rfl | (exfalso; omega)⟩)⟩ rfl
            · exact mq _ 0 1 ⟨(show 0 ≤ (0 : Int) ∧ (0 : Int) ≤ T 0 1 ∧ 0 ≤ (1 : Int) ∧ (1 : Int) ≤ 1 + (0 : Int) * 144115188075855872 ∧ 0 ≤ z ∧ z < T 0 1 ∧ 0 ≤ k ∧ k < n from by omega), (show (k = 0 → (1 : Int) = 1) ∧ (¬ k = 0 → (1 : Int) = flS (fun q : Nat => if 0 ≤ lnk T ((z : Int).toNat : Int) (q : Int) then s_mp 219 (8 * (k - 1) + (q : Int) : Int).toNat else 0) ((0 : Int) : Int).toNat) from ⟨fun q => by omega, fun q => by first | rfl | (exfalso; omega)⟩)⟩ rfl
      refine yr1_ok (Rt := Q) (wc := (wcL [(0, k_between), (222, k_vCanBe)])) (stp := [172, 179, 206, 310]) hcm hcl [] 215 ?_
      show ((n ≤ k → K (rx_find rx_m35 310) [(4, .inl 0), (2, .inr (.inl 0)), (0, .inr (.inr (.inl 170))), (1, .inl n)] [] s_mk) ∧ (¬ (n ≤ k) → K (rx_find rx_m35 179) [(3, .inl 0), (2, .inl k), (0, .inr (.inr (.inl 170))), (1, .inl n)] [] s_mk))
      refine ⟨fun h38 => ?_, fun h38 => ?_⟩
      · exact ls _ 0 0 s_mk ⟨gI_mk, fI_mk, (show 0 ≤ (0 : Int) ∧ (0 : Int) ≤ T 0 1 ∧ 0 ≤ (0 : Int) ∧ (0 : Int) ≤ (0 : Int) * 144115188075855872 from by omega), (show TD T (flo (st 216) (st 217) (st 170 71) n) (n - 1 : Int).toNat (s_mk 218) (-1) from d_mk), (show TU T (flo (st 216) (st 217) (st 170 71) n) (s_mk 219) n from (by
              have z := t_mk
              rw [show k = n by omega] at z
              exact z)), (show (0 : Int) = flS (s_mk 218) ((0 : Int) : Int).toNat from rfl)⟩ rfl
      · exact mp _ 0 s_mk ⟨gI_mk, fI_mk, (show 0 ≤ (0 : Int) ∧ (0 : Int) ≤ T 0 1 ∧ 0 ≤ k ∧ k < n from by omega), (show ∀ j : Nat, (j : Int) < st 170 71 → st 216 j < n from nf_mk), (show TU T (flo (st 216) (st 217) (st 170 71) n) (s_mk 219) k from t_mk), (show TUp T (flo (st 216) (st 217) (st 170 71) n) (s_mk 219) k (0 : Int) from (TUp_0 _ _ _ _)), (show TD T (flo (st 216) (st 217) (st 170 71) n) (n - 1 : Int).toNat (s_mk 218) (-1) from d_mk)⟩ rfl
  have lk : ∀ (u : Nat) (k : Int) (s_lk : zS), gInv zgt s_lk ∧ aFr m_vFills st s_lk ∧ (-1 ≤ k ∧ k < n) ∧ (∀ j : Nat, (j : Int) < st 170 71 → st 216 j < n) ∧ (TD T (flo (st 216) (st 217) (st 170 71) n) (n - 1 : Int).toNat (s_lk 218) k) → (k + 1).toNat = u → K (rx_find rx_m35 32) [(2, .inl k), (0, .inr (.inr (.inl 170))), (1, .inl n)] [] s_lk := by
    intro u_lk
    induction u_lk using Nat.strongRecOn with
    | _ u_lk ih_lk =>
      intro k s_lk hi hu_lk
      obtain ⟨gI_lk, fI_lk, i_lk, nf_lk, t_lk⟩ := hi
      have hpl_lk : s_lk 172 (st 170 13 : Int).toNat = T 0 1 := (fI_lk 172 _ rfl rfl).trans hpl
      have g39 := g_rows hG
      have g41 := g_bank hG
      have e40 : s_lk 170 13 = st 170 13 := fI_lk 170 13 rfl rfl
      have e42 : s_lk 170 71 = st 170 71 := fI_lk 170 71 rfl rfl
      have lp : ∀ (u : Nat) (z : Int) (s_lp : zS), gInv zgt s_lp ∧ aFr m_vFills st s_lp ∧ (0 ≤ z ∧ z ≤ T 0 1 ∧ 0 ≤ k ∧ k < n) ∧ (∀ j : Nat, (j : Int) < st 170 71 → st 216 j < n) ∧ (TD T (flo (st 216) (st 217) (st 170 71) n) (n - 1 : Int).toNat (s_lp 218) k) ∧ (TDp T (flo (st 216) (st 217) (st 170 71) n) (n - 1 : Int).toNat (s_lp 218) k z) → (T 0 1 - z).toNat = u → K (rx_find rx_m35 38) [(3, .inl z), (2, .inl k), (0, .inr (.inr (.inl 170))), (1, .inl n)] [] s_lp := by
        intro u_lp
        induction u_lp using Nat.strongRecOn with
        | _ u_lp ih_lp =>
          intro z s_lp hi hu_lp
          obtain ⟨gI_lp, fI_lp, i_lp, nf_lp, t_lp, p_lp⟩ := hi
          have hpl_lp : s_lp 172 (st 170 13 : Int).toNat = T 0 1 := (fI_lp 172 _ rfl rfl).trans hpl
          have g43 := g_rows hG
          have g45 := g_bank hG
          have e44 : s_lp 170 13 = st 170 13 := fI_lp 170 13 rfl rfl
          have e46 : s_lp 170 71 = st 170 71 := fI_lp 170 71 rfl rfl
          have lq : ∀ (u : Nat) (i : Int) (su : Int), (0 ≤ i ∧ i ≤ T 0 1 ∧ 0 ≤ su ∧ su ≤ 1 + i * 144115188075855872 ∧ 0 ≤ z ∧ z < T 0 1 ∧ 0 ≤ k ∧ k < n) ∧ ((k = n - 1 → su = 1) ∧ (¬ k = n - 1 → su = flS (fun q : Nat => if 0 ≤ lnk T ((z : Int).toNat : Int) (q : Int) then s_lp 218 (8 * (k + 1) + (q : Int) : Int).toNat else 0) (i : Int).toNat)) → (T 0 1 - i).toNat = u → K (rx_find rx_m35 68) [(6, .inl i), (4, .inr (.inl su)), (3, .inl z), (2, .inl k), (0, .inr (.inr (.inl 170))), (1, .inl n)] [] s_lp := by
            intro u_lq
            induction u_lq using Nat.strongRecOn with
            | _ u_lq ih_lq =>
              intro i su hi hu_lq
              obtain ⟨i_lq, v_lq⟩ := hi
              have hz : i < T 0 1 → _ := fun y => zad_l (T := T) (st := s_lp) (by rw [show s_lp 170 13 = st 170 13 from fI_lp 170 13 rfl rfl]; exact RT_fr rfl fI_lp rt) (x := z) (y := i) (by omega) (by omega) (by omega) (by omega)
              unfold zad at hz
              have hw : i < T 0 1 → _ := fun y => tw.2.2.1 z i (by omega) (by omega) (by omega) (by omega)
              have hfb : k < n - 1 → i < T 0 1 → 0 ≤ s_lp 218 (8 * (k + 1) + i : Int).toNat ∧ s_lp 218 (8 * (k + 1) + i : Int).toNat ≤ 144115188075855872 := fun y1 y2 => by
                have y := TD_b hP (show (n - 1 : Int).toNat ≤ 19 by omega) t_lp (j := k.toNat + 1) (by omega) (by omega) (q := (i : Int).toNat) (by omega)
                rw [show 8 * (k.toNat + 1) + (i : Int).toNat = (8 * (k + 1) + i : Int).toNat by omega] at y
                exact y
              have g48 := g_bank hG
              have e47 : s_lp 170 13 = st 170 13 := fI_lp 170 13 rfl rfl
              have g50 := g_rows hG
              have e49 : s_lp 170 71 = st 170 71 := fI_lp 170 71 rfl rfl
              refine yr1_ok (Rt := Q) (wc := (wcL [(0, k_between), (222, k_vCanBe)])) (stp := [32, 38, 68, 172, 179, 206, 310]) hcm hcl [] 215 ?_
              show ((0 ≤ s_lp 170 13 ∧ s_lp 170 13 < 2) ∧ ((s_lp 172 (s_lp 170 13 : Int).toNat ≤ i → ((-2147483648 ≤ (8 : Int) * k ∧ (8 : Int) * k ≤ 2147483647) ∧ ((-2147483648 ≤ ((8 : Int) * k) + z ∧ ((8 : Int) * k) + z ≤ 2147483647) ∧ (170 = 170 ∧ (rq_vCanBe k z s_lp ∧ (∀ (r51 : Int), en_vCanBe k z s_lp r51 → ((r51 = (0 : Int) → ((0 ≤ ((8 : Int) * k) + z ∧ ((8 : Int) * k) + z < 160) ∧ ((-2147483648 ≤ z + 1 ∧ z + 1 ≤ 2147483647) ∧ K (rx_find rx_m35 38) [(3, .inl (z + 1)), (6, .inl i), (4, .inr (.inl su)), (2, .inl k), (0, .inr (.inr (.inl 170))), (1, .inl n)] [] (zup s_lp 218 (((8 : Int) * k) + z : Int).toNat 0)))) ∧ (¬ (r51 = (0 : Int)) → ((0 ≤ ((8 : Int) * k) + z ∧ ((8 : Int) * k) + z < 160) ∧ ((-2147483648 ≤ z + 1 ∧ z + 1 ≤ 2147483647) ∧ K (rx_find rx_m35 38) [(3, .inl (z + 1)), (6, .inl i), (4, .inr (.inl su)), (2, .inl k), (0, .inr (.inr (.inl 170))), (1, .inl n)] [] (zup s_lp 218 (((8 : Int) * k) + z : Int).toNat su))))))))))) ∧ (¬ (s_lp 172 (s_lp 170 13 : Int).toNat ≤ i) → ((-2147483648 ≤ n - 1 ∧ n - 1 ≤ 2147483647) ∧ ((n - 1 ≤ k → ((-2147483648 ≤ (8 : Int) * k ∧ (8 : Int) * k ≤ 2147483647) ∧ ((-2147483648 ≤ ((8 : Int) * k) + z ∧ ((8 : Int) * k) + z ≤ 2147483647) ∧ (170 = 170 ∧ (rq_vCanBe k z s_lp ∧ (∀ (r52 : Int), en_vCanBe k z s_lp r52 → ((r52 = (0 : Int) → ((0 ≤ ((8 : Int) * k) + z ∧ ((8 : Int) * k) + z < 160) ∧ ((-2147483648 ≤ z + 1 ∧ z + 1 ≤ 2147483647) ∧ K (rx_find rx_m35 38) [(3, .inl (z + 1)), (6, .inl i), (4, .inr (.inl su)), (2, .inl k), (0, .inr (.inr (.inl 170))), (1, .inl n)] [] (zup s_lp 218 (((8 : Int) * k) + z : Int).toNat 0)))) ∧ (¬ (r52 = (0 : Int)) → ((0 ≤ ((8 : Int) * k) + z ∧ ((8 : Int) * k) + z < 160) ∧ ((-2147483648 ≤ z + 1 ∧ z + 1 ≤ 2147483647) ∧ K (rx_find rx_m35 38) [(3, .inl (z + 1)), (6, .inl i), (4, .inr (.inl su)), (2, .inl k), (0, .inr (.inr (.inl 170))), (1, .inl n)] [] (zup s_lp 218 (((8 : Int) * k) + z : Int).toNat su))))))))))) ∧ (¬ (n - 1 ≤ k) → (170 = 170 ∧ (rq_between (s_lp 170 13) z i s_lp ∧ (∀ (r53 : Int), en_between (s_lp 170 13) z i s_lp r53 → ((r53 ≤ (0 : Int) → ((-9223372036854775808 ≤ su + 0 ∧ su + 0 ≤ 9223372036854775807) ∧ ((-2147483648 ≤ i + 1 ∧ i + 1 ≤ 2147483647) ∧ K (rx_find rx_m35 68) [(6, .inl (i + 1)), (4, .inr (.inl (su + 0))), (3, .inl z), (2, .inl k), (0, .inr (.inr (.inl 170))), (1, .inl n)] [] s_lp))) ∧ (¬ (r53 ≤ (0 : Int)) → ((-2147483648 ≤ k + 1 ∧ k + 1 ≤ 2147483647) ∧ ((-2147483648 ≤ (8 : Int) * (k + 1) ∧ (8 : Int) * (k + 1) ≤ 2147483647) ∧ ((-2147483648 ≤ ((8 : Int) * (k + 1)) + i ∧ ((8 : Int) * (k + 1)) + i ≤ 2147483647) ∧ ((0 ≤ ((8 : Int) * (k + 1)) + i ∧ ((8 : Int) * (k + 1)) + i < 160) ∧ ((-9223372036854775808 ≤ su + (s_lp 218 (((8 : Int) * (k + 1)) + i : Int).toNat) ∧ su + (s_lp 218 (((8 : Int) * (k + 1)) + i : Int).toNat) ≤ 9223372036854775807) ∧ ((-2147483648 ≤ i + 1 ∧ i + 1 ≤ 2147483647) ∧ K (rx_find rx_m35 68) [(6, .inl (i + 1)), (4, .inr (.inl (su + (s_lp 218 (((8 : Int) * (k + 1)) + i : Int).toNat)))), (3, .inl z), (2, .inl k), (0, .inr (.inr (.inl 170))), (1, .inl n)] [] s_lp)))))))))))))))))
              have g55 := g_places hG (st 170 13 : Int).toNat
              have e54 : s_lp 172 (s_lp 170 13 : Int).toNat = st 172 (st 170 13 : Int).toNat := (fI_lp 172 (s_lp 170 13 : Int).toNat rfl rfl).trans (by rw [e47] <;> rfl)
              refine ⟨by omega, ?_⟩
              refine ⟨fun h56 => ?_, fun h56 => ?_⟩
              · refine ⟨by omega, ?_⟩
                refine ⟨by omega, ?_⟩
                refine ⟨rfl, gI_lp, fun r51 q51 => ?_⟩
                have e51 := q51
                change r51 = cbv (s_lp 216) (s_lp 217) (s_lp 170 71) k z at e51
                rw [show s_lp 216 = st 216 from funext (fun i => fI_lp 216 i rfl rfl), show s_lp 217 = st 217 from funext (fun i => fI_lp 217 i rfl rfl), show s_lp 170 71 = st 170 71 from fI_lp 170 71 rfl rfl] at e51
                refine ⟨fun h57 => ?_, fun h57 => ?_⟩
                · refine ⟨by omega, ?_⟩
                  refine ⟨by omega, ?_⟩
                  exact hsl _ _ _ _ _ (sb_cons (.head _) (sb_cons (.tail _ (.tail _ (.tail _ (.head _)))) (sb_cons (.tail _ (.tail _ (.tail _ (.tail _ (.head _))))) (sb_cons (.tail _ (.tail _ (.tail _ (.tail _ (.tail _ (.head _)))))) sb_nil)))) (ih_lp _ (show (T 0 1 - (z + 1) : Int).toNat < u_lp from by omega) (z + 1) (zup s_lp 218 (((8 : Int) * k) + z : Int).toNat 0) ⟨(gInv_up gI_lp (p_onFrom (by omega))), (fr_a fI_lp rfl), (show 0 ≤ (z + 1) ∧ (z + 1) ≤ T 0 1 ∧ 0 ≤ k ∧ k < n from by omega), (show ∀ j : Nat, (j : Int) < st 170 71 → st 216 j < n from nf_lp), (show TD T (flo (st 216) (st 217) (st 170 71) n) (n - 1 : Int).toNat ((zup s_lp 218 (((8 : Int) * k) + z : Int).toNat 0) 218) k from (TD_up b8.2 t_lp (z := z) (by omega) (by omega) (by omega) (x := (((8 : Int) * k) + z : Int).toNat) (by omega))), (show TDp T (flo (st 216) (st 217) (st 170 71) n) (n - 1 : Int).toNat ((zup s_lp 218 (((8 : Int) * k) + z : Int).toNat 0) 218) k (z + 1) from (TDp_up p_lp (by omega) (by omega) (x := (((8 : Int) * k) + z : Int).toNat) (by omega) (by
                have hO := cbv_o (S := st 217) nf_lp (k := k) (p := z) (by omega) (by omega)
                have h01 := flo_01 (st 216) (st 217) (st 170 71) n (k : Int).toNat (z : Int).toNat
                by_cases hq : k = n - 1
                · rw [TD_v1 (by omega), if_neg (by omega)]
                · rw [TD_v2 (by omega) (by omega) t_lp (g := (fun q : Nat => s_lp 218 (8 * (k + 1) + (q : Int) : Int).toNat)) (fun q hq2 => by show s_lp 218 _ = _; rw [show (8 * (k + 1) + (q : Int) : Int).toNat = 8 * (k.toNat + 1) + q by omega]), if_neg (by omega)])))⟩ rfl)
                · refine ⟨by omega, ?_⟩
                  refine ⟨by omega, ?_⟩
                  exact hsl _ _ _ _ _ (sb_cons (.head _) (sb_cons (.tail _ (.tail _ (.tail _ (.head _)))) (sb_cons (.tail _ (.tail _ (.tail _ (.tail _ (.head _))))) (sb_cons (.tail _ (.tail _ (.tail _ (.tail _ (.tail _ (.head _)))))) sb_nil)))) (ih_lp _ (show (T 0 1 - (z + 1) : Int).toNat < u_lp from by omega) (z + 1) (zup s_lp 218 (((8 : Int) * k) + z : Int).toNat su) ⟨(gInv_up gI_lp (p_onFrom (by omega))), (fr_a fI_lp rfl), (show 0 ≤ (z + 1) ∧ (z + 1) ≤ T 0 1 ∧ 0 ≤ k ∧ k < n from by omega), (show ∀ j : Nat, (j : Int) < st 170 71 → st 216 j < n from nf_lp), (show TD T (flo (st 216) (st 217) (st 170 71) n) (n - 1 : Int).toNat ((zup s_lp 218 (((8 : Int) * k) + z : Int).toNat su) 218) k from (TD_up b8.2 t_lp (z := z) (by omega) (by omega) (by omega) (x := (((8 : Int) * k) + z : Int).toNat) (by omega))), (show TDp T (flo (st 216) (st 217) (st 170 71) n) (n - 1 : Int).toNat ((zup s_lp 218 (((8 : Int) * k) + z : Int).toNat su) 218) k (z + 1) from (TDp_up p_lp (by omega) (by omega) (x := (((8 : Int) * k) + z : Int).toNat) (by omega) (by
                have hO := cbv_o (S := st 217) nf_lp (k := k) (p := z) (by omega) (by omega)
                have h01 := flo_01 (st 216) (st 217) (st 170 71) n (k : Int).toNat (z : Int).toNat
                by_cases hq : k = n - 1
                · rw [TD_v1 (by omega), if_pos (by omega)]
                  exact v_lq.1 hq
                · rw [TD_v2 (by omega) (by omega) t_lp (g := (fun q : Nat => s_lp 218 (8 * (k + 1) + (q : Int) : Int).toNat)) (fun q hq2 => by show s_lp 218 _ = _; rw [show (8 * (k + 1) + (q : Int) : Int).toNat = 8 * (k.toNat + 1) + q by omega]), if_pos (by omega)]
                  have hv := v_lq.2 hq
                  rw [show (i : Int) = T 0 1 by omega] at hv
                  exact hv)))⟩ rfl)
              · refine ⟨by omega, ?_⟩
                refine ⟨fun h58 => ?_, fun h58 => ?_⟩
                · refine ⟨by omega, ?_⟩
                  refine ⟨by omega, ?_⟩
                  refine ⟨rfl, gI_lp, fun r52 q52 => ?_⟩
                  have e52 := q52
                  change r52 = cbv (s_lp 216) (s_lp 217) (s_lp 170 71) k z at e52
                  rw [show s_lp 216 = st 216 from funext (fun i => fI_lp 216 i rfl rfl), show s_lp 217 = st 217 from funext (fun i => fI_lp 217 i rfl rfl), show s_lp 170 71 = st 170 71 from fI_lp 170 71 rfl rfl] at e52
                  refine ⟨fun h59 => ?_, fun h59 => ?_⟩
                  · refine ⟨by omega, ?_⟩
                    refine ⟨by omega, ?_⟩
                    exact hsl _ _ _ _ _ (sb_cons (.head _) (sb_cons (.tail _ (.tail _ (.tail _ (.head _)))) (sb_cons (.tail _ (.tail _ (.tail _ (.tail _ (.head _))))) (sb_cons (.tail _ (.tail _ (.tail _ (.tail _ (.tail _ (.head _)))))) sb_nil)))) (ih_lp _ (show (T 0 1 - (z + 1) : Int).toNat < u_lp from by omega) (z + 1) (zup s_lp 218 (((8 : Int) * k) + z : Int).toNat 0) ⟨(gInv_up gI_lp (p_onFrom (by omega))), (fr_a fI_lp rfl), (show 0 ≤ (z + 1) ∧ (z + 1) ≤ T 0 1 ∧ 0 ≤ k ∧ k < n from by omega), (show ∀ j : Nat, (j : Int) < st 170 71 → st 216 j < n from nf_lp), (show TD T (flo (st 216) (st 217) (st 170 71) n) (n - 1 : Int).toNat ((zup s_lp 218 (((8 : Int) * k) + z : Int).toNat 0) 218) k from (TD_up b8.2 t_lp (z := z) (by omega) (by omega) (by omega) (x := (((8 : Int) * k) + z : Int).toNat) (by omega))), (show TDp T (flo (st 216) (st 217) (st 170 71) n) (n - 1 : Int).toNat ((zup s_lp 218 (((8 : Int) * k) + z : Int).toNat 0) 218) k (z + 1) from (TDp_up p_lp (by omega) (by omega) (x := (((8 : Int) * k) + z : Int).toNat) (by omega) (by
                have hO := cbv_o (S := st 217) nf_lp (k := k) (p := z) (by omega) (by omega)
                have h01 := flo_01 (st 216) (st 217) (st 170 71) n (k : Int).toNat (z : Int).toNat
                by_cases hq : k = n - 1
                · rw [TD_v1 (by omega), if_neg (by omega)]
                · rw [TD_v2 (by omega) (by omega) t_lp (g := (fun q : Nat => s_lp 218 (8 * (k + 1) + (q : Int) : Int).toNat)) (fun q hq2 => by show s_lp 218 _ = _; rw [show (8 * (k + 1) + (q : Int) : Int).toNat = 8 * (k.toNat + 1) + q by omega]), if_neg (by omega)])))⟩ rfl)
                  · refine ⟨by omega, ?_⟩
                    refine ⟨by omega, ?_⟩
                    exact hsl _ _ _ _ _ (sb_cons (.head _) (sb_cons (.tail _ (.tail _ (.tail _ (.head _)))) (sb_cons (.tail _ (.tail _ (.tail _ (.tail _ (.head _))))) (sb_cons (.tail _ (.tail _ (.tail _ (.tail _ (.tail _ (.head _)))))) sb_nil)))) (ih_lp _ (show (T 0 1 - (z + 1) : Int).toNat < u_lp from by omega) (z + 1) (zup s_lp 218 (((8 : Int) * k) + z : Int).toNat su) ⟨(gInv_up gI_lp (p_onFrom (by omega))), (fr_a fI_lp rfl), (show 0 ≤ (z + 1) ∧ (z + 1) ≤ T 0 1 ∧ 0 ≤ k ∧ k < n from by omega), (show ∀ j : Nat, (j : Int) < st 170 71 → st 216 j < n from nf_lp), (show TD T (flo (st 216) (st 217) (st 170 71) n) (n - 1 : Int).toNat ((zup s_lp 218 (((8 : Int) * k) + z : Int).toNat su) 218) k from (TD_up b8.2 t_lp (z := z) (by omega) (by omega) (by omega) (x := (((8 : Int) * k) + z : Int).toNat) (by omega))), (show TDp T (flo (st 216) (st 217) (st 170 71) n) (n - 1 : Int).toNat ((zup s_lp 218 (((8 : Int) * k) + z : Int).toNat su) 218) k (z + 1) from (TDp_up p_lp (by omega) (by omega) (x := (((8 : Int) * k) + z : Int).toNat) (by omega) (by
                have hO := cbv_o (S := st 217) nf_lp (k := k) (p := z) (by omega) (by omega)
                have h01 := flo_01 (st 216) (st 217) (st 170 71) n (k : Int).toNat (z : Int).toNat
                by_cases hq : k = n - 1
                · rw [TD_v1 (by omega), if_pos (by omega)]
                  exact v_lq.1 hq
                · rw [TD_v2 (by omega) (by omega) t_lp (g := (fun q : Nat => s_lp 218 (8 * (k + 1) + (q : Int) : Int).toNat)) (fun q hq2 => by show s_lp 218 _ = _; rw [show (8 * (k + 1) + (q : Int) : Int).toNat = 8 * (k.toNat + 1) + q by omega]), if_pos (by omega)]
                  have hv := v_lq.2 hq
                  rw [show (i : Int) = T 0 1 by omega] at hv
                  exact hv)))⟩ rfl)
                · refine ⟨rfl, (show 0 ≤ (s_lp 170 13) ∧ (s_lp 170 13) ≤ 1 ∧ 0 ≤ z ∧ z < 8 ∧ 0 ≤ i ∧ i < 8 from by omega), fun r53 q53 => ?_⟩
                  have e53 := q53
                  change r53 = s_lp 177 (64 * (s_lp 170 13) + 8 * z + i : Int).toNat at e53
                  have g61 := g_streetAt hG (64 * (st 170 13) + 8 * z + i : Int).toNat
                  have e60 : s_lp 177 (64 * (s_lp 170 13) + 8 * z + i : Int).toNat = st 177 (64 * (st 170 13) + 8 * z + i : Int).toNat := (fI_lp 177 (64 * (s_lp 170 13) + 8 * z + i : Int).toNat rfl rfl).trans (by rw [e47] <;> rfl)
                  refine ⟨fun h62 => ?_, fun h62 => ?_⟩
                  · refine ⟨by omega, ?_⟩
                    refine ⟨by omega, ?_⟩
                    exact ih_lq _ (show (T 0 1 - (i + 1) : Int).toNat < u_lq from by omega) (i + 1) (su + 0) ⟨(show 0 ≤ (i + 1) ∧ (i + 1) ≤ T 0 1 ∧ 0 ≤ (su + 0) ∧ (su + 0) ≤ 1 + (i + 1) * 144115188075855872 ∧ 0 ≤ z ∧ z < T 0 1 ∧ 0 ≤ k ∧ k < n from by omega), (show (k = n - 1 → (su + 0) = 1) ∧ (¬ k = n - 1 → (su + 0) = flS (fun q : Nat => if 0 ≤ lnk T ((z : Int).toNat : Int) (q : Int) then s_lp 218 (8 * (k + 1) + (q : Int) : Int).toNat else 0) ((i + 1) : Int).toNat) from (by
                  refine ⟨fun q => by exfalso; omega, fun q => ?_⟩
                  have hv := flb_s (T := T) (f := (fun q : Nat => s_lp 218 (8 * (k + 1) + (q : Int) : Int).toNat)) (p := z) (i := i) (by omega) (by omega)
                  refine Eq.trans ?_ hv.symm
                  rw [if_neg (show ¬ 0 ≤ lnk T z i by omega), ← v_lq.2 q]))⟩ rfl
                  · refine ⟨by omega, ?_⟩
                    refine ⟨by omega, ?_⟩
                    refine ⟨by omega, ?_⟩
                    have g63 := g_onFrom gI_lp (((8 : Int) * (k + 1)) + i : Int).toNat
                    refine ⟨by omega, ?_⟩
                    refine ⟨by omega, ?_⟩
                    refine ⟨by omega, ?_⟩
                    exact ih_lq _ (show (T 0 1 - (i + 1) : Int).toNat < u_lq from by omega) (i + 1) (su + (s_lp 218 (((8 : Int) * (k + 1)) + i : Int).toNat)) ⟨(show 0 ≤ (i + 1) ∧ (i + 1) ≤ T 0 1 ∧ 0 ≤ (su + (s_lp 218 (((8 : Int) * (k + 1)) + i : Int).toNat)) ∧ (su + (s_lp 218 (((8 : Int) * (k + 1)) + i : Int).toNat)) ≤ 1 + (i + 1) * 144115188075855872 ∧ 0 ≤ z ∧ z < T 0 1 ∧ 0 ≤ k ∧ k < n from by omega), (show (k = n - 1 → (su + (s_lp 218 (((8 : Int) * (k + 1)) + i : Int).toNat)) = 1) ∧ (¬ k = n - 1 → (su + (s_lp 218 (((8 : Int) * (k + 1)) + i : Int).toNat)) = flS (fun q : Nat => if 0 ≤ lnk T ((z : Int).toNat : Int) (q : Int) then s_lp 218 (8 * (k + 1) + (q : Int) : Int).toNat else 0) ((i + 1) : Int).toNat) from (by
                  refine ⟨fun q => by exfalso; omega, fun q => ?_⟩
                  have hv := flb_s (T := T) (f := (fun q : Nat => s_lp 218 (8 * (k + 1) + (q : Int) : Int).toNat)) (p := z) (i := i) (by omega) (by omega)
                  refine Eq.trans ?_ hv.symm
                  rw [if_pos (show 0 ≤ lnk T z i by omega), ← v_lq.2 q]
                  show _ = _ + s_lp 218 (8 * (k + 1) + ((i.toNat : Nat) : Int) : Int).toNat
                  rw [show ((i.toNat : Nat) : Int) = i by omega]))⟩ rfl
          refine yr1_ok (Rt := Q) (wc := (wcL [(0, k_between), (222, k_vCanBe)])) (stp := [32, 38, 68, 172, 179, 206, 310]) hcm hcl [] 215 ?_
          show ((0 ≤ s_lp 170 13 ∧ s_lp 170 13 < 2) ∧ ((s_lp 172 (s_lp 170 13 : Int).toNat ≤ z → ((-2147483648 ≤ k + (-1) ∧ k + (-1) ≤ 2147483647) ∧ K (rx_find rx_m35 32) [(2, .inl (k + (-1))), (3, .inl z), (0, .inr (.inr (.inl 170))), (1, .inl n)] [] s_lp)) ∧ (¬ (s_lp 172 (s_lp 170 13 : Int).toNat ≤ z) → ((-2147483648 ≤ n - 1 ∧ n - 1 ≤ 2147483647) ∧ ((¬ k = n - 1 → K (rx_find rx_m35 68) [(6, .inl 0), (4, .inr (.inl 0)), (3, .inl z), (2, .inl k), (0, .inr (.inr (.inl 170))), (1, .inl n)] [] s_lp) ∧ (¬ (¬ k = n - 1) → K (rx_find rx_m35 68) [(6, .inl 0), (4, .inr (.inl 1)), (3, .inl z), (2, .inl k), (0, .inr (.inr (.inl 170))), (1, .inl n)] [] s_lp))))))
          have g65 := g_places hG (st 170 13 : Int).toNat
          have e64 : s_lp 172 (s_lp 170 13 : Int).toNat = st 172 (st 170 13 : Int).toNat := (fI_lp 172 (s_lp 170 13 : Int).toNat rfl rfl).trans (by rw [e44] <;> rfl)
          refine ⟨by omega, ?_⟩
          refine ⟨fun h66 => ?_, fun h66 => ?_⟩
          · refine ⟨by omega, ?_⟩
            exact hsl _ _ _ _ _ (sb_cons (.head _) (sb_cons (.tail _ (.tail _ (.head _))) (sb_cons (.tail _ (.tail _ (.tail _ (.head _)))) sb_nil))) (ih_lk _ (show ((k + (-1)) + 1 : Int).toNat < u_lk from by omega) (k + (-1)) s_lp ⟨gI_lp, fI_lp, (show -1 ≤ (k + (-1)) ∧ (k + (-1)) < n from by omega), (show ∀ j : Nat, (j : Int) < st 170 71 → st 216 j < n from nf_lp), (show TD T (flo (st 216) (st 217) (st 170 71) n) (n - 1 : Int).toNat (s_lp 218) (k + (-1)) from (TD_row t_lp p_lp (by omega) (by omega)))⟩ rfl)
          · refine ⟨by omega, ?_⟩
            refine ⟨fun h67 => ?_, fun h67 => ?_⟩
            · exact lq _ 0 0 ⟨(show 0 ≤ (0 : Int) ∧ (0 : Int) ≤ T 0 1 ∧ 0 ≤ (0 : Int) ∧ (0 : Int) ≤ 1 + (0 : Int) * 144115188075855872 ∧ 0 ≤ z ∧ z < T 0 1 ∧ 0 ≤ k ∧ k < n from by omega), (show (k = n - 1 → (0 : Int) = 1) ∧ (¬ k = n - 1 → (0 : Int) = flS (fun q : Nat => if 0 ≤ lnk T ((z : Int).toNat : Int) (q : Int) then s_lp 218 (8 * (k + 1) + (q : Int) : Int).toNat else 0) ((0 : Int) : Int).toNat) from ⟨fun q => by omega, fun q => by first | rfl | (exfalso; omega)⟩)⟩ rfl
            · exact lq _ 0 1 ⟨(show 0 ≤ (0 : Int) ∧ (0 : Int) ≤ T 0 1 ∧ 0 ≤ (1 : Int) ∧ (1 : Int) ≤ 1 + (0 : Int) * 144115188075855872 ∧ 0 ≤ z ∧ z < T 0 1 ∧ 0 ≤ k ∧ k < n from by omega), (show (k = n - 1 → (1 : Int) = 1) ∧ (¬ k = n - 1 → (1 : Int) = flS (fun q : Nat => if 0 ≤ lnk T ((z : Int).toNat : Int) (q : Int) then s_lp 218 (8 * (k + 1) + (q : Int) : Int).toNat else 0) ((0 : Int) : Int).toNat) from ⟨fun q => by omega, fun q => by first | rfl | (exfalso; omega)⟩)⟩ rfl
      refine yr1_ok (Rt := Q) (wc := (wcL [(0, k_between), (222, k_vCanBe)])) (stp := [32, 38, 68, 172, 179, 206, 310]) hcm hcl [] 215 ?_
      show ((k < (0 : Int) → K (rx_find rx_m35 172) [(2, .inl 0), (0, .inr (.inr (.inl 170))), (1, .inl n)] [] s_lk) ∧ (¬ (k < (0 : Int)) → K (rx_find rx_m35 38) [(3, .inl 0), (2, .inl k), (0, .inr (.inr (.inl 170))), (1, .inl n)] [] s_lk))
      refine ⟨fun h68 => ?_, fun h68 => ?_⟩
      · exact mk _ 0 s_lk ⟨gI_lk, fI_lk, (show 0 ≤ (0 : Int) ∧ (0 : Int) ≤ n from by omega), (show ∀ j : Nat, (j : Int) < st 170 71 → st 216 j < n from nf_lk), (show TU T (flo (st 216) (st 217) (st 170 71) n) (s_lk 219) (0 : Int) from (TU_0 _ _ _)), (show TD T (flo (st 216) (st 217) (st 170 71) n) (n - 1 : Int).toNat (s_lk 218) (-1) from (by
              have z := t_lk
              rw [show k = -1 by omega] at z
              exact z))⟩ rfl
      · exact lp _ 0 s_lk ⟨gI_lk, fI_lk, (show 0 ≤ (0 : Int) ∧ (0 : Int) ≤ T 0 1 ∧ 0 ≤ k ∧ k < n from by omega), (show ∀ j : Nat, (j : Int) < st 170 71 → st 216 j < n from nf_lk), (show TD T (flo (st 216) (st 217) (st 170 71) n) (n - 1 : Int).toNat (s_lk 218) k from t_lk), (show TDp T (flo (st 216) (st 217) (st 170 71) n) (n - 1 : Int).toNat (s_lk 218) k (0 : Int) from (TDp_0 _ _ _ _ _))⟩ rfl
  have l0 : ∀ (u : Nat) (i : Int), (0 ≤ i ∧ i ≤ st 170 71) ∧ (∀ j : Nat, (j : Int) < i → st 216 j < n) → (st 170 71 - i).toNat = u → K (rx_find rx_m35 2) [(2, .inl i), (0, .inr (.inr (.inl 170))), (1, .inl n)] [] st := by
    intro u_l0
    induction u_l0 using Nat.strongRecOn with
    | _ u_l0 ih_l0 =>
      intro i hi hu_l0
      obtain ⟨i_l0, n_l0⟩ := hi
      have g69 := g_rows hG
      refine yr1_ok (Rt := Q) (wc := (wcL [(0, k_between), (222, k_vCanBe)])) (stp := [2, 32, 38, 68, 172, 179, 206, 310]) hcm hcl [] 215 ?_
      show ((st 170 71 ≤ i → ((-2147483648 ≤ n - 1 ∧ n - 1 ≤ 2147483647) ∧ K (rx_find rx_m35 32) [(2, .inl (n - 1)), (0, .inr (.inr (.inl 170))), (1, .inl n)] [] st)) ∧ (¬ (st 170 71 ≤ i) → ((0 ≤ i ∧ i < 20) ∧ ((st 216 (i : Int).toNat < n → ((-2147483648 ≤ i + 1 ∧ i + 1 ≤ 2147483647) ∧ K (rx_find rx_m35 2) [(2, .inl (i + 1)), (0, .inr (.inr (.inl 170))), (1, .inl n)] [] st)) ∧ (¬ (st 216 (i : Int).toNat < n) → Q (some (.inr (.inl 0))) st)))))
      refine ⟨fun h70 => ?_, fun h70 => ?_⟩
      · refine ⟨by omega, ?_⟩
        exact lk _ (n - 1) st ⟨hG, (fr_rf _ _), (show -1 ≤ (n - 1) ∧ (n - 1) < n from by omega), (show ∀ j : Nat, (j : Int) < st 170 71 → st 216 j < n from (fun j z => n_l0 j (by omega))), (show TD T (flo (st 216) (st 217) (st 170 71) n) (n - 1 : Int).toNat (st 218) (n - 1) from (TD_0 _ _ _ _ (by omega)))⟩ rfl
      · have g71 := g_rowNumber hG (i : Int).toNat
        refine ⟨by omega, ?_⟩
        refine ⟨fun h72 => ?_, fun h72 => ?_⟩
        · refine ⟨by omega, ?_⟩
          exact ih_l0 _ (show (st 170 71 - (i + 1) : Int).toNat < u_l0 from by omega) (i + 1) ⟨(show 0 ≤ (i + 1) ∧ (i + 1) ≤ st 170 71 from by omega), (show ∀ j : Nat, (j : Int) < (i + 1) → st 216 j < n from (by
              intro j z
              by_cases z3 : j = (i : Int).toNat
              · rw [z3]; omega
              · exact n_l0 j (by omega)))⟩ rfl
        · exact hQ _ _ ⟨hG, (fr_rf _ _), (show (0 : Int) = flT T (flo (st 216) (st 217) (st 170 71) n) (n - 1 : Int).toNat from (flo_far (i := (i : Int).toNat) (by omega) (by omega)).symm), (show ¬ (0 : Int) = 0 → TD T (flo (st 216) (st 217) (st 170 71) n) (n - 1 : Int).toNat (st 218) (-1) ∧ TU T (flo (st 216) (st 217) (st 170 71) n) (st 219) n from (fun z => absurd rfl z))⟩
  have g73 := g_rows hG
  refine yr1_ok (Rt := Q) (wc := (wcL [(0, k_between), (222, k_vCanBe)])) (stp := [2, 32, 38, 68, 172, 179, 206, 310]) hcm hcl [] 215 ?_
  show K (rx_find rx_m35 2) [(2, .inl 0), (0, .inr (.inr (.inl 170))), (1, .inl n)] [] st
  exact l0 _ 0 ⟨(show 0 ≤ (0 : Int) ∧ (0 : Int) ≤ st 170 71 from by omega), (show ∀ j : Nat, (j : Int) < (0 : Int) → st 216 j < n from fun j z => by omega)⟩ rfl
theorem k_vFills_m (hTb : aTb zSh rx_tb cl) {T : zS} {D : Nat} (hD : 2 ≤ D) : ∀ as st (Q Q' : zQ), (∀ r st', Q r st' → Q' r st') → (k_vFills T) 35 as st Q → cl D 35 as st Q' := by
  intro as st Q Q' hQ h
  unfold k_vFills at h
  split at h
  · obtain ⟨rfl, h⟩ := h
    exact c_vFills hTb hD (ct_vFills_m hQ h)
  · exact h.elim
set_option maxHeartbeats 4000000 in
set_option maxRecDepth 100000 in
theorem c_vFilled (hTb : aTb zSh rx_tb cl) {T : zS} {D : Nat} (hD : 3 ≤ D) {n : Int} {st : zS} {Q : zQ} (h : ct_vFilled T n st Q) : cl D 50 [.inr (.inr (.inl 170)), .inl n] st Q := by
  obtain ⟨d, rfl⟩ : ∃ d, D = d + 1 := ⟨D - 1, by omega⟩
  refine hTb d 50 (rx_m50, 2, 0, 0, 1) rfl _ _ _ (Nat.le_of_ble_eq_true rfl) (fun K hcl hsf hsl => ?_)
  have hcm : zmo (wcL [(8, k_is), (35, k_vFills T), (53, k_vCut)]) (cl d) := (wcL_m (wm_cons (k_is_m hTb (by omega)) (wm_cons (k_vFills_m hTb (by omega)) (wm_cons (k_vCut_m hTb (by omega)) wm_nil))))
  obtain ⟨hR, hQ⟩ := h
  obtain ⟨hG, rt, tw⟩ := hR
  change RT (st 170 13) T st at rt
  change TW T at tw
  have b8 : 0 ≤ T 0 1 ∧ T 0 1 ≤ 8 := tw.1.1
  have hP : (T 0 1).toNat ≤ 8 := by omega
  have hc := fun (hn : 1 ≤ n ∧ n ≤ 20) => flT_c hP (flo (st 216) (st 217) (st 170 71) n) (m := (n - 1 : Int).toNat) (by omega)
  have g1 := g_bank hG
  refine yr1_ok (Rt := Q) (wc := (wcL [(8, k_is), (35, k_vFills T), (53, k_vCut)])) (stp := []) hcm hcl [] 32 ?_
  show (∀ (r2 : Int), en_is n (1) (20) st r2 → ((r2 = (0 : Int) → Q (some (.inl (-1))) st) ∧ (¬ (r2 = (0 : Int)) → (170 = 170 ∧ (rq_vFills T n st ∧ (∀ (r3 : Int) (s3 : zS), en_vFills T n st r3 s3 → (rq_vCut r3 s3 ∧ (∀ (r4 : Int), en_vCut r3 s3 r4 → Q (some (.inl r4)) s3))))))))
  refine fun r2 q2 => ?_
  have b2 := q2
  change (r2 = 0 ∨ r2 = 1) ∧ (r2 = 1 ↔ (1) ≤ n ∧ n ≤ (20)) at b2
  refine ⟨fun h5 => ?_, fun h5 => ?_⟩
  · exact hQ _ _ ⟨hG, (fr_rf _ _), (show ((-1) : Int) = fF T (st 216) (st 217) (st 170 71) n from (by unfold fF; rw [if_neg (by omega)]))⟩
  · refine ⟨rfl, ⟨hG, (show RT (st 170 13) T st from rt), (show TW T from tw), (show 1 ≤ n ∧ n ≤ 20 from by omega)⟩, fun r3 s3 q3 => ?_⟩
    obtain ⟨gs3, fs3, e3, o3⟩ := q3
    change r3 = flT T (flo (st 216) (st 217) (st 170 71) n) (n - 1 : Int).toNat at e3
    change ¬ r3 = 0 → TD T (flo (st 216) (st 217) (st 170 71) n) (n - 1 : Int).toNat (s3 218) (-1) ∧ TU T (flo (st 216) (st 217) (st 170 71) n) (s3 219) n at o3
    refine ⟨(show 0 ≤ r3 from (by have z := hc (by omega); omega)), fun r4 q4 => ?_⟩
    have e4 := q4
    change r4 = cp9 r3 at e4
    exact hQ _ _ ⟨gs3, (fr_tr (fr_rf _ _) fs3 rfl), (show r4 = fF T (st 216) (st 217) (st 170 71) n from (by unfold fF; rw [if_pos (by omega)]; exact e4.trans (congrArg cp9 e3)))⟩
theorem k_vFilled_m (hTb : aTb zSh rx_tb cl) {T : zS} {D : Nat} (hD : 3 ≤ D) : ∀ as st (Q Q' : zQ), (∀ r st', Q r st' → Q' r st') → (k_vFilled T) 50 as st Q → cl D 50 as st Q' := by
  intro as st Q Q' hQ h
  unfold k_vFilled at h
  split at h
  · obtain ⟨rfl, h⟩ := h
    exact c_vFilled hTb hD (ct_vFilled_m hQ h)
  · exact h.elim
set_option maxHeartbeats 4000000 in
set_option maxRecDepth 100000 in
theorem c_vFilling (hTb : aTb zSh rx_tb cl) {T : zS} {D : Nat} (hD : 3 ≤ D) {n k : Int} {st : zS} {Q : zQ} (h : ct_vFilling T n k st Q) : cl D 30 [.inr (.inr (.inl 170)), .inl n, .inl k] st Q := by
  obtain ⟨d, rfl⟩ : ∃ d, D = d + 1 := ⟨D - 1, by omega⟩
  refine hTb d 30 (rx_m30, 6, 0, 0, 1) rfl _ _ _ (Nat.le_of_ble_eq_true rfl) (fun K hcl hsf hsl => ?_)
  have hcm : zmo (wcL [(8, k_is), (35, k_vFills T), (0, k_between)]) (cl d) := (wcL_m (wm_cons (k_is_m hTb (by omega)) (wm_cons (k_vFills_m hTb (by omega)) (wm_cons (k_between_m hTb (by omega)) wm_nil))))
  obtain ⟨hR, hQ⟩ := h
  obtain ⟨hG, rt, tw⟩ := hR
  change RT (st 170 13) T st at rt
  change TW T at tw
  have b8 : 0 ≤ T 0 1 ∧ T 0 1 ≤ 8 := tw.1.1
  have hP : (T 0 1).toNat ≤ 8 := by omega
  have hc := fun (hn : 1 ≤ n ∧ n ≤ 20) => flT_c hP (flo (st 216) (st 217) (st 170 71) n) (m := (n - 1 : Int).toNat) (by omega)
  have lo : ∀ (u : Nat) (d0 : Int) (pa : Int) (s_lo : zS), gInv zgt s_lo ∧ aFr m_vFilling st s_lo ∧ (0 ≤ d0 ∧ d0 ≤ k + 1 ∧ 1 ≤ n ∧ n ≤ 20 ∧ 0 ≤ k ∧ k < n) ∧ (0 < flT T (flo (st 216) (st 217) (st 170 71) n) (n - 1 : Int).toNat) ∧ (TD T (flo (st 216) (st 217) (st 170 71) n) (n - 1 : Int).toNat (s_lo 218) (-1)) ∧ (FX T (flo (st 216) (st 217) (st 170 71) n) (n - 1 : Int).toNat (d0 : Int).toNat) ∧ (pa = flG T (flo (st 216) (st 217) (st 170 71) n) (n - 1 : Int).toNat (d0 : Int).toNat) → (k + 1 - d0).toNat = u → K (rx_find rx_m30 38) [(4, .inl d0), (3, .inl pa), (0, .inr (.inr (.inl 170))), (1, .inl n), (2, .inl k)] [] s_lo := by
    intro u_lo
    induction u_lo using Nat.strongRecOn with
    | _ u_lo ih_lo =>
      intro d0 pa s_lo hi hu_lo
      obtain ⟨gI_lo, fI_lo, i_lo, p_lo, t_lo, x_lo, v_lo⟩ := hi
      have g2 := g_bank hG
      have e1 : s_lo 170 13 = st 170 13 := fI_lo 170 13 rfl rfl
      have li : ∀ (u : Nat) (j : Int), (0 ≤ j ∧ 0 ≤ d0 ∧ d0 ≤ k) ∧ (∀ q : Int, 0 ≤ q → q < j → ¬ ((pa = -1 ∨ 0 ≤ lnk T pa q) ∧ 0 < flD T (flo (st 216) (st 217) (st 170 71) n) (n - 1 : Int).toNat ((n - 1 : Int).toNat - (d0 : Int).toNat) (q : Int).toNat)) → (T 0 1 - j).toNat = u → K (rx_find rx_m30 47) [(5, .inl j), (4, .inl d0), (3, .inl pa), (0, .inr (.inr (.inl 170))), (1, .inl n), (2, .inl k)] [] s_lo := by
        intro u_li
        induction u_li using Nat.strongRecOn with
        | _ u_li ih_li =>
          intro j hi hu_li
          obtain ⟨i_li, n_li⟩ := hi
          have hx := FX_ex hP p_lo (show (d0 : Int).toNat ≤ (n - 1 : Int).toNat by omega) x_lo
          rw [← v_lo] at hx
          have hj : j < T 0 1 := by
            obtain ⟨q, q1, q2⟩ := hx
            by_cases y : j ≤ q
            · omega
            · exact absurd q2 (n_li q q1.1 (by omega))
          have hd : s_lo 218 (8 * d0 + j : Int).toNat = flD T (flo (st 216) (st 217) (st 170 71) n) (n - 1 : Int).toNat ((n - 1 : Int).toNat - (d0 : Int).toNat) (j : Int).toNat := by
            rw [show (8 * d0 + j : Int).toNat = 8 * (d0 : Int).toNat + (j : Int).toNat by omega]
            exact t_lo _ _ (by omega) (by omega) (by omega)
          have hd0 := flD_b hP (flo (st 216) (st 217) (st 170 71) n) (n - 1 : Int).toNat ((n - 1 : Int).toNat - (d0 : Int).toNat) (j : Int).toNat
          have hfx : pa = -1 ∨ (0 ≤ pa ∧ pa < T 0 1) := by
            have z := x_lo
            unfold FX at z
            rw [← v_lo] at z
            exact z.elim (fun y => Or.inl y.2) (fun y => Or.inr y.2.1)
          have hz : ¬ pa = -1 → _ := fun y => zad_l (T := T) (st := s_lo) (by rw [show s_lo 170 13 = st 170 13 from fI_lo 170 13 rfl rfl]; exact RT_fr rfl fI_lo rt) (x := pa) (y := j) (by omega) (by omega) (by omega) (by omega)
          unfold zad at hz
          have hw : ¬ pa = -1 → _ := fun y => tw.2.2.1 pa j (by omega) (by omega) (by omega) (by omega)
          have g4 := g_bank hG
          have e3 : s_lo 170 13 = st 170 13 := fI_lo 170 13 rfl rfl
          refine yr1_ok (Rt := Q) (wc := (wcL [(8, k_is), (35, k_vFills T), (0, k_between)])) (stp := [38, 47]) hcm hcl [] 78 ?_
          show ((-2147483648 ≤ (8 : Int) * d0 ∧ (8 : Int) * d0 ≤ 2147483647) ∧ ((-2147483648 ≤ ((8 : Int) * d0) + j ∧ ((8 : Int) * d0) + j ≤ 2147483647) ∧ ((0 ≤ ((8 : Int) * d0) + j ∧ ((8 : Int) * d0) + j < 160) ∧ (∀ (w5 : Int), (s_lo 218 (((8 : Int) * d0) + j : Int).toNat < 0 ∧ w5 = -1 ∨ s_lo 218 (((8 : Int) * d0) + j : Int).toNat = 0 ∧ w5 = 0 ∨ 0 < s_lo 218 (((8 : Int) * d0) + j : Int).toNat ∧ w5 = 1) → ((w5 = (0 : Int) → ((-2147483648 ≤ j + 1 ∧ j + 1 ≤ 2147483647) ∧ K (rx_find rx_m30 47) [(5, .inl (j + 1)), (4, .inl d0), (3, .inl pa), (0, .inr (.inr (.inl 170))), (1, .inl n), (2, .inl k)] [] s_lo)) ∧ (¬ (w5 = (0 : Int)) → ((pa = ((-1) : Int) → ((-2147483648 ≤ d0 + 1 ∧ d0 + 1 ≤ 2147483647) ∧ K (rx_find rx_m30 38) [(4, .inl (d0 + 1)), (3, .inl j), (5, .inl j), (0, .inr (.inr (.inl 170))), (1, .inl n), (2, .inl k)] [] s_lo)) ∧ (¬ (pa = ((-1) : Int)) → (170 = 170 ∧ (rq_between (s_lo 170 13) pa j s_lo ∧ (∀ (r6 : Int), en_between (s_lo 170 13) pa j s_lo r6 → ((¬ r6 = (0 : Int) → ((-2147483648 ≤ d0 + 1 ∧ d0 + 1 ≤ 2147483647) ∧ K (rx_find rx_m30 38) [(4, .inl (d0 + 1)), (3, .inl j), (5, .inl j), (0, .inr (.inr (.inl 170))), (1, .inl n), (2, .inl k)] [] s_lo)) ∧ (¬ (¬ r6 = (0 : Int)) → ((-2147483648 ≤ j + 1 ∧ j + 1 ≤ 2147483647) ∧ K (rx_find rx_m30 47) [(5, .inl (j + 1)), (4, .inl d0), (3, .inl pa), (0, .inr (.inr (.inl 170))), (1, .inl n), (2, .inl k)] [] s_lo))))))))))))))
          refine ⟨by omega, ?_⟩
          refine ⟨by omega, ?_⟩
          have g7 := g_onFrom gI_lo (((8 : Int) * d0) + j : Int).toNat
          refine ⟨by omega, ?_⟩
          intro w5 hw5
          refine ⟨fun h8 => ?_, fun h8 => ?_⟩
          · refine ⟨by omega, ?_⟩
            exact ih_li _ (show (T 0 1 - (j + 1) : Int).toNat < u_li from by omega) (j + 1) ⟨(show 0 ≤ (j + 1) ∧ 0 ≤ d0 ∧ d0 ≤ k from by omega), (show ∀ q : Int, 0 ≤ q → q < (j + 1) → ¬ ((pa = -1 ∨ 0 ≤ lnk T pa q) ∧ 0 < flD T (flo (st 216) (st 217) (st 170 71) n) (n - 1 : Int).toNat ((n - 1 : Int).toNat - (d0 : Int).toNat) (q : Int).toNat) from (by
                  intro q z1 z2 z3
                  by_cases z4 : q = j
                  · rw [z4] at z3
                    omega
                  · exact n_li q z1 (by omega) z3))⟩ rfl
          · refine ⟨fun h9 => ?_, fun h9 => ?_⟩
            · refine ⟨by omega, ?_⟩
              exact hsl _ _ _ _ _ (sb_cons (.head _) (sb_cons (.tail _ (.head _)) (sb_cons (.tail _ (.tail _ (.tail _ (.head _)))) (sb_cons (.tail _ (.tail _ (.tail _ (.tail _ (.head _))))) (sb_cons (.tail _ (.tail _ (.tail _ (.tail _ (.tail _ (.head _)))))) sb_nil))))) (ih_lo _ (show (k + 1 - (d0 + 1) : Int).toNat < u_lo from by omega) (d0 + 1) j s_lo ⟨gI_lo, fI_lo, (show 0 ≤ (d0 + 1) ∧ (d0 + 1) ≤ k + 1 ∧ 1 ≤ n ∧ n ≤ 20 ∧ 0 ≤ k ∧ k < n from by omega), (show 0 < flT T (flo (st 216) (st 217) (st 170 71) n) (n - 1 : Int).toNat from p_lo), (show TD T (flo (st 216) (st 217) (st 170 71) n) (n - 1 : Int).toNat (s_lo 218) (-1) from t_lo), (show FX T (flo (st 216) (st 217) (st 170 71) n) (n - 1 : Int).toNat ((d0 + 1) : Int).toNat from (by
                  have hF : FN T (flD T (flo (st 216) (st 217) (st 170 71) n) (n - 1 : Int).toNat ((n - 1 : Int).toNat - (d0 : Int).toNat)) (flG T (flo (st 216) (st 217) (st 170 71) n) (n - 1 : Int).toNat (d0 : Int).toNat) j := by
                    refine ⟨by omega, ⟨by rw [← v_lo]; omega, by omega⟩, fun q q1 q2 => ?_⟩
                    rw [← v_lo]
                    exact n_li q q1 q2
                  rw [show (d0 + 1 : Int).toNat = (d0 : Int).toNat + 1 by omega]
                  exact FX_s hF)), (show j = flG T (flo (st 216) (st 217) (st 170 71) n) (n - 1 : Int).toNat ((d0 + 1) : Int).toNat from (by
                  have hF : FN T (flD T (flo (st 216) (st 217) (st 170 71) n) (n - 1 : Int).toNat ((n - 1 : Int).toNat - (d0 : Int).toNat)) (flG T (flo (st 216) (st 217) (st 170 71) n) (n - 1 : Int).toNat (d0 : Int).toNat) j := by
                    refine ⟨by omega, ⟨by rw [← v_lo]; omega, by omega⟩, fun q q1 q2 => ?_⟩
                    rw [← v_lo]
                    exact n_li q q1 q2
                  rw [show (d0 + 1 : Int).toNat = (d0 : Int).toNat + 1 by omega]
                  exact flG_s hF))⟩ rfl)
            · refine ⟨rfl, (show 0 ≤ (s_lo 170 13) ∧ (s_lo 170 13) ≤ 1 ∧ 0 ≤ pa ∧ pa < 8 ∧ 0 ≤ j ∧ j < 8 from by omega), fun r6 q6 => ?_⟩
              have e6 := q6
              change r6 = s_lo 177 (64 * (s_lo 170 13) + 8 * pa + j : Int).toNat at e6
              refine ⟨fun h10 => ?_, fun h10 => ?_⟩
              · refine ⟨by omega, ?_⟩
                exact hsl _ _ _ _ _ (sb_cons (.head _) (sb_cons (.tail _ (.head _)) (sb_cons (.tail _ (.tail _ (.tail _ (.head _)))) (sb_cons (.tail _ (.tail _ (.tail _ (.tail _ (.head _))))) (sb_cons (.tail _ (.tail _ (.tail _ (.tail _ (.tail _ (.head _)))))) sb_nil))))) (ih_lo _ (show (k + 1 - (d0 + 1) : Int).toNat < u_lo from by omega) (d0 + 1) j s_lo ⟨gI_lo, fI_lo, (show 0 ≤ (d0 + 1) ∧ (d0 + 1) ≤ k + 1 ∧ 1 ≤ n ∧ n ≤ 20 ∧ 0 ≤ k ∧ k < n from by omega), (show 0 < flT T (flo (st 216) (st 217) (st 170 71) n) (n - 1 : Int).toNat from p_lo), (show TD T (flo (st 216) (st 217) (st 170 71) n) (n - 1 : Int).toNat (s_lo 218) (-1) from t_lo), (show FX T (flo (st 216) (st 217) (st 170 71) n) (n - 1 : Int).toNat ((d0 + 1) : Int).toNat from (by
                  have hF : FN T (flD T (flo (st 216) (st 217) (st 170 71) n) (n - 1 : Int).toNat ((n - 1 : Int).toNat - (d0 : Int).toNat)) (flG T (flo (st 216) (st 217) (st 170 71) n) (n - 1 : Int).toNat (d0 : Int).toNat) j := by
                    refine ⟨by omega, ⟨by rw [← v_lo]; omega, by omega⟩, fun q q1 q2 => ?_⟩
                    rw [← v_lo]
                    exact n_li q q1 q2
                  rw [show (d0 + 1 : Int).toNat = (d0 : Int).toNat + 1 by omega]
                  exact FX_s hF)), (show j = flG T (flo (st 216) (st 217) (st 170 71) n) (n - 1 : Int).toNat ((d0 + 1) : Int).toNat from (by
                  have hF : FN T (flD T (flo (st 216) (st 217) (st 170 71) n) (n - 1 : Int).toNat ((n - 1 : Int).toNat - (d0 : Int).toNat)) (flG T (flo (st 216) (st 217) (st 170 71) n) (n - 1 : Int).toNat (d0 : Int).toNat) j := by
                    refine ⟨by omega, ⟨by rw [← v_lo]; omega, by omega⟩, fun q q1 q2 => ?_⟩
                    rw [← v_lo]
                    exact n_li q q1 q2
                  rw [show (d0 + 1 : Int).toNat = (d0 : Int).toNat + 1 by omega]
                  exact flG_s hF))⟩ rfl)
              · refine ⟨by omega, ?_⟩
                exact ih_li _ (show (T 0 1 - (j + 1) : Int).toNat < u_li from by omega) (j + 1) ⟨(show 0 ≤ (j + 1) ∧ 0 ≤ d0 ∧ d0 ≤ k from by omega), (show ∀ q : Int, 0 ≤ q → q < (j + 1) → ¬ ((pa = -1 ∨ 0 ≤ lnk T pa q) ∧ 0 < flD T (flo (st 216) (st 217) (st 170 71) n) (n - 1 : Int).toNat ((n - 1 : Int).toNat - (d0 : Int).toNat) (q : Int).toNat) from (by
                  intro q z1 z2 z3
                  by_cases z4 : q = j
                  · rw [z4] at z3
                    omega
                  · exact n_li q z1 (by omega) z3))⟩ rfl
      refine yr1_ok (Rt := Q) (wc := (wcL [(8, k_is), (35, k_vFills T), (0, k_between)])) (stp := [38, 47]) hcm hcl [] 78 ?_
      show ((k < d0 → Q (some (.inl pa)) s_lo) ∧ (¬ (k < d0) → K (rx_find rx_m30 47) [(5, .inl 0), (4, .inl d0), (3, .inl pa), (0, .inr (.inr (.inl 170))), (1, .inl n), (2, .inl k)] [] s_lo))
      refine ⟨fun h11 => ?_, fun h11 => ?_⟩
      · exact hQ _ _ ⟨gI_lo, fI_lo, (show pa = fG T (st 216) (st 217) (st 170 71) n k from (by
          unfold fG
          rw [if_pos ⟨by omega, by omega, by omega⟩, show (k + 1 : Int) = d0 by omega]
          exact v_lo))⟩
      · exact li _ 0 ⟨(show 0 ≤ (0 : Int) ∧ 0 ≤ d0 ∧ d0 ≤ k from by omega), (show ∀ q : Int, 0 ≤ q → q < (0 : Int) → ¬ ((pa = -1 ∨ 0 ≤ lnk T pa q) ∧ 0 < flD T (flo (st 216) (st 217) (st 170 71) n) (n - 1 : Int).toNat ((n - 1 : Int).toNat - (d0 : Int).toNat) (q : Int).toNat) from fun q z1 z2 => by omega)⟩ rfl
  refine yr1_ok (Rt := Q) (wc := (wcL [(8, k_is), (35, k_vFills T), (0, k_between)])) (stp := [38, 47]) hcm hcl [] 78 ?_
  show (∀ (r12 : Int), en_is n (1) (20) st r12 → ((r12 = (0 : Int) → Q (some (.inl (-1))) st) ∧ (¬ (r12 = (0 : Int)) → ((-2147483648 ≤ n - 1 ∧ n - 1 ≤ 2147483647) ∧ (∀ (r13 : Int), en_is k (0) (n - 1) st r13 → ((r13 = (0 : Int) → Q (some (.inl (-1))) st) ∧ (¬ (r13 = (0 : Int)) → (170 = 170 ∧ (rq_vFills T n st ∧ (∀ (r14 : Int) (s14 : zS), en_vFills T n st r14 s14 → (∀ (w15 : Int), (r14 < 0 ∧ w15 = -1 ∨ r14 = 0 ∧ w15 = 0 ∨ 0 < r14 ∧ w15 = 1) → ((¬ w15 = (0 : Int) → K (rx_find rx_m30 38) [(4, .inl 0), (3, .inl (-1)), (0, .inr (.inr (.inl 170))), (1, .inl n), (2, .inl k)] [] s14) ∧ (¬ (¬ w15 = (0 : Int)) → Q (some (.inl (-1))) s14)))))))))))))
  refine fun r12 q12 => ?_
  have b12 := q12
  change (r12 = 0 ∨ r12 = 1) ∧ (r12 = 1 ↔ (1) ≤ n ∧ n ≤ (20)) at b12
  refine ⟨fun h16 => ?_, fun h16 => ?_⟩
  · exact hQ _ _ ⟨hG, (fr_rf _ _), (show ((-1) : Int) = fG T (st 216) (st 217) (st 170 71) n k from (by unfold fG; rw [if_neg (fun z => by omega)]))⟩
  · refine ⟨by omega, ?_⟩
    refine fun r13 q13 => ?_
    have b13 := q13
    change (r13 = 0 ∨ r13 = 1) ∧ (r13 = 1 ↔ (0) ≤ k ∧ k ≤ (n - 1)) at b13
    refine ⟨fun h17 => ?_, fun h17 => ?_⟩
    · exact hQ _ _ ⟨hG, (fr_rf _ _), (show ((-1) : Int) = fG T (st 216) (st 217) (st 170 71) n k from (by unfold fG; rw [if_neg (fun z => by omega)]))⟩
    · have g18 := g_bank hG
      refine ⟨rfl, ⟨hG, (show RT (st 170 13) T st from rt), (show TW T from tw), (show 1 ≤ n ∧ n ≤ 20 from by omega)⟩, fun r14 s14 q14 => ?_⟩
      obtain ⟨gs14, fs14, e14, o14⟩ := q14
      change r14 = flT T (flo (st 216) (st 217) (st 170 71) n) (n - 1 : Int).toNat at e14
      change ¬ r14 = 0 → TD T (flo (st 216) (st 217) (st 170 71) n) (n - 1 : Int).toNat (s14 218) (-1) ∧ TU T (flo (st 216) (st 217) (st 170 71) n) (s14 219) n at o14
      intro w15 hw15
      refine ⟨fun h19 => ?_, fun h19 => ?_⟩
      · exact lo _ 0 (-1) s14 ⟨gs14, (fr_tr (fr_rf _ _) fs14 rfl), (show 0 ≤ (0 : Int) ∧ (0 : Int) ≤ k + 1 ∧ 1 ≤ n ∧ n ≤ 20 ∧ 0 ≤ k ∧ k < n from by omega), (show 0 < flT T (flo (st 216) (st 217) (st 170 71) n) (n - 1 : Int).toNat from (by have z := hc (by omega); have z2 := e14; omega)), (show TD T (flo (st 216) (st 217) (st 170 71) n) (n - 1 : Int).toNat (s14 218) (-1) from (o14 (by omega)).1), (show FX T (flo (st 216) (st 217) (st 170 71) n) (n - 1 : Int).toNat ((0 : Int) : Int).toNat from FX_0), (show ((-1) : Int) = flG T (flo (st 216) (st 217) (st 170 71) n) (n - 1 : Int).toNat ((0 : Int) : Int).toNat from rfl)⟩ rfl
      · exact hQ _ _ ⟨gs14, (fr_tr (fr_rf _ _) fs14 rfl), (show ((-1) : Int) = fG T (st 216) (st 217) (st 170 71) n k from (by unfold fG; rw [if_neg (fun z => by omega)]))⟩
theorem k_vFilling_m (hTb : aTb zSh rx_tb cl) {T : zS} {D : Nat} (hD : 3 ≤ D) : ∀ as st (Q Q' : zQ), (∀ r st', Q r st' → Q' r st') → (k_vFilling T) 30 as st Q → cl D 30 as st Q' := by
  intro as st Q Q' hQ h
  unfold k_vFilling at h
  split at h
  · obtain ⟨rfl, h⟩ := h
    exact c_vFilling hTb hD (ct_vFilling_m hQ h)
  · exact h.elim
set_option maxHeartbeats 4000000 in
set_option maxRecDepth 100000 in
theorem c_vAsked (hTb : aTb zSh rx_tb cl) {T : zS} {D : Nat} (hD : 3 ≤ D) {n x : Int} {st : zS} {Q : zQ} (h : ct_vAsked T n x st Q) : cl D 48 [.inr (.inr (.inl 170)), .inl n, .inl x] st Q := by
  obtain ⟨d, rfl⟩ : ∃ d, D = d + 1 := ⟨D - 1, by omega⟩
  refine hTb d 48 (rx_m48, 12, 0, 0, 1) rfl _ _ _ (Nat.le_of_ble_eq_true rfl) (fun K hcl hsf hsl => ?_)
  have hcm : zmo (wcL [(8, k_is), (35, k_vFills T), (53, k_vCut)]) (cl d) := (wcL_m (wm_cons (k_is_m hTb (by omega)) (wm_cons (k_vFills_m hTb (by omega)) (wm_cons (k_vCut_m hTb (by omega)) wm_nil))))
  obtain ⟨hR, hQ⟩ := h
  obtain ⟨hG, rt, tw⟩ := hR
  change RT (st 170 13) T st at rt
  change TW T at tw
  have b8 : 0 ≤ T 0 1 ∧ T 0 1 ≤ 8 := tw.1.1
  have hP : (T 0 1).toNat ≤ 8 := by omega
  have hc := fun (hn : 1 ≤ n ∧ n ≤ 20) => flT_c hP (flo (st 216) (st 217) (st 170 71) n) (m := (n - 1 : Int).toNat) (by omega)
  have hpl : st 172 (st 170 13 : Int).toNat = T 0 1 := rt.1.1
  have lo : ∀ (u : Nat) (k : Int) (le : Int) (be : Int) (s_lo : zS), gInv zgt s_lo ∧ aFr m_vAsked st s_lo ∧ (0 ≤ k ∧ k ≤ n ∧ 1 ≤ n ∧ n ≤ 20 ∧ 0 ≤ x ∧ x ≤ 1) ∧ (0 < flT T (flo (st 216) (st 217) (st 170 71) n) (n - 1 : Int).toNat) ∧ (TD T (flo (st 216) (st 217) (st 170 71) n) (n - 1 : Int).toNat (s_lo 218) (-1)) ∧ (TU T (flo (st 216) (st 217) (st 170 71) n) (s_lo 219) n) ∧ (AK (fun j => flM T (flo (st 216) (st 217) (st 170 71) n) (n - 1 : Int).toNat j) k be le) → (n - k).toNat = u → K (rx_find rx_m48 39) [(6, .inl k), (4, .inr (.inl le)), (3, .inl be), (0, .inr (.inr (.inl 170))), (1, .inl n), (2, .inl x)] [] s_lo := by
    intro u_lo
    induction u_lo using Nat.strongRecOn with
    | _ u_lo ih_lo =>
      intro k le be s_lo hi hu_lo
      obtain ⟨gI_lo, fI_lo, i_lo, p_lo, t_lo, w_lo, a_lo⟩ := hi
      have hpl_lo : s_lo 172 (st 170 13 : Int).toNat = T 0 1 := (fI_lo 172 _ rfl rfl).trans hpl
      have g2 := g_bank hG
      have e1 : s_lo 170 13 = st 170 13 := fI_lo 170 13 rfl rfl
      have li : ∀ (u : Nat) (i : Int) (mo : Int), (0 ≤ i ∧ i ≤ T 0 1 ∧ 0 ≤ mo ∧ mo ≤ 144115188075855872 ∧ 0 ≤ k ∧ k < n) ∧ (mo = flX (fun q : Nat => s_lo 219 (8 * k + (q : Int) : Int).toNat * s_lo 218 (8 * k + (q : Int) : Int).toNat) (i : Int).toNat) → (T 0 1 - i).toNat = u → K (rx_find rx_m48 51) [(9, .inl i), (7, .inr (.inl mo)), (6, .inl k), (4, .inr (.inl le)), (3, .inl be), (0, .inr (.inr (.inl 170))), (1, .inl n), (2, .inl x)] [] s_lo := by
        intro u_li
        induction u_li using Nat.strongRecOn with
        | _ u_li ih_li =>
          intro i mo hi hu_li
          obtain ⟨i_li, v_li⟩ := hi
          have hfb : i < T 0 1 → 0 ≤ s_lo 219 (8 * k + i : Int).toNat * s_lo 218 (8 * k + i : Int).toNat ∧ s_lo 219 (8 * k + i : Int).toNat * s_lo 218 (8 * k + i : Int).toNat ≤ 144115188075855872 := fun y => by
            have z := flUD_c hP (flo (st 216) (st 217) (st 170 71) n) (m := (n - 1 : Int).toNat) (k := k.toNat) (by omega) (by omega) (i : Int).toNat
            rw [← w_lo k.toNat (i : Int).toNat (by omega) (by omega), ← t_lo k.toNat (i : Int).toNat (by omega) (by omega) (by omega), show 8 * k.toNat + (i : Int).toNat = (8 * k + i : Int).toNat by omega] at z
            exact z
          have g4 := g_bank hG
          have e3 : s_lo 170 13 = st 170 13 := fI_lo 170 13 rfl rfl
          refine yr1_ok (Rt := Q) (wc := (wcL [(8, k_is), (35, k_vFills T), (53, k_vCut)])) (stp := [39, 51]) hcm hcl [] 107 ?_
          show ((0 ≤ s_lo 170 13 ∧ s_lo 170 13 < 2) ∧ ((s_lo 172 (s_lo 170 13 : Int).toNat ≤ i → ((be = ((-1) : Int) → ((-2147483648 ≤ k + 1 ∧ k + 1 ≤ 2147483647) ∧ K (rx_find rx_m48 39) [(6, .inl (k + 1)), (3, .inl k), (4, .inr (.inl mo)), (9, .inl i), (7, .inr (.inl mo)), (0, .inr (.inr (.inl 170))), (1, .inl n), (2, .inl x)] [] s_lo)) ∧ (¬ (be = ((-1) : Int)) → (∀ (w5 : Int), (mo < le ∧ w5 = -1 ∨ mo = le ∧ w5 = 0 ∨ le < mo ∧ w5 = 1) → ((w5 < (0 : Int) → ((-2147483648 ≤ k + 1 ∧ k + 1 ≤ 2147483647) ∧ K (rx_find rx_m48 39) [(6, .inl (k + 1)), (3, .inl k), (4, .inr (.inl mo)), (9, .inl i), (7, .inr (.inl mo)), (0, .inr (.inr (.inl 170))), (1, .inl n), (2, .inl x)] [] s_lo)) ∧ (¬ (w5 < (0 : Int)) → ((-2147483648 ≤ k + 1 ∧ k + 1 ≤ 2147483647) ∧ K (rx_find rx_m48 39) [(6, .inl (k + 1)), (9, .inl i), (7, .inr (.inl mo)), (4, .inr (.inl le)), (3, .inl be), (0, .inr (.inr (.inl 170))), (1, .inl n), (2, .inl x)] [] s_lo))))))) ∧ (¬ (s_lo 172 (s_lo 170 13 : Int).toNat ≤ i) → ((-2147483648 ≤ (8 : Int) * k ∧ (8 : Int) * k ≤ 2147483647) ∧ ((-2147483648 ≤ ((8 : Int) * k) + i ∧ ((8 : Int) * k) + i ≤ 2147483647) ∧ ((0 ≤ ((8 : Int) * k) + i ∧ ((8 : Int) * k) + i < 160) ∧ ((-2147483648 ≤ (8 : Int) * k ∧ (8 : Int) * k ≤ 2147483647) ∧ ((-2147483648 ≤ ((8 : Int) * k) + i ∧ ((8 : Int) * k) + i ≤ 2147483647) ∧ ((0 ≤ ((8 : Int) * k) + i ∧ ((8 : Int) * k) + i < 160) ∧ ((-9223372036854775808 ≤ (s_lo 219 (((8 : Int) * k) + i : Int).toNat) * (s_lo 218 (((8 : Int) * k) + i : Int).toNat) ∧ (s_lo 219 (((8 : Int) * k) + i : Int).toNat) * (s_lo 218 (((8 : Int) * k) + i : Int).toNat) ≤ 9223372036854775807) ∧ (∀ (w6 : Int), ((s_lo 219 (((8 : Int) * k) + i : Int).toNat) * (s_lo 218 (((8 : Int) * k) + i : Int).toNat) < mo ∧ w6 = -1 ∨ (s_lo 219 (((8 : Int) * k) + i : Int).toNat) * (s_lo 218 (((8 : Int) * k) + i : Int).toNat) = mo ∧ w6 = 0 ∨ mo < (s_lo 219 (((8 : Int) * k) + i : Int).toNat) * (s_lo 218 (((8 : Int) * k) + i : Int).toNat) ∧ w6 = 1) → ((w6 ≤ (0 : Int) → ((-2147483648 ≤ i + 1 ∧ i + 1 ≤ 2147483647) ∧ K (rx_find rx_m48 51) [(9, .inl (i + 1)), (7, .inr (.inl mo)), (10, .inr (.inl ((s_lo 219 (((8 : Int) * k) + i : Int).toNat) * (s_lo 218 (((8 : Int) * k) + i : Int).toNat)))), (6, .inl k), (4, .inr (.inl le)), (3, .inl be), (0, .inr (.inr (.inl 170))), (1, .inl n), (2, .inl x)] [] s_lo)) ∧ (¬ (w6 ≤ (0 : Int)) → ((-2147483648 ≤ i + 1 ∧ i + 1 ≤ 2147483647) ∧ K (rx_find rx_m48 51) [(9, .inl (i + 1)), (7, .inr (.inl ((s_lo 219 (((8 : Int) * k) + i : Int).toNat) * (s_lo 218 (((8 : Int) * k) + i : Int).toNat)))), (10, .inr (.inl ((s_lo 219 (((8 : Int) * k) + i : Int).toNat) * (s_lo 218 (((8 : Int) * k) + i : Int).toNat)))), (6, .inl k), (4, .inr (.inl le)), (3, .inl be), (0, .inr (.inr (.inl 170))), (1, .inl n), (2, .inl x)] [] s_lo))))))))))))))
          have g8 := g_places hG (st 170 13 : Int).toNat
          have e7 : s_lo 172 (s_lo 170 13 : Int).toNat = st 172 (st 170 13 : Int).toNat := (fI_lo 172 (s_lo 170 13 : Int).toNat rfl rfl).trans (by rw [e3] <;> rfl)
          refine ⟨by omega, ?_⟩
          refine ⟨fun h9 => ?_, fun h9 => ?_⟩
          · refine ⟨fun h10 => ?_, fun h10 => ?_⟩
            · refine ⟨by omega, ?_⟩
              exact hsl _ _ _ _ _ (sb_cons (.head _) (sb_cons (.tail _ (.tail _ (.head _))) (sb_cons (.tail _ (.head _)) (sb_cons (.tail _ (.tail _ (.tail _ (.tail _ (.tail _ (.head _)))))) (sb_cons (.tail _ (.tail _ (.tail _ (.tail _ (.tail _ (.tail _ (.head _))))))) (sb_cons (.tail _ (.tail _ (.tail _ (.tail _ (.tail _ (.tail _ (.tail _ (.head _)))))))) sb_nil)))))) (ih_lo _ (show (n - (k + 1) : Int).toNat < u_lo from by omega) (k + 1) mo k s_lo ⟨gI_lo, fI_lo, (show 0 ≤ (k + 1) ∧ (k + 1) ≤ n ∧ 1 ≤ n ∧ n ≤ 20 ∧ 0 ≤ x ∧ x ≤ 1 from by omega), (show 0 < flT T (flo (st 216) (st 217) (st 170 71) n) (n - 1 : Int).toNat from p_lo), (show TD T (flo (st 216) (st 217) (st 170 71) n) (n - 1 : Int).toNat (s_lo 218) (-1) from t_lo), (show TU T (flo (st 216) (st 217) (st 170 71) n) (s_lo 219) n from w_lo), (show AK (fun j => flM T (flo (st 216) (st 217) (st 170 71) n) (n - 1 : Int).toNat j) (k + 1) k mo from (by
                  have hm : mo = flM T (flo (st 216) (st 217) (st 170 71) n) (n - 1 : Int).toNat k.toNat := by
                    have z := TT_max t_lo (B := s_lo 219) (by rw [show (((n - 1 : Int).toNat : Nat) : Int) + 1 = n by omega]; exact w_lo) (j := k.toNat) (by omega) (g := (fun q : Nat => s_lo 219 (8 * k + (q : Int) : Int).toNat * s_lo 218 (8 * k + (q : Int) : Int).toNat)) (fun q hq => by show s_lo 219 _ * s_lo 218 _ = _; rw [show (8 * k + (q : Int) : Int).toNat = 8 * k.toNat + q by omega])
                    rw [← z, show T 0 1 = i by omega]
                    exact v_li
                  exact AK_new (g := (fun j => flM T (flo (st 216) (st 217) (st 170 71) n) (n - 1 : Int).toNat j)) a_lo (by omega) hm (by omega)))⟩ rfl)
            · intro w5 hw5
              refine ⟨fun h11 => ?_, fun h11 => ?_⟩
              · refine ⟨by omega, ?_⟩
                exact hsl _ _ _ _ _ (sb_cons (.head _) (sb_cons (.tail _ (.tail _ (.head _))) (sb_cons (.tail _ (.head _)) (sb_cons (.tail _ (.tail _ (.tail _ (.tail _ (.tail _ (.head _)))))) (sb_cons (.tail _ (.tail _ (.tail _ (.tail _ (.tail _ (.tail _ (.head _))))))) (sb_cons (.tail _ (.tail _ (.tail _ (.tail _ (.tail _ (.tail _ (.tail _ (.head _)))))))) sb_nil)))))) (ih_lo _ (show (n - (k + 1) : Int).toNat < u_lo from by omega) (k + 1) mo k s_lo ⟨gI_lo, fI_lo, (show 0 ≤ (k + 1) ∧ (k + 1) ≤ n ∧ 1 ≤ n ∧ n ≤ 20 ∧ 0 ≤ x ∧ x ≤ 1 from by omega), (show 0 < flT T (flo (st 216) (st 217) (st 170 71) n) (n - 1 : Int).toNat from p_lo), (show TD T (flo (st 216) (st 217) (st 170 71) n) (n - 1 : Int).toNat (s_lo 218) (-1) from t_lo), (show TU T (flo (st 216) (st 217) (st 170 71) n) (s_lo 219) n from w_lo), (show AK (fun j => flM T (flo (st 216) (st 217) (st 170 71) n) (n - 1 : Int).toNat j) (k + 1) k mo from (by
                  have hm : mo = flM T (flo (st 216) (st 217) (st 170 71) n) (n - 1 : Int).toNat k.toNat := by
                    have z := TT_max t_lo (B := s_lo 219) (by rw [show (((n - 1 : Int).toNat : Nat) : Int) + 1 = n by omega]; exact w_lo) (j := k.toNat) (by omega) (g := (fun q : Nat => s_lo 219 (8 * k + (q : Int) : Int).toNat * s_lo 218 (8 * k + (q : Int) : Int).toNat)) (fun q hq => by show s_lo 219 _ * s_lo 218 _ = _; rw [show (8 * k + (q : Int) : Int).toNat = 8 * k.toNat + q by omega])
                    rw [← z, show T 0 1 = i by omega]
                    exact v_li
                  exact AK_new (g := (fun j => flM T (flo (st 216) (st 217) (st 170 71) n) (n - 1 : Int).toNat j)) a_lo (by omega) hm (by omega)))⟩ rfl)
              · refine ⟨by omega, ?_⟩
                exact hsl _ _ _ _ _ (sb_cons (.head _) (sb_cons (.tail _ (.tail _ (.tail _ (.head _)))) (sb_cons (.tail _ (.tail _ (.tail _ (.tail _ (.head _))))) (sb_cons (.tail _ (.tail _ (.tail _ (.tail _ (.tail _ (.head _)))))) (sb_cons (.tail _ (.tail _ (.tail _ (.tail _ (.tail _ (.tail _ (.head _))))))) (sb_cons (.tail _ (.tail _ (.tail _ (.tail _ (.tail _ (.tail _ (.tail _ (.head _)))))))) sb_nil)))))) (ih_lo _ (show (n - (k + 1) : Int).toNat < u_lo from by omega) (k + 1) le be s_lo ⟨gI_lo, fI_lo, (show 0 ≤ (k + 1) ∧ (k + 1) ≤ n ∧ 1 ≤ n ∧ n ≤ 20 ∧ 0 ≤ x ∧ x ≤ 1 from by omega), (show 0 < flT T (flo (st 216) (st 217) (st 170 71) n) (n - 1 : Int).toNat from p_lo), (show TD T (flo (st 216) (st 217) (st 170 71) n) (n - 1 : Int).toNat (s_lo 218) (-1) from t_lo), (show TU T (flo (st 216) (st 217) (st 170 71) n) (s_lo 219) n from w_lo), (show AK (fun j => flM T (flo (st 216) (st 217) (st 170 71) n) (n - 1 : Int).toNat j) (k + 1) be le from (by
                  have hm : mo = flM T (flo (st 216) (st 217) (st 170 71) n) (n - 1 : Int).toNat k.toNat := by
                    have z := TT_max t_lo (B := s_lo 219) (by rw [show (((n - 1 : Int).toNat : Nat) : Int) + 1 = n by omega]; exact w_lo) (j := k.toNat) (by omega) (g := (fun q : Nat => s_lo 219 (8 * k + (q : Int) : Int).toNat * s_lo 218 (8 * k + (q : Int) : Int).toNat)) (fun q hq => by show s_lo 219 _ * s_lo 218 _ = _; rw [show (8 * k + (q : Int) : Int).toNat = 8 * k.toNat + q by omega])
                    rw [← z, show T 0 1 = i by omega]
                    exact v_li
                  exact AK_old (g := (fun j => flM T (flo (st 216) (st 217) (st 170 71) n) (n - 1 : Int).toNat j)) a_lo hm ⟨by omega, by omega⟩))⟩ rfl)
          · refine ⟨by omega, ?_⟩
            refine ⟨by omega, ?_⟩
            have g12 := g_upTo gI_lo (((8 : Int) * k) + i : Int).toNat
            refine ⟨by omega, ?_⟩
            refine ⟨by omega, ?_⟩
            refine ⟨by omega, ?_⟩
            have g13 := g_onFrom gI_lo (((8 : Int) * k) + i : Int).toNat
            refine ⟨by omega, ?_⟩
            refine ⟨by omega, ?_⟩
            intro w6 hw6
            refine ⟨fun h14 => ?_, fun h14 => ?_⟩
            · refine ⟨by omega, ?_⟩
              exact hsl _ _ _ _ _ (sb_cons (.head _) (sb_cons (.tail _ (.head _)) (sb_cons (.tail _ (.tail _ (.tail _ (.head _)))) (sb_cons (.tail _ (.tail _ (.tail _ (.tail _ (.head _))))) (sb_cons (.tail _ (.tail _ (.tail _ (.tail _ (.tail _ (.head _)))))) (sb_cons (.tail _ (.tail _ (.tail _ (.tail _ (.tail _ (.tail _ (.head _))))))) (sb_cons (.tail _ (.tail _ (.tail _ (.tail _ (.tail _ (.tail _ (.tail _ (.head _)))))))) (sb_cons (.tail _ (.tail _ (.tail _ (.tail _ (.tail _ (.tail _ (.tail _ (.tail _ (.head _))))))))) sb_nil)))))))) (ih_li _ (show (T 0 1 - (i + 1) : Int).toNat < u_li from by omega) (i + 1) mo ⟨(show 0 ≤ (i + 1) ∧ (i + 1) ≤ T 0 1 ∧ 0 ≤ mo ∧ mo ≤ 144115188075855872 ∧ 0 ≤ k ∧ k < n from by omega), (show mo = flX (fun q : Nat => s_lo 219 (8 * k + (q : Int) : Int).toNat * s_lo 218 (8 * k + (q : Int) : Int).toNat) ((i + 1) : Int).toNat from (by
                  rw [flX_s (by omega), ← v_li]
                  show _ = if mo < s_lo 219 (8 * k + ((i.toNat : Nat) : Int) : Int).toNat * s_lo 218 (8 * k + ((i.toNat : Nat) : Int) : Int).toNat then s_lo 219 (8 * k + ((i.toNat : Nat) : Int) : Int).toNat * s_lo 218 (8 * k + ((i.toNat : Nat) : Int) : Int).toNat else mo
                  rw [show ((i.toNat : Nat) : Int) = i by omega]
                  split <;> omega))⟩ rfl)
            · refine ⟨by omega, ?_⟩
              exact hsl _ _ _ _ _ (sb_cons (.head _) (sb_cons (.tail _ (.head _)) (sb_cons (.tail _ (.tail _ (.tail _ (.head _)))) (sb_cons (.tail _ (.tail _ (.tail _ (.tail _ (.head _))))) (sb_cons (.tail _ (.tail _ (.tail _ (.tail _ (.tail _ (.head _)))))) (sb_cons (.tail _ (.tail _ (.tail _ (.tail _ (.tail _ (.tail _ (.head _))))))) (sb_cons (.tail _ (.tail _ (.tail _ (.tail _ (.tail _ (.tail _ (.tail _ (.head _)))))))) (sb_cons (.tail _ (.tail _ (.tail _ (.tail _ (.tail _ (.tail _ (.tail _ (.tail _ (.head _))))))))) sb_nil)))))))) (ih_li _ (show (T 0 1 - (i + 1) : Int).toNat < u_li from by omega) (i + 1) ((s_lo 219 (((8 : Int) * k) + i : Int).toNat) * (s_lo 218 (((8 : Int) * k) + i : Int).toNat)) ⟨(show 0 ≤ (i + 1) ∧ (i + 1) ≤ T 0 1 ∧ 0 ≤ ((s_lo 219 (((8 : Int) * k) + i : Int).toNat) * (s_lo 218 (((8 : Int) * k) + i : Int).toNat)) ∧ ((s_lo 219 (((8 : Int) * k) + i : Int).toNat) * (s_lo 218 (((8 : Int) * k) + i : Int).toNat)) ≤ 144115188075855872 ∧ 0 ≤ k ∧ k < n from by omega), (show ((s_lo 219 (((8 : Int) * k) + i : Int).toNat) * (s_lo 218 (((8 : Int) * k) + i : Int).toNat)) = flX (fun q : Nat => s_lo 219 (8 * k + (q : Int) : Int).toNat * s_lo 218 (8 * k + (q : Int) : Int).toNat) ((i + 1) : Int).toNat from (by
                  rw [flX_s (by omega), ← v_li]
                  show _ = if mo < s_lo 219 (8 * k + ((i.toNat : Nat) : Int) : Int).toNat * s_lo 218 (8 * k + ((i.toNat : Nat) : Int) : Int).toNat then s_lo 219 (8 * k + ((i.toNat : Nat) : Int) : Int).toNat * s_lo 218 (8 * k + ((i.toNat : Nat) : Int) : Int).toNat else mo
                  rw [show ((i.toNat : Nat) : Int) = i by omega]
                  split <;> omega))⟩ rfl)
      refine yr1_ok (Rt := Q) (wc := (wcL [(8, k_is), (35, k_vFills T), (53, k_vCut)])) (stp := [39, 51]) hcm hcl [] 107 ?_
      show ((n ≤ k → ((¬ x = (0 : Int) → (rq_vCut le s_lo ∧ (∀ (r15 : Int), en_vCut le s_lo r15 → Q (some (.inl r15)) s_lo))) ∧ (¬ (¬ x = (0 : Int)) → Q (some (.inl be)) s_lo))) ∧ (¬ (n ≤ k) → K (rx_find rx_m48 51) [(9, .inl 0), (7, .inr (.inl 0)), (6, .inl k), (4, .inr (.inl le)), (3, .inl be), (0, .inr (.inr (.inl 170))), (1, .inl n), (2, .inl x)] [] s_lo))
      refine ⟨fun h16 => ?_, fun h16 => ?_⟩
      · refine ⟨fun h17 => ?_, fun h17 => ?_⟩
        · refine ⟨(show 0 ≤ le from (by
              rcases a_lo with ⟨z1, z2⟩ | ⟨z1, z2, z3⟩
              · exfalso; omega
              · rw [z3]
                exact (flM_c hP (flo (st 216) (st 217) (st 170 71) n) (m := (n - 1 : Int).toNat) (Nat.le_trans (flA_b _ _) (by omega)) (by omega)).1)), fun r15 q15 => ?_⟩
          have e15 := q15
          change r15 = cp9 le at e15
          exact hQ _ _ ⟨gI_lo, fI_lo, (show r15 = fA T (st 216) (st 217) (st 170 71) n x from (by
          unfold fA
          rw [if_pos ⟨by omega, by omega, by omega⟩]
          rcases a_lo with ⟨z1, z2⟩ | ⟨z1, z2, z3⟩
          · exfalso; omega
          · rw [show (k : Int) = n by omega] at z2 z3
            rw [if_neg (by omega)]
            have z4 := e15
            rw [z3] at z4
            exact z4))⟩
        · exact hQ _ _ ⟨gI_lo, fI_lo, (show be = fA T (st 216) (st 217) (st 170 71) n x from (by
          unfold fA
          rw [if_pos ⟨by omega, by omega, by omega⟩]
          rcases a_lo with ⟨z1, z2⟩ | ⟨z1, z2, z3⟩
          · exfalso; omega
          · rw [show (k : Int) = n by omega] at z2 z3
            rw [if_pos (by omega)]
            exact z2))⟩
      · exact li _ 0 0 ⟨(show 0 ≤ (0 : Int) ∧ (0 : Int) ≤ T 0 1 ∧ 0 ≤ (0 : Int) ∧ (0 : Int) ≤ 144115188075855872 ∧ 0 ≤ k ∧ k < n from by omega), (show (0 : Int) = flX (fun q : Nat => s_lo 219 (8 * k + (q : Int) : Int).toNat * s_lo 218 (8 * k + (q : Int) : Int).toNat) ((0 : Int) : Int).toNat from rfl)⟩ rfl
  refine yr1_ok (Rt := Q) (wc := (wcL [(8, k_is), (35, k_vFills T), (53, k_vCut)])) (stp := [39, 51]) hcm hcl [] 107 ?_
  show (∀ (r18 : Int), en_is n (1) (20) st r18 → ((r18 = (0 : Int) → Q (some (.inl (-1))) st) ∧ (¬ (r18 = (0 : Int)) → (∀ (r19 : Int), en_is x (0) (1) st r19 → ((r19 = (0 : Int) → Q (some (.inl (-1))) st) ∧ (¬ (r19 = (0 : Int)) → (170 = 170 ∧ (rq_vFills T n st ∧ (∀ (r20 : Int) (s20 : zS), en_vFills T n st r20 s20 → (∀ (w21 : Int), (r20 < 0 ∧ w21 = -1 ∨ r20 = 0 ∧ w21 = 0 ∨ 0 < r20 ∧ w21 = 1) → ((¬ w21 = (0 : Int) → K (rx_find rx_m48 39) [(6, .inl 0), (4, .inr (.inl 0)), (3, .inl (-1)), (0, .inr (.inr (.inl 170))), (1, .inl n), (2, .inl x)] [] s20) ∧ (¬ (¬ w21 = (0 : Int)) → Q (some (.inl (-1))) s20))))))))))))
  refine fun r18 q18 => ?_
  have b18 := q18
  change (r18 = 0 ∨ r18 = 1) ∧ (r18 = 1 ↔ (1) ≤ n ∧ n ≤ (20)) at b18
  refine ⟨fun h22 => ?_, fun h22 => ?_⟩
  · exact hQ _ _ ⟨hG, (fr_rf _ _), (show ((-1) : Int) = fA T (st 216) (st 217) (st 170 71) n x from (by unfold fA; rw [if_neg (fun z => by omega)]))⟩
  · refine fun r19 q19 => ?_
    have b19 := q19
    change (r19 = 0 ∨ r19 = 1) ∧ (r19 = 1 ↔ (0) ≤ x ∧ x ≤ (1)) at b19
    refine ⟨fun h23 => ?_, fun h23 => ?_⟩
    · exact hQ _ _ ⟨hG, (fr_rf _ _), (show ((-1) : Int) = fA T (st 216) (st 217) (st 170 71) n x from (by unfold fA; rw [if_neg (fun z => by omega)]))⟩
    · have g24 := g_bank hG
      refine ⟨rfl, ⟨hG, (show RT (st 170 13) T st from rt), (show TW T from tw), (show 1 ≤ n ∧ n ≤ 20 from by omega)⟩, fun r20 s20 q20 => ?_⟩
      obtain ⟨gs20, fs20, e20, o20⟩ := q20
      change r20 = flT T (flo (st 216) (st 217) (st 170 71) n) (n - 1 : Int).toNat at e20
      change ¬ r20 = 0 → TD T (flo (st 216) (st 217) (st 170 71) n) (n - 1 : Int).toNat (s20 218) (-1) ∧ TU T (flo (st 216) (st 217) (st 170 71) n) (s20 219) n at o20
      intro w21 hw21
      refine ⟨fun h25 => ?_, fun h25 => ?_⟩
      · exact lo _ 0 0 (-1) s20 ⟨gs20, (fr_tr (fr_rf _ _) fs20 rfl), (show 0 ≤ (0 : Int) ∧ (0 : Int) ≤ n ∧ 1 ≤ n ∧ n ≤ 20 ∧ 0 ≤ x ∧ x ≤ 1 from by omega), (show 0 < flT T (flo (st 216) (st 217) (st 170 71) n) (n - 1 : Int).toNat from (by have z := hc (by omega); have z2 := e20; omega)), (show TD T (flo (st 216) (st 217) (st 170 71) n) (n - 1 : Int).toNat (s20 218) (-1) from (o20 (by omega)).1), (show TU T (flo (st 216) (st 217) (st 170 71) n) (s20 219) n from (o20 (by omega)).2), (show AK (fun j => flM T (flo (st 216) (st 217) (st 170 71) n) (n - 1 : Int).toNat j) (0 : Int) ((-1) : Int) (0 : Int) from (AK_0 _ _))⟩ rfl
      · exact hQ _ _ ⟨gs20, (fr_tr (fr_rf _ _) fs20 rfl), (show ((-1) : Int) = fA T (st 216) (st 217) (st 170 71) n x from (by unfold fA; rw [if_neg (fun z => by omega)]))⟩
theorem k_vAsked_m (hTb : aTb zSh rx_tb cl) {T : zS} {D : Nat} (hD : 3 ≤ D) : ∀ as st (Q Q' : zQ), (∀ r st', Q r st' → Q' r st') → (k_vAsked T) 48 as st Q → cl D 48 as st Q' := by
  intro as st Q Q' hQ h
  unfold k_vAsked at h
  split at h
  · obtain ⟨rfl, h⟩ := h
    exact c_vAsked hTb hD (ct_vAsked_m hQ h)
  · exact h.elim
end XYQ
