/-! printed by wip/p32/libd.py: onward, appends -/
def rq_onward (x : Int) (y : Int) (g : Int) (st : zS) : Prop := gInv zgt st ∧ (0 ≤ x ∧ x < 8 ∧ 0 ≤ y ∧ y < 8)
def en_onward (x : Int) (y : Int) (g : Int) (st : zS) (r : Int) : Prop := (OW st x y g r)
def ct_onward (x : Int) (y : Int) (g : Int) (st : zS) (Q : zQ) : Prop := rq_onward x y g st ∧ (∀ (r : Int), en_onward x y g st r → Q (some (.inl r)) st)
theorem ct_onward_m {x y g : Int} {st : zS} {Q Q' : zQ} (hQ : ∀ r st', Q r st' → Q' r st') (h : ct_onward x y g st Q) : ct_onward x y g st Q' := ⟨h.1, fun x0 x1 => hQ _ _ (h.2 x0 x1)⟩
def k_onward : zCall := fun _ as st Q => match as with
  | [.inr (.inr (.inl z_o)), .inl x, .inl y, .inl g] => z_o = 170 ∧ ct_onward x y g st Q
  | _ => False
theorem k_onward_mon : zmon k_onward := by
  intro nu as st Q Q' hQ h
  unfold k_onward at h ⊢
  split at h
  · exact ⟨h.1, ct_onward_m hQ h.2⟩
  · exact h.elim
def rq_appends (p : Int) (m : Int) (st : zS) : Prop := gInv zgt st ∧ (st 170 62 ≤ 29)
def ct_appends (p : Int) (m : Int) (st : zS) (Q : zQ) : Prop := rq_appends p m st ∧ Q none (zup (zup (zup st 210 (st 170 62 : Int).toNat p) 211 (st 170 62 : Int).toNat m) 170 62 ((st 170 62) + 1))
theorem ct_appends_m {p m : Int} {st : zS} {Q Q' : zQ} (hQ : ∀ r st', Q r st' → Q' r st') (h : ct_appends p m st Q) : ct_appends p m st Q' := ⟨h.1, hQ _ _ (h.2)⟩
def k_appends : zCall := fun _ as st Q => match as with
  | [.inr (.inr (.inl z_o)), .inl p, .inl m] => z_o = 170 ∧ ct_appends p m st Q
  | _ => False
theorem k_appends_mon : zmon k_appends := by
  intro nu as st Q Q' hQ h
  unfold k_appends at h ⊢
  split at h
  · exact ⟨h.1, ct_appends_m hQ h.2⟩
  · exact h.elim
section R73
variable {cl : Nat → zCall}
set_option maxHeartbeats 40000000 in
set_option maxRecDepth 100000 in
theorem c_appends (hTb : aTb zSh rx_tb cl) {D : Nat} (hD : 1 ≤ D) {p m : Int} {st : zS} {Q : zQ} (h : ct_appends p m st Q) : cl D 217 [.inr (.inr (.inl 170)), .inl p, .inl m] st Q := by
  obtain ⟨d, rfl⟩ : ∃ d, D = d + 1 := ⟨D - 1, by omega⟩
  refine hTb d 217 (rx_m217, 3, 0, 0, 0) rfl _ _ _ (Nat.le_of_ble_eq_true rfl) (fun K hcl hsf hsl => ?_)
  have hcm : zmo (zno) (cl d) := zno_m
  obtain ⟨hR, hQ⟩ := h
  obtain ⟨hG, hr1⟩ := hR
  change st 170 62 ≤ 29 at hr1
  have g1 := g_goMany hG
  refine yr1_ok (Rt := Q) (wc := (zno)) (stp := []) hcm hcl [] 39 ?_
  show ((0 ≤ st 170 62 ∧ st 170 62 < 30) ∧ ((0 ≤ st 170 62 ∧ st 170 62 < 30) ∧ ((-2147483648 ≤ (st 170 62) + 1 ∧ (st 170 62) + 1 ≤ 2147483647) ∧ Q none (zup (zup (zup st 210 (st 170 62 : Int).toNat p) 211 (st 170 62 : Int).toNat m) 170 62 ((st 170 62) + 1)))))
  refine ⟨by omega, ?_⟩
  refine ⟨by omega, ?_⟩
  refine ⟨by omega, ?_⟩
  exact hQ
theorem k_appends_m (hTb : aTb zSh rx_tb cl) {D : Nat} (hD : 1 ≤ D) : ∀ as st (Q Q' : zQ), (∀ r st', Q r st' → Q' r st') → k_appends 217 as st Q → cl D 217 as st Q' := by
  intro as st Q Q' hQ h
  unfold k_appends at h
  split at h
  · obtain ⟨rfl, h⟩ := h
    exact c_appends hTb hD (ct_appends_m hQ h)
  · exact h.elim
set_option maxHeartbeats 40000000 in
set_option maxRecDepth 100000 in
theorem c_onward (hTb : aTb zSh rx_tb cl) {D : Nat} (hD : 2 ≤ D) {x y g : Int} {st : zS} {Q : zQ} (h : ct_onward x y g st Q) : cl D 216 [.inr (.inr (.inl 170)), .inl x, .inl y, .inl g] st Q := by
  obtain ⟨d, rfl⟩ : ∃ d, D = d + 1 := ⟨D - 1, by omega⟩
  refine hTb d 216 (rx_m216, 6, 0, 0, 1) rfl _ _ _ (Nat.le_of_ble_eq_true rfl) (fun K hcl hsf hsl => ?_)
  have hcm : zmo (wcL [(0, k_between), (201, k_has2)]) (cl d) := (wcL_m (wm_cons (k_between_m hTb (by omega)) (wm_cons (k_has2_m hTb (by omega)) wm_nil)))
  obtain ⟨hR, hQ⟩ := h
  obtain ⟨hG, hr1⟩ := hR
  change 0 ≤ x ∧ x < 8 ∧ 0 ≤ y ∧ y < 8 at hr1
  have lp : ∀ (u : Nat) (c : Int), (0 ≤ c ∧ c ≤ st 172 (st 170 13 : Int).toNat) ∧ (∀ j : Int, 0 ≤ j → j < c → ¬ PW1 st g x y j) → (st 172 (st 170 13 : Int).toNat - c).toNat = u → K (rx_find rx_m216 3) [(4, .inl c), (0, .inr (.inr (.inl 170))), (1, .inl x), (2, .inl y), (3, .inl g)] [] st := by
    intro u_lp
    induction u_lp using Nat.strongRecOn with
    | _ u_lp ih_lp =>
      intro c hi hu_lp
      obtain ⟨i_lp, n_lp⟩ := hi
      have g1 := g_bank hG
      have g2 := g_places hG (st 170 13 : Int).toNat
      refine yr1_ok (Rt := Q) (wc := (wcL [(0, k_between), (201, k_has2)])) (stp := [3]) hcm hcl [] 80 ?_
      show ((0 ≤ st 170 13 ∧ st 170 13 < 2) ∧ ((st 172 (st 170 13 : Int).toNat ≤ c → Q (some (.inl (-1))) st) ∧ (¬ (st 172 (st 170 13 : Int).toNat ≤ c) → (170 = 170 ∧ (rq_between (st 170 13) x c st ∧ (∀ (r3 : Int), en_between (st 170 13) x c st r3 → ((r3 = (0 : Int) → ((-2147483648 ≤ c + 1 ∧ c + 1 ≤ 2147483647) ∧ K (rx_find rx_m216 3) [(4, .inl (c + 1)), (5, .inl r3), (0, .inr (.inr (.inl 170))), (1, .inl x), (2, .inl y), (3, .inl g)] [] st)) ∧ (¬ (r3 = (0 : Int)) → ((-2147483648 ≤ r3 - 1 ∧ r3 - 1 ≤ 2147483647) ∧ (∀ (r4 : Int), en_has2 g (r3 - 1) st r4 → ((r4 = (0 : Int) → ((-2147483648 ≤ (14 : Int) * (st 170 13) ∧ (14 : Int) * (st 170 13) ≤ 2147483647) ∧ ((-2147483648 ≤ ((14 : Int) * (st 170 13)) + r3 ∧ ((14 : Int) * (st 170 13)) + r3 ≤ 2147483647) ∧ ((-2147483648 ≤ (((14 : Int) * (st 170 13)) + r3) - 1 ∧ (((14 : Int) * (st 170 13)) + r3) - 1 ≤ 2147483647) ∧ ((0 ≤ (((14 : Int) * (st 170 13)) + r3) - 1 ∧ (((14 : Int) * (st 170 13)) + r3) - 1 < 28) ∧ ((-2147483648 ≤ (8 : Int) * c ∧ (8 : Int) * c ≤ 2147483647) ∧ ((-2147483648 ≤ ((8 : Int) * c) + y ∧ ((8 : Int) * c) + y ≤ 2147483647) ∧ ((0 ≤ ((8 : Int) * c) + y ∧ ((8 : Int) * c) + y < 64) ∧ ((-2147483648 ≤ (st 176 ((((14 : Int) * (st 170 13)) + r3) - 1 : Int).toNat) + (st 209 (((8 : Int) * c) + y : Int).toNat) ∧ (st 176 ((((14 : Int) * (st 170 13)) + r3) - 1 : Int).toNat) + (st 209 (((8 : Int) * c) + y : Int).toNat) ≤ 2147483647) ∧ ((-2147483648 ≤ (8 : Int) * x ∧ (8 : Int) * x ≤ 2147483647) ∧ ((-2147483648 ≤ ((8 : Int) * x) + y ∧ ((8 : Int) * x) + y ≤ 2147483647) ∧ ((0 ≤ ((8 : Int) * x) + y ∧ ((8 : Int) * x) + y < 64) ∧ ((¬ (st 176 ((((14 : Int) * (st 170 13)) + r3) - 1 : Int).toNat) + (st 209 (((8 : Int) * c) + y : Int).toNat) = st 209 (((8 : Int) * x) + y : Int).toNat → ((-2147483648 ≤ c + 1 ∧ c + 1 ≤ 2147483647) ∧ K (rx_find rx_m216 3) [(4, .inl (c + 1)), (5, .inl r3), (0, .inr (.inr (.inl 170))), (1, .inl x), (2, .inl y), (3, .inl g)] [] st)) ∧ (¬ (¬ (st 176 ((((14 : Int) * (st 170 13)) + r3) - 1 : Int).toNat) + (st 209 (((8 : Int) * c) + y : Int).toNat) = st 209 (((8 : Int) * x) + y : Int).toNat) → Q (some (.inl c)) st)))))))))))))) ∧ (¬ (r4 = (0 : Int)) → ((-2147483648 ≤ c + 1 ∧ c + 1 ≤ 2147483647) ∧ K (rx_find rx_m216 3) [(4, .inl (c + 1)), (5, .inl r3), (0, .inr (.inr (.inl 170))), (1, .inl x), (2, .inl y), (3, .inl g)] [] st)))))))))))))
      refine ⟨by omega, ?_⟩
      refine ⟨fun h5 => ?_, fun h5 => ?_⟩
      · exact hQ _ (show OW st x y g ((-1) : Int) from Or.inl ⟨rfl, fun j z1 z2 => n_lp j z1 (by omega)⟩)
      · refine ⟨rfl, (show 0 ≤ (st 170 13) ∧ (st 170 13) ≤ 1 ∧ 0 ≤ x ∧ x < 8 ∧ 0 ≤ c ∧ c < 8 from by omega), fun r3 q3 => ?_⟩
        have e3 := q3
        change r3 = st 177 (64 * (st 170 13) + 8 * x + c : Int).toNat at e3
        have g6 := g_streetAt hG (64 * (st 170 13) + 8 * x + c : Int).toNat
        refine ⟨fun h7 => ?_, fun h7 => ?_⟩
        · refine ⟨by omega, ?_⟩
          exact hsl _ _ _ _ _ (sb_cons (.head _) (sb_cons (.tail _ (.tail _ (.head _))) (sb_cons (.tail _ (.tail _ (.tail _ (.head _)))) (sb_cons (.tail _ (.tail _ (.tail _ (.tail _ (.head _))))) (sb_cons (.tail _ (.tail _ (.tail _ (.tail _ (.tail _ (.head _)))))) sb_nil))))) (ih_lp _ (show (st 172 (st 170 13 : Int).toNat - (c + 1) : Int).toNat < u_lp from by omega) (c + 1) ⟨(show 0 ≤ (c + 1) ∧ (c + 1) ≤ st 172 (st 170 13 : Int).toNat from by omega), (show ∀ j : Int, 0 ≤ j → j < (c + 1) → ¬ PW1 st g x y j from fun j z1 z2 => by
            by_cases z3 : j = c
            · subst z3
              intro z4
              have zr : r3 = st 177 (64 * st 170 13 + 8 * x + j : Int).toNat := e3
              have z5 : 0 < st 177 (64 * st 170 13 + 8 * x + j : Int).toNat := z4.1.1
              have z6 : ¬ hb g (st 177 (64 * st 170 13 + 8 * x + j : Int).toNat - 1) = 1 := z4.1.2
              have z7 : st 176 (14 * st 170 13 + st 177 (64 * st 170 13 + 8 * x + j : Int).toNat - 1 : Int).toNat + st 209 (8 * j + y : Int).toNat = st 209 (8 * x + y : Int).toNat := z4.2
              rw [← zr] at z5 z6 z7
              omega
            · exact n_lp j z1 (by omega))⟩ rfl)
        · refine ⟨by omega, ?_⟩
          refine fun r4 q4 => ?_
          have b4 := q4
          change (r4 = 0 ∨ r4 = 1) ∧ r4 = hb g (r3 - 1) at b4
          refine ⟨fun h8 => ?_, fun h8 => ?_⟩
          · refine ⟨by omega, ?_⟩
            refine ⟨by omega, ?_⟩
            refine ⟨by omega, ?_⟩
            have g9 := g_pacesOf hG ((((14 : Int) * (st 170 13)) + r3) - 1 : Int).toNat
            refine ⟨by omega, ?_⟩
            refine ⟨by omega, ?_⟩
            refine ⟨by omega, ?_⟩
            have g10 := g_distance hG (((8 : Int) * c) + y : Int).toNat
            refine ⟨by omega, ?_⟩
            refine ⟨by omega, ?_⟩
            refine ⟨by omega, ?_⟩
            refine ⟨by omega, ?_⟩
            have g11 := g_distance hG (((8 : Int) * x) + y : Int).toNat
            refine ⟨by omega, ?_⟩
            refine ⟨fun h12 => ?_, fun h12 => ?_⟩
            · refine ⟨by omega, ?_⟩
              exact hsl _ _ _ _ _ (sb_cons (.head _) (sb_cons (.tail _ (.tail _ (.head _))) (sb_cons (.tail _ (.tail _ (.tail _ (.head _)))) (sb_cons (.tail _ (.tail _ (.tail _ (.tail _ (.head _))))) (sb_cons (.tail _ (.tail _ (.tail _ (.tail _ (.tail _ (.head _)))))) sb_nil))))) (ih_lp _ (show (st 172 (st 170 13 : Int).toNat - (c + 1) : Int).toNat < u_lp from by omega) (c + 1) ⟨(show 0 ≤ (c + 1) ∧ (c + 1) ≤ st 172 (st 170 13 : Int).toNat from by omega), (show ∀ j : Int, 0 ≤ j → j < (c + 1) → ¬ PW1 st g x y j from fun j z1 z2 => by
            by_cases z3 : j = c
            · subst z3
              intro z4
              have zr : r3 = st 177 (64 * st 170 13 + 8 * x + j : Int).toNat := e3
              have z5 : 0 < st 177 (64 * st 170 13 + 8 * x + j : Int).toNat := z4.1.1
              have z6 : ¬ hb g (st 177 (64 * st 170 13 + 8 * x + j : Int).toNat - 1) = 1 := z4.1.2
              have z7 : st 176 (14 * st 170 13 + st 177 (64 * st 170 13 + 8 * x + j : Int).toNat - 1 : Int).toNat + st 209 (8 * j + y : Int).toNat = st 209 (8 * x + y : Int).toNat := z4.2
              rw [← zr] at z5 z6 z7
              omega
            · exact n_lp j z1 (by omega))⟩ rfl)
            · exact hQ _ (show OW st x y g c from by
            have zr : r3 = st 177 (64 * st 170 13 + 8 * x + c : Int).toNat := e3
            subst zr
            exact Or.inr ⟨by omega, by omega, ⟨⟨show 0 < st 177 (64 * st 170 13 + 8 * x + c : Int).toNat by omega, show ¬ hb g (st 177 (64 * st 170 13 + 8 * x + c : Int).toNat - 1) = 1 by omega⟩, show st 176 (14 * st 170 13 + st 177 (64 * st 170 13 + 8 * x + c : Int).toNat - 1 : Int).toNat + st 209 (8 * c + y : Int).toNat = st 209 (8 * x + y : Int).toNat by omega⟩, n_lp⟩)
          · refine ⟨by omega, ?_⟩
            exact hsl _ _ _ _ _ (sb_cons (.head _) (sb_cons (.tail _ (.tail _ (.head _))) (sb_cons (.tail _ (.tail _ (.tail _ (.head _)))) (sb_cons (.tail _ (.tail _ (.tail _ (.tail _ (.head _))))) (sb_cons (.tail _ (.tail _ (.tail _ (.tail _ (.tail _ (.head _)))))) sb_nil))))) (ih_lp _ (show (st 172 (st 170 13 : Int).toNat - (c + 1) : Int).toNat < u_lp from by omega) (c + 1) ⟨(show 0 ≤ (c + 1) ∧ (c + 1) ≤ st 172 (st 170 13 : Int).toNat from by omega), (show ∀ j : Int, 0 ≤ j → j < (c + 1) → ¬ PW1 st g x y j from fun j z1 z2 => by
            by_cases z3 : j = c
            · subst z3
              intro z4
              have zr : r3 = st 177 (64 * st 170 13 + 8 * x + j : Int).toNat := e3
              have z5 : 0 < st 177 (64 * st 170 13 + 8 * x + j : Int).toNat := z4.1.1
              have z6 : ¬ hb g (st 177 (64 * st 170 13 + 8 * x + j : Int).toNat - 1) = 1 := z4.1.2
              have z7 : st 176 (14 * st 170 13 + st 177 (64 * st 170 13 + 8 * x + j : Int).toNat - 1 : Int).toNat + st 209 (8 * j + y : Int).toNat = st 209 (8 * x + y : Int).toNat := z4.2
              rw [← zr] at z5 z6 z7
              omega
            · exact n_lp j z1 (by omega))⟩ rfl)
  have g13 := g_bank hG
  have g14 := g_places hG (st 170 13 : Int).toNat
  refine yr1_ok (Rt := Q) (wc := (wcL [(0, k_between), (201, k_has2)])) (stp := [3]) hcm hcl [] 80 ?_
  show K (rx_find rx_m216 3) [(4, .inl 0), (0, .inr (.inr (.inl 170))), (1, .inl x), (2, .inl y), (3, .inl g)] [] st
  exact lp _ 0 ⟨(show 0 ≤ (0 : Int) ∧ (0 : Int) ≤ st 172 (st 170 13 : Int).toNat from by omega), (show ∀ j : Int, 0 ≤ j → j < (0 : Int) → ¬ PW1 st g x y j from fun j z1 z2 => by omega)⟩ rfl
theorem k_onward_m (hTb : aTb zSh rx_tb cl) {D : Nat} (hD : 2 ≤ D) : ∀ as st (Q Q' : zQ), (∀ r st', Q r st' → Q' r st') → k_onward 216 as st Q → cl D 216 as st Q' := by
  intro as st Q Q' hQ h
  unfold k_onward at h
  split at h
  · obtain ⟨rfl, h⟩ := h
    exact c_onward hTb hD (ct_onward_m hQ h)
  · exact h.elim
end R73
