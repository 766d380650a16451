/-! printed by wip/p4/py/c3.py: the class's town, 122 -/
def rq_cPlaceNamedA (w : Int) (st : zS) : Prop := gInv zgt st
def en_cPlaceNamedA (w : Int) (st : zS) (r : Int) : Prop := ((0 ≤ r ∧ r < st 122 1 ∧ st 123 (r : Int).toNat = w ∧ ∀ j : Int, 0 ≤ j → j < r → ¬ st 123 j.toNat = w) ∨ (r = -1 ∧ ∀ j : Int, 0 ≤ j → j < st 122 1 → ¬ st 123 j.toNat = w))
def ct_cPlaceNamedA (w : Int) (st : zS) (Q : zQ) : Prop := rq_cPlaceNamedA w st ∧ (∀ (r : Int), en_cPlaceNamedA w st r → Q (some (.inl r)) st)
theorem ct_cPlaceNamedA_m {w : Int} {st : zS} {Q Q' : zQ} (hQ : ∀ r st', Q r st' → Q' r st') (h : ct_cPlaceNamedA w st Q) : ct_cPlaceNamedA w st Q' := ⟨h.1, fun x0 x1 => hQ _ _ (h.2 x0 x1)⟩
def k_cPlaceNamedA : zCall := fun _ as st Q => match as with
  | [.inr (.inr (.inl z_o)), .inl w] => z_o = 122 ∧ ct_cPlaceNamedA w st Q
  | _ => False
def rq_cIsNamedA (w : Int) (st : zS) : Prop := gInv zgt st
def en_cIsNamedA (w : Int) (st : zS) (r : Int) : Prop := ((r = 0 ∧ FrN (tn 122 st) w) ∨ (r = 1 ∧ ¬ FrN (tn 122 st) w))
def ct_cIsNamedA (w : Int) (st : zS) (Q : zQ) : Prop := rq_cIsNamedA w st ∧ (∀ (r : Int), en_cIsNamedA w st r → Q (some (.inl r)) st)
theorem ct_cIsNamedA_m {w : Int} {st : zS} {Q Q' : zQ} (hQ : ∀ r st', Q r st' → Q' r st') (h : ct_cIsNamedA w st Q) : ct_cIsNamedA w st Q' := ⟨h.1, fun x0 x1 => hQ _ _ (h.2 x0 x1)⟩
def k_cIsNamedA : zCall := fun _ as st Q => match as with
  | [.inr (.inr (.inl z_o)), .inl w] => z_o = 122 ∧ ct_cIsNamedA w st Q
  | _ => False
def en_cIsSpotA (a : Int) (st : zS) (r : Int) : Prop := ((r = 0 ∨ r = 1) ∧ (r = 1 ↔ 0 ≤ a ∧ a < st 122 1))
def ct_cIsSpotA (a : Int) (st : zS) (Q : zQ) : Prop := ∀ (r : Int), en_cIsSpotA a st r → Q (some (.inl r)) st
theorem ct_cIsSpotA_m {a : Int} {st : zS} {Q Q' : zQ} (hQ : ∀ r st', Q r st' → Q' r st') (h : ct_cIsSpotA a st Q) : ct_cIsSpotA a st Q' := fun x0 x1 => hQ _ _ (h x0 x1)
def k_cIsSpotA : zCall := fun _ as st Q => match as with
  | [.inr (.inr (.inl z_o)), .inl a] => z_o = 122 ∧ ct_cIsSpotA a st Q
  | _ => False
def rq_cBetweenA (a : Int) (b : Int) (st : zS) : Prop := gInv zgt st
def en_cBetweenA (a : Int) (b : Int) (st : zS) (r : Int) : Prop := ((0 ≤ a ∧ a < st 122 1 ∧ 0 ≤ b ∧ b < st 122 1 → r = st 127 (a * 8 + b : Int).toNat) ∧ (¬ (0 ≤ a ∧ a < st 122 1 ∧ 0 ≤ b ∧ b < st 122 1) → r = -1))
def ct_cBetweenA (a : Int) (b : Int) (st : zS) (Q : zQ) : Prop := rq_cBetweenA a b st ∧ (∀ (r : Int), en_cBetweenA a b st r → Q (some (.inl r)) st)
theorem ct_cBetweenA_m {a b : Int} {st : zS} {Q Q' : zQ} (hQ : ∀ r st', Q r st' → Q' r st') (h : ct_cBetweenA a b st Q) : ct_cBetweenA a b st Q' := ⟨h.1, fun x0 x1 => hQ _ _ (h.2 x0 x1)⟩
def k_cBetweenA : zCall := fun _ as st Q => match as with
  | [.inr (.inr (.inl z_o)), .inl a, .inl b] => z_o = 122 ∧ ct_cBetweenA a b st Q
  | _ => False
def rq_cLastSpotA  (st : zS) : Prop := gInv zgt st
def en_cLastSpotA  (st : zS) (r : Int) : Prop := ((0 < st 131 2 → r = st 132 (st 131 2 - 1 : Int).toNat) ∧ (st 131 2 ≤ 0 → r = -1))
def ct_cLastSpotA  (st : zS) (Q : zQ) : Prop := rq_cLastSpotA  st ∧ (∀ (r : Int), en_cLastSpotA  st r → Q (some (.inl r)) st)
theorem ct_cLastSpotA_m {st : zS} {Q Q' : zQ} (hQ : ∀ r st', Q r st' → Q' r st') (h : ct_cLastSpotA  st Q) : ct_cLastSpotA  st Q' := ⟨h.1, fun x0 x1 => hQ _ _ (h.2 x0 x1)⟩
def k_cLastSpotA : zCall := fun _ as st Q => match as with
  | [.inr (.inr (.inl z_o))] => z_o = 131 ∧ ct_cLastSpotA  st Q
  | _ => False
def rq_cCanFollowA (a : Int) (st : zS) : Prop := gInv zgt st ∧ (0 ≤ a ∧ a < st 122 1 ∧ ∀ j : Int, 0 ≤ j → j < st 131 2 → 0 ≤ st 132 j.toNat ∧ st 132 j.toNat < st 122 1)
def en_cCanFollowA (a : Int) (st : zS) (r : Int) : Prop := ((r = 1 ∧ (st 131 2 = 0 ∨ ¬ st 127 (8 * st 132 (st 131 2 - 1 : Int).toNat + a : Int).toNat = -1)) ∨ (r = 0 ∧ ¬ (st 131 2 = 0 ∨ ¬ st 127 (8 * st 132 (st 131 2 - 1 : Int).toNat + a : Int).toNat = -1)))
def ct_cCanFollowA (a : Int) (st : zS) (Q : zQ) : Prop := rq_cCanFollowA a st ∧ (∀ (r : Int), en_cCanFollowA a st r → Q (some (.inl r)) st)
theorem ct_cCanFollowA_m {a : Int} {st : zS} {Q Q' : zQ} (hQ : ∀ r st', Q r st' → Q' r st') (h : ct_cCanFollowA a st Q) : ct_cCanFollowA a st Q' := ⟨h.1, fun x0 x1 => hQ _ _ (h.2 x0 x1)⟩
def k_cCanFollowA : zCall := fun _ as st Q => match as with
  | [.inr (.inr (.inl z_o)), .inr (.inr (.inl z_0)), .inl a] => z_o = 122 ∧ z_0 = 131 ∧ ct_cCanFollowA a st Q
  | _ => False
def rq_cAddPlaceA (w : Int) (st : zS) : Prop := gInv zgt st ∧ (-2147483648 ≤ w ∧ w ≤ 2147483647 ∧ st 122 1 < 8)
def ct_cAddPlaceA (w : Int) (st : zS) (Q : zQ) : Prop := rq_cAddPlaceA w st ∧ Q (some (.inl 1)) (zup (zup st 123 (st 122 1 : Int).toNat w) 122 1 ((st 122 1) + 1))
theorem ct_cAddPlaceA_m {w : Int} {st : zS} {Q Q' : zQ} (hQ : ∀ r st', Q r st' → Q' r st') (h : ct_cAddPlaceA w st Q) : ct_cAddPlaceA w st Q' := ⟨h.1, hQ _ _ (h.2)⟩
def k_cAddPlaceA : zCall := fun _ as st Q => match as with
  | [.inr (.inr (.inl z_o)), .inl w] => z_o = 122 ∧ ct_cAddPlaceA w st Q
  | _ => False
def rq_cAddStreetA (a : Int) (b : Int) (mm : Int) (st : zS) : Prop := gInv zgt st ∧ (st 122 3 < 14 ∧ 0 ≤ a ∧ a < st 122 1 ∧ 0 ≤ b ∧ b < st 122 1 ∧ 0 ≤ mm ∧ mm ≤ 99)
def ct_cAddStreetA (a : Int) (b : Int) (mm : Int) (st : zS) (Q : zQ) : Prop := rq_cAddStreetA a b mm st ∧ Q (some (.inl 1)) (zup (zup (zup (zup (zup (zup st 124 (st 122 3 : Int).toNat a) 125 (st 122 3 : Int).toNat b) 126 (st 122 3 : Int).toNat mm) 127 (a * 8 + b : Int).toNat (st 122 3)) 127 (b * 8 + a : Int).toNat (st 122 3)) 122 3 ((st 122 3) + 1))
theorem ct_cAddStreetA_m {a b mm : Int} {st : zS} {Q Q' : zQ} (hQ : ∀ r st', Q r st' → Q' r st') (h : ct_cAddStreetA a b mm st Q) : ct_cAddStreetA a b mm st Q' := ⟨h.1, hQ _ _ (h.2)⟩
def k_cAddStreetA : zCall := fun _ as st Q => match as with
  | [.inr (.inr (.inl z_o)), .inl a, .inl b, .inl mm] => z_o = 122 ∧ ct_cAddStreetA a b mm st Q
  | _ => False
def rq_cAddThingA (w : Int) (a : Int) (mm : Int) (st : zS) : Prop := gInv zgt st ∧ (-2147483648 ≤ w ∧ w ≤ 2147483647 ∧ st 122 8 < 8 ∧ 0 ≤ a ∧ a ≤ 7 ∧ 0 ≤ mm ∧ mm ≤ 9)
def ct_cAddThingA (w : Int) (a : Int) (mm : Int) (st : zS) (Q : zQ) : Prop := rq_cAddThingA w a mm st ∧ Q (some (.inl 1)) (zup (zup (zup (zup st 128 (st 122 8 : Int).toNat w) 129 (st 122 8 : Int).toNat a) 130 (st 122 8 : Int).toNat mm) 122 8 ((st 122 8) + 1))
theorem ct_cAddThingA_m {w a mm : Int} {st : zS} {Q Q' : zQ} (hQ : ∀ r st', Q r st' → Q' r st') (h : ct_cAddThingA w a mm st Q) : ct_cAddThingA w a mm st Q' := ⟨h.1, hQ _ _ (h.2)⟩
def k_cAddThingA : zCall := fun _ as st Q => match as with
  | [.inr (.inr (.inl z_o)), .inl w, .inl a, .inl mm] => z_o = 122 ∧ ct_cAddThingA w a mm st Q
  | _ => False
def rq_cAppendA (a : Int) (mm : Int) (st : zS) : Prop := gInv zgt st ∧ (st 131 2 < 30 ∧ 0 ≤ a ∧ a ≤ 7 ∧ 0 ≤ mm ∧ mm ≤ 30)
def ct_cAppendA (a : Int) (mm : Int) (st : zS) (Q : zQ) : Prop := rq_cAppendA a mm st ∧ Q (some (.inl 1)) (zup (zup (zup st 132 (st 131 2 : Int).toNat a) 133 (st 131 2 : Int).toNat mm) 131 2 ((st 131 2) + 1))
theorem ct_cAppendA_m {a mm : Int} {st : zS} {Q Q' : zQ} (hQ : ∀ r st', Q r st' → Q' r st') (h : ct_cAppendA a mm st Q) : ct_cAppendA a mm st Q' := ⟨h.1, hQ _ _ (h.2)⟩
def k_cAppendA : zCall := fun _ as st Q => match as with
  | [.inr (.inr (.inl z_o)), .inl a, .inl mm] => z_o = 131 ∧ ct_cAppendA a mm st Q
  | _ => False
section R9m
variable {cl : Nat → zCall}
set_option maxHeartbeats 4000000 in
set_option maxRecDepth 100000 in
theorem c_cPlaceNamedA (hTb : aTb zSh rx_tb cl) {D : Nat} (hD : 1 ≤ D) {w : Int} {st : zS} {Q : zQ} (h : ct_cPlaceNamedA w st Q) : cl D 283 [.inr (.inr (.inl 122)), .inl w] st Q := by
  obtain ⟨d, rfl⟩ : ∃ d, D = d + 1 := ⟨D - 1, by omega⟩
  refine hTb d 283 (rx_m283, 3, 0, 0, 1) rfl _ _ _ (Nat.le_of_ble_eq_true rfl) (fun K hcl hsf hsl => ?_)
  have hcm : zmo (zno) (cl d) := zno_m
  obtain ⟨hR, hQ⟩ := h
  have hG := hR
  have lp : ∀ (u : Nat) (i : Int), (0 ≤ i ∧ i ≤ st 122 1) ∧ (∀ j : Int, 0 ≤ j → j < i → ¬ st 123 j.toNat = w) → (st 122 1 - i).toNat = u → K (rx_find rx_m283 2) [(2, .inl i), (0, .inr (.inr (.inl 122))), (1, .inl w)] [] st := by
    intro u
    induction u using Nat.strongRecOn with
    | _ u ih =>
      intro i hi hu
      obtain ⟨i_lp, n_lp⟩ := hi
      have g1 := g_f122_1 hG
      refine yr1_ok (Rt := Q) (wc := (zno)) (stp := [2]) hcm hcl [] 38 ?_
      show ((st 122 1 ≤ i → Q (some (.inl (-1))) st) ∧ (¬ (st 122 1 ≤ i) → ((0 ≤ i ∧ i < 8) ∧ ((¬ st 123 (i : Int).toNat = w → ((-2147483648 ≤ i + 1 ∧ i + 1 ≤ 2147483647) ∧ K (rx_find rx_m283 2) [(2, .inl (i + 1)), (0, .inr (.inr (.inl 122))), (1, .inl w)] [] st)) ∧ (¬ (¬ st 123 (i : Int).toNat = w) → Q (some (.inl i)) st)))))
      refine ⟨fun h2 => ?_, fun h2 => ?_⟩
      · have g3 := g_a123 hG (((-1) : Int) : Int).toNat
        exact hQ _ (show (0 ≤ ((-1) : Int) ∧ ((-1) : Int) < st 122 1 ∧ st 123 (((-1) : Int) : Int).toNat = w ∧ ∀ j : Int, 0 ≤ j → j < ((-1) : Int) → ¬ st 123 j.toNat = w) ∨ (((-1) : Int) = -1 ∧ ∀ j : Int, 0 ≤ j → j < st 122 1 → ¬ st 123 j.toNat = w) from Or.inr ⟨rfl, fun j z1 z2 => n_lp j z1 (by omega)⟩)
      · have g4 := g_a123 hG (i : Int).toNat
        refine ⟨by omega, ?_⟩
        refine ⟨fun h5 => ?_, fun h5 => ?_⟩
        · refine ⟨by omega, ?_⟩
          exact ih _ (show (st 122 1 - (i + 1) : Int).toNat < u from by omega) (i + 1) ⟨(show 0 ≤ (i + 1) ∧ (i + 1) ≤ st 122 1 from by omega), (show ∀ j : Int, 0 ≤ j → j < (i + 1) → ¬ st 123 j.toNat = w from fun j z1 z2 => by
          by_cases z3 : j = i
          · rw [z3]; omega
          · exact n_lp j z1 (by omega))⟩ rfl
        · exact hQ _ (show (0 ≤ i ∧ i < st 122 1 ∧ st 123 (i : Int).toNat = w ∧ ∀ j : Int, 0 ≤ j → j < i → ¬ st 123 j.toNat = w) ∨ (i = -1 ∧ ∀ j : Int, 0 ≤ j → j < st 122 1 → ¬ st 123 j.toNat = w) from Or.inl ⟨by omega, by omega, by omega, n_lp⟩)
  have g6 := g_f122_1 hG
  refine yr1_ok (Rt := Q) (wc := (zno)) (stp := [2]) hcm hcl [] 38 ?_
  show K (rx_find rx_m283 2) [(2, .inl 0), (0, .inr (.inr (.inl 122))), (1, .inl w)] [] st
  exact lp _ 0 ⟨(show 0 ≤ (0 : Int) ∧ (0 : Int) ≤ st 122 1 from by omega), (show ∀ j : Int, 0 ≤ j → j < (0 : Int) → ¬ st 123 j.toNat = w from fun j z1 z2 => by omega)⟩ rfl
theorem k_cPlaceNamedA_m (hTb : aTb zSh rx_tb cl) {D : Nat} (hD : 1 ≤ D) : ∀ as st (Q Q' : zQ), (∀ r st', Q r st' → Q' r st') → k_cPlaceNamedA 283 as st Q → cl D 283 as st Q' := by
  intro as st Q Q' hQ h
  unfold k_cPlaceNamedA at h
  split at h
  · obtain ⟨rfl, h⟩ := h
    exact c_cPlaceNamedA hTb hD (ct_cPlaceNamedA_m hQ h)
  · exact h.elim
set_option maxHeartbeats 4000000 in
set_option maxRecDepth 100000 in
theorem c_cIsNamedA (hTb : aTb zSh rx_tb cl) {D : Nat} (hD : 2 ≤ D) {w : Int} {st : zS} {Q : zQ} (h : ct_cIsNamedA w st Q) : cl D 284 [.inr (.inr (.inl 122)), .inl w] st Q := by
  obtain ⟨d, rfl⟩ : ∃ d, D = d + 1 := ⟨D - 1, by omega⟩
  refine hTb d 284 (rx_m284, 3, 0, 0, 2) rfl _ _ _ (Nat.le_of_ble_eq_true rfl) (fun K hcl hsf hsl => ?_)
  have hcm : zmo (wcL [(283, k_cPlaceNamedA)]) (cl d) := (wcL_m (wm_cons (k_cPlaceNamedA_m hTb (by omega)) wm_nil))
  obtain ⟨hR, hQ⟩ := h
  have hG := hR
  have lp : ∀ (u : Nat) (i : Int), (0 ≤ i ∧ i ≤ st 122 8) ∧ (∀ j : Int, 0 ≤ j → j < i → ¬ st 128 j.toNat = w) → (st 122 8 - i).toNat = u → K (rx_find rx_m284 2) [(2, .inl i), (0, .inr (.inr (.inl 122))), (1, .inl w)] [] st := by
    intro u
    induction u using Nat.strongRecOn with
    | _ u ih =>
      intro i hi hu
      obtain ⟨i_lp, n_lp⟩ := hi
      have g1 := g_f122_8 hG
      refine yr1_ok (Rt := Q) (wc := (wcL [(283, k_cPlaceNamedA)])) (stp := [2]) hcm hcl [] 45 ?_
      show ((st 122 8 ≤ i → (122 = 122 ∧ (rq_cPlaceNamedA w st ∧ (∀ (r2 : Int), en_cPlaceNamedA w st r2 → ((r2 = ((-1) : Int) → ((0 = (0 : Int) ∨ 0 = (1 : Int)) ∧ Q (some (.inl 0)) st)) ∧ (¬ (r2 = ((-1) : Int)) → ((1 = (0 : Int) ∨ 1 = (1 : Int)) ∧ Q (some (.inl 1)) st))))))) ∧ (¬ (st 122 8 ≤ i) → ((0 ≤ i ∧ i < 8) ∧ ((¬ st 128 (i : Int).toNat = w → ((-2147483648 ≤ i + 1 ∧ i + 1 ≤ 2147483647) ∧ K (rx_find rx_m284 2) [(2, .inl (i + 1)), (0, .inr (.inr (.inl 122))), (1, .inl w)] [] st)) ∧ (¬ (¬ st 128 (i : Int).toNat = w) → ((1 = (0 : Int) ∨ 1 = (1 : Int)) ∧ Q (some (.inl 1)) st))))))
      refine ⟨fun h3 => ?_, fun h3 => ?_⟩
      · refine ⟨rfl, hG, fun r2 q2 => ?_⟩
        have e2 := q2
        change (0 ≤ r2 ∧ r2 < st 122 1 ∧ st 123 (r2 : Int).toNat = w ∧ ∀ j : Int, 0 ≤ j → j < r2 → ¬ st 123 j.toNat = w) ∨ (r2 = -1 ∧ ∀ j : Int, 0 ≤ j → j < st 122 1 → ¬ st 123 j.toNat = w) at e2
        have g4 := g_f122_1 hG
        have g5 := g_a123 hG (r2 : Int).toNat
        refine ⟨fun h6 => ?_, fun h6 => ?_⟩
        · refine ⟨by omega, ?_⟩
          exact hQ _ (show ((0 : Int) = 0 ∧ FrN (tn 122 st) w) ∨ ((0 : Int) = 1 ∧ ¬ FrN (tn 122 st) w) from (by
            rcases e2 with ⟨z1, z2, z3, z4⟩ | ⟨z1, z2⟩
            · exfalso; omega
            · exact Or.inl ⟨rfl, z2, fun j y1 y2 => n_lp j y1 (by have y3 : j < st 122 8 := y2; omega)⟩))
        · refine ⟨by omega, ?_⟩
          exact hQ _ (show ((1 : Int) = 0 ∧ FrN (tn 122 st) w) ∨ ((1 : Int) = 1 ∧ ¬ FrN (tn 122 st) w) from (by
            rcases e2 with ⟨z1, z2, z3, z4⟩ | ⟨z1, z2⟩
            · exact Or.inr ⟨rfl, fun z => z.1 _ z1 z2 z3⟩
            · exfalso; omega))
      · have g7 := g_a128 hG (i : Int).toNat
        refine ⟨by omega, ?_⟩
        refine ⟨fun h8 => ?_, fun h8 => ?_⟩
        · refine ⟨by omega, ?_⟩
          exact ih _ (show (st 122 8 - (i + 1) : Int).toNat < u from by omega) (i + 1) ⟨(show 0 ≤ (i + 1) ∧ (i + 1) ≤ st 122 8 from by omega), (show ∀ j : Int, 0 ≤ j → j < (i + 1) → ¬ st 128 j.toNat = w from fun j z1 z2 => by
          by_cases z3 : j = i
          · rw [z3]; omega
          · exact n_lp j z1 (by omega))⟩ rfl
        · refine ⟨by omega, ?_⟩
          exact hQ _ (show ((1 : Int) = 0 ∧ FrN (tn 122 st) w) ∨ ((1 : Int) = 1 ∧ ¬ FrN (tn 122 st) w) from Or.inr ⟨rfl, fun z => z.2 i (by omega) (show i < st 122 8 from by omega) (show st 128 (i : Int).toNat = w from by omega)⟩)
  have g9 := g_f122_8 hG
  refine yr1_ok (Rt := Q) (wc := (wcL [(283, k_cPlaceNamedA)])) (stp := [2]) hcm hcl [] 45 ?_
  show K (rx_find rx_m284 2) [(2, .inl 0), (0, .inr (.inr (.inl 122))), (1, .inl w)] [] st
  exact lp _ 0 ⟨(show 0 ≤ (0 : Int) ∧ (0 : Int) ≤ st 122 8 from by omega), (show ∀ j : Int, 0 ≤ j → j < (0 : Int) → ¬ st 128 j.toNat = w from fun j z1 z2 => by omega)⟩ rfl
theorem k_cIsNamedA_m (hTb : aTb zSh rx_tb cl) {D : Nat} (hD : 2 ≤ D) : ∀ as st (Q Q' : zQ), (∀ r st', Q r st' → Q' r st') → k_cIsNamedA 284 as st Q → cl D 284 as st Q' := by
  intro as st Q Q' hQ h
  unfold k_cIsNamedA at h
  split at h
  · obtain ⟨rfl, h⟩ := h
    exact c_cIsNamedA hTb hD (ct_cIsNamedA_m hQ h)
  · exact h.elim
set_option maxHeartbeats 4000000 in
set_option maxRecDepth 100000 in
theorem c_cIsSpotA (hTb : aTb zSh rx_tb cl) {D : Nat} (hD : 1 ≤ D) {a : Int} {st : zS} {Q : zQ} (h : ct_cIsSpotA a st Q) : cl D 285 [.inr (.inr (.inl 122)), .inl a] st Q := by
  obtain ⟨d, rfl⟩ : ∃ d, D = d + 1 := ⟨D - 1, by omega⟩
  refine hTb d 285 (rx_m285, 2, 0, 0, 2) rfl _ _ _ (Nat.le_of_ble_eq_true rfl) (fun K hcl hsf hsl => ?_)
  have hcm : zmo (zno) (cl d) := zno_m
  have hQ := h
  refine yr1_ok (Rt := Q) (wc := (zno)) (stp := []) hcm hcl [] 30 ?_
  show ((a < (0 : Int) → ((0 = (0 : Int) ∨ 0 = (1 : Int)) ∧ Q (some (.inl 0)) st)) ∧ (¬ (a < (0 : Int)) → ((st 122 1 ≤ a → ((0 = (0 : Int) ∨ 0 = (1 : Int)) ∧ Q (some (.inl 0)) st)) ∧ (¬ (st 122 1 ≤ a) → ((1 = (0 : Int) ∨ 1 = (1 : Int)) ∧ Q (some (.inl 1)) st)))))
  refine ⟨fun h1 => ?_, fun h1 => ?_⟩
  · refine ⟨by omega, ?_⟩
    exact hQ _ (show ((0 : Int) = 0 ∨ (0 : Int) = 1) ∧ ((0 : Int) = 1 ↔ 0 ≤ a ∧ a < st 122 1) from by omega)
  · refine ⟨fun h2 => ?_, fun h2 => ?_⟩
    · refine ⟨by omega, ?_⟩
      exact hQ _ (show ((0 : Int) = 0 ∨ (0 : Int) = 1) ∧ ((0 : Int) = 1 ↔ 0 ≤ a ∧ a < st 122 1) from by omega)
    · refine ⟨by omega, ?_⟩
      exact hQ _ (show ((1 : Int) = 0 ∨ (1 : Int) = 1) ∧ ((1 : Int) = 1 ↔ 0 ≤ a ∧ a < st 122 1) from by omega)
theorem k_cIsSpotA_m (hTb : aTb zSh rx_tb cl) {D : Nat} (hD : 1 ≤ D) : ∀ as st (Q Q' : zQ), (∀ r st', Q r st' → Q' r st') → k_cIsSpotA 285 as st Q → cl D 285 as st Q' := by
  intro as st Q Q' hQ h
  unfold k_cIsSpotA at h
  split at h
  · obtain ⟨rfl, h⟩ := h
    exact c_cIsSpotA hTb hD (ct_cIsSpotA_m hQ h)
  · exact h.elim
set_option maxHeartbeats 4000000 in
set_option maxRecDepth 100000 in
theorem c_cBetweenA (hTb : aTb zSh rx_tb cl) {D : Nat} (hD : 2 ≤ D) {a b : Int} {st : zS} {Q : zQ} (h : ct_cBetweenA a b st Q) : cl D 286 [.inr (.inr (.inl 122)), .inl a, .inl b] st Q := by
  obtain ⟨d, rfl⟩ : ∃ d, D = d + 1 := ⟨D - 1, by omega⟩
  refine hTb d 286 (rx_m286, 3, 0, 0, 1) rfl _ _ _ (Nat.le_of_ble_eq_true rfl) (fun K hcl hsf hsl => ?_)
  have hcm : zmo (wcL [(285, k_cIsSpotA)]) (cl d) := (wcL_m (wm_cons (k_cIsSpotA_m hTb (by omega)) wm_nil))
  obtain ⟨hR, hQ⟩ := h
  have hG := hR
  have g1 := g_f122_1 hG
  refine yr1_ok (Rt := Q) (wc := (wcL [(285, k_cIsSpotA)])) (stp := []) hcm hcl [] 39 ?_
  show (122 = 122 ∧ (∀ (r2 : Int), en_cIsSpotA a st r2 → ((r2 = (0 : Int) → Q (some (.inl (-1))) st) ∧ (¬ (r2 = (0 : Int)) → (122 = 122 ∧ (∀ (r3 : Int), en_cIsSpotA b st r3 → ((r3 = (0 : Int) → Q (some (.inl (-1))) st) ∧ (¬ (r3 = (0 : Int)) → ((-2147483648 ≤ a * 8 ∧ a * 8 ≤ 2147483647) ∧ ((-2147483648 ≤ (a * 8) + b ∧ (a * 8) + b ≤ 2147483647) ∧ ((0 ≤ (a * 8) + b ∧ (a * 8) + b < 64) ∧ Q (some (.inl (st 127 ((a * 8) + b : Int).toNat))) st)))))))))))
  refine ⟨rfl, fun r2 q2 => ?_⟩
  have b2 := q2
  change (r2 = 0 ∨ r2 = 1) ∧ (r2 = 1 ↔ 0 ≤ a ∧ a < st 122 1) at b2
  refine ⟨fun h4 => ?_, fun h4 => ?_⟩
  · have g5 := g_a127 hG (a * 8 + b : Int).toNat
    exact hQ _ (show (0 ≤ a ∧ a < st 122 1 ∧ 0 ≤ b ∧ b < st 122 1 → ((-1) : Int) = st 127 (a * 8 + b : Int).toNat) ∧ (¬ (0 ≤ a ∧ a < st 122 1 ∧ 0 ≤ b ∧ b < st 122 1) → ((-1) : Int) = -1) from by omega)
  · refine ⟨rfl, fun r3 q3 => ?_⟩
    have b3 := q3
    change (r3 = 0 ∨ r3 = 1) ∧ (r3 = 1 ↔ 0 ≤ b ∧ b < st 122 1) at b3
    refine ⟨fun h6 => ?_, fun h6 => ?_⟩
    · have g7 := g_a127 hG (a * 8 + b : Int).toNat
      exact hQ _ (show (0 ≤ a ∧ a < st 122 1 ∧ 0 ≤ b ∧ b < st 122 1 → ((-1) : Int) = st 127 (a * 8 + b : Int).toNat) ∧ (¬ (0 ≤ a ∧ a < st 122 1 ∧ 0 ≤ b ∧ b < st 122 1) → ((-1) : Int) = -1) from by omega)
    · refine ⟨by omega, ?_⟩
      refine ⟨by omega, ?_⟩
      have g8 := g_a127 hG ((a * 8) + b : Int).toNat
      refine ⟨by omega, ?_⟩
      have g9 := g_a127 hG (a * 8 + b : Int).toNat
      exact hQ _ (show (0 ≤ a ∧ a < st 122 1 ∧ 0 ≤ b ∧ b < st 122 1 → (st 127 ((a * 8) + b : Int).toNat) = st 127 (a * 8 + b : Int).toNat) ∧ (¬ (0 ≤ a ∧ a < st 122 1 ∧ 0 ≤ b ∧ b < st 122 1) → (st 127 ((a * 8) + b : Int).toNat) = -1) from by omega)
theorem k_cBetweenA_m (hTb : aTb zSh rx_tb cl) {D : Nat} (hD : 2 ≤ D) : ∀ as st (Q Q' : zQ), (∀ r st', Q r st' → Q' r st') → k_cBetweenA 286 as st Q → cl D 286 as st Q' := by
  intro as st Q Q' hQ h
  unfold k_cBetweenA at h
  split at h
  · obtain ⟨rfl, h⟩ := h
    exact c_cBetweenA hTb hD (ct_cBetweenA_m hQ h)
  · exact h.elim
set_option maxHeartbeats 4000000 in
set_option maxRecDepth 100000 in
theorem c_cLastSpotA (hTb : aTb zSh rx_tb cl) {D : Nat} (hD : 1 ≤ D) {st : zS} {Q : zQ} (h : ct_cLastSpotA  st Q) : cl D 264 [.inr (.inr (.inl 131))] st Q := by
  obtain ⟨d, rfl⟩ : ∃ d, D = d + 1 := ⟨D - 1, by omega⟩
  refine hTb d 264 (rx_m264, 1, 0, 0, 1) rfl _ _ _ (Nat.le_of_ble_eq_true rfl) (fun K hcl hsf hsl => ?_)
  have hcm : zmo (zno) (cl d) := zno_m
  obtain ⟨hR, hQ⟩ := h
  have hG := hR
  have g1 := g_f131_2 hG
  refine yr1_ok (Rt := Q) (wc := (zno)) (stp := []) hcm hcl [] 33 ?_
  show ((st 131 2 ≤ (0 : Int) → Q (some (.inl (-1))) st) ∧ (¬ (st 131 2 ≤ (0 : Int)) → ((-2147483648 ≤ (st 131 2) - 1 ∧ (st 131 2) - 1 ≤ 2147483647) ∧ ((0 ≤ (st 131 2) - 1 ∧ (st 131 2) - 1 < 30) ∧ Q (some (.inl (st 132 ((st 131 2) - 1 : Int).toNat))) st))))
  refine ⟨fun h2 => ?_, fun h2 => ?_⟩
  · have g3 := g_a132 hG (st 131 2 - 1 : Int).toNat
    exact hQ _ (show (0 < st 131 2 → ((-1) : Int) = st 132 (st 131 2 - 1 : Int).toNat) ∧ (st 131 2 ≤ 0 → ((-1) : Int) = -1) from by omega)
  · refine ⟨by omega, ?_⟩
    have g4 := g_a132 hG ((st 131 2) - 1 : Int).toNat
    refine ⟨by omega, ?_⟩
    have g5 := g_a132 hG (st 131 2 - 1 : Int).toNat
    exact hQ _ (show (0 < st 131 2 → (st 132 ((st 131 2) - 1 : Int).toNat) = st 132 (st 131 2 - 1 : Int).toNat) ∧ (st 131 2 ≤ 0 → (st 132 ((st 131 2) - 1 : Int).toNat) = -1) from by omega)
theorem k_cLastSpotA_m (hTb : aTb zSh rx_tb cl) {D : Nat} (hD : 1 ≤ D) : ∀ as st (Q Q' : zQ), (∀ r st', Q r st' → Q' r st') → k_cLastSpotA 264 as st Q → cl D 264 as st Q' := by
  intro as st Q Q' hQ h
  unfold k_cLastSpotA at h
  split at h
  · obtain ⟨rfl, h⟩ := h
    exact c_cLastSpotA hTb hD (ct_cLastSpotA_m hQ h)
  · exact h.elim
set_option maxHeartbeats 4000000 in
set_option maxRecDepth 100000 in
theorem c_cCanFollowA (hTb : aTb zSh rx_tb cl) {D : Nat} (hD : 3 ≤ D) {a : Int} {st : zS} {Q : zQ} (h : ct_cCanFollowA a st Q) : cl D 288 [.inr (.inr (.inl 122)), .inr (.inr (.inl 131)), .inl a] st Q := by
  obtain ⟨d, rfl⟩ : ∃ d, D = d + 1 := ⟨D - 1, by omega⟩
  refine hTb d 288 (rx_m288, 3, 0, 0, 2) rfl _ _ _ (Nat.le_of_ble_eq_true rfl) (fun K hcl hsf hsl => ?_)
  have hcm : zmo (wcL [(264, k_cLastSpotA), (286, k_cBetweenA)]) (cl d) := (wcL_m (wm_cons (k_cLastSpotA_m hTb (by omega)) (wm_cons (k_cBetweenA_m hTb (by omega)) wm_nil)))
  obtain ⟨hR, hQ⟩ := h
  obtain ⟨hG, q⟩ := hR
  change 0 ≤ a ∧ a < st 122 1 ∧ ∀ j : Int, 0 ≤ j → j < st 131 2 → 0 ≤ st 132 j.toNat ∧ st 132 j.toNat < st 122 1 at q
  have g1 := g_f122_1 hG
  have g2 := g_f131_2 hG
  refine yr1_ok (Rt := Q) (wc := (wcL [(264, k_cLastSpotA), (286, k_cBetweenA)])) (stp := []) hcm hcl [] 34 ?_
  show ((st 131 2 = (0 : Int) → ((1 = (0 : Int) ∨ 1 = (1 : Int)) ∧ Q (some (.inl 1)) st)) ∧ (¬ (st 131 2 = (0 : Int)) → (131 = 131 ∧ (rq_cLastSpotA  st ∧ (∀ (r3 : Int), en_cLastSpotA  st r3 → (122 = 122 ∧ (rq_cBetweenA r3 a st ∧ (∀ (r4 : Int), en_cBetweenA r3 a st r4 → ((r4 = ((-1) : Int) → ((0 = (0 : Int) ∨ 0 = (1 : Int)) ∧ Q (some (.inl 0)) st)) ∧ (¬ (r4 = ((-1) : Int)) → ((1 = (0 : Int) ∨ 1 = (1 : Int)) ∧ Q (some (.inl 1)) st)))))))))))
  refine ⟨fun h5 => ?_, fun h5 => ?_⟩
  · refine ⟨by omega, ?_⟩
    exact hQ _ (show ((1 : Int) = 1 ∧ (st 131 2 = 0 ∨ ¬ st 127 (8 * st 132 (st 131 2 - 1 : Int).toNat + a : Int).toNat = -1)) ∨ ((1 : Int) = 0 ∧ ¬ (st 131 2 = 0 ∨ ¬ st 127 (8 * st 132 (st 131 2 - 1 : Int).toNat + a : Int).toNat = -1)) from Or.inl ⟨rfl, Or.inl (by omega)⟩)
  · refine ⟨rfl, hG, fun r3 q3 => ?_⟩
    have e3 := q3
    change (0 < st 131 2 → r3 = st 132 (st 131 2 - 1 : Int).toNat) ∧ (st 131 2 ≤ 0 → r3 = -1) at e3
    have g6 := g_a132 hG (st 131 2 - 1 : Int).toNat
    refine ⟨rfl, hG, fun r4 q4 => ?_⟩
    have e4 := q4
    change (0 ≤ r3 ∧ r3 < st 122 1 ∧ 0 ≤ a ∧ a < st 122 1 → r4 = st 127 (r3 * 8 + a : Int).toNat) ∧ (¬ (0 ≤ r3 ∧ r3 < st 122 1 ∧ 0 ≤ a ∧ a < st 122 1) → r4 = -1) at e4
    have g7 := g_a127 hG (r3 * 8 + a : Int).toNat
    refine ⟨fun h8 => ?_, fun h8 => ?_⟩
    · refine ⟨by omega, ?_⟩
      exact hQ _ (show ((0 : Int) = 1 ∧ (st 131 2 = 0 ∨ ¬ st 127 (8 * st 132 (st 131 2 - 1 : Int).toNat + a : Int).toNat = -1)) ∨ ((0 : Int) = 0 ∧ ¬ (st 131 2 = 0 ∨ ¬ st 127 (8 * st 132 (st 131 2 - 1 : Int).toNat + a : Int).toNat = -1)) from (by
            have zq := q.2.2 (st 131 2 - 1) (by omega) (by omega)
            have zi : (8 * st 132 (st 131 2 - 1 : Int).toNat + a : Int).toNat = (st 132 (st 131 2 - 1 : Int).toNat * 8 + a : Int).toNat := by congr 1; omega
            have zl : r3 = st 132 (st 131 2 - 1 : Int).toNat := e3.1 (by omega)
            have zb := e4.1 (by omega)
            rw [zl] at zb
            rw [zi]
            exact Or.inr ⟨rfl, by omega⟩))
    · refine ⟨by omega, ?_⟩
      exact hQ _ (show ((1 : Int) = 1 ∧ (st 131 2 = 0 ∨ ¬ st 127 (8 * st 132 (st 131 2 - 1 : Int).toNat + a : Int).toNat = -1)) ∨ ((1 : Int) = 0 ∧ ¬ (st 131 2 = 0 ∨ ¬ st 127 (8 * st 132 (st 131 2 - 1 : Int).toNat + a : Int).toNat = -1)) from (by
            have zq := q.2.2 (st 131 2 - 1) (by omega) (by omega)
            have zi : (8 * st 132 (st 131 2 - 1 : Int).toNat + a : Int).toNat = (st 132 (st 131 2 - 1 : Int).toNat * 8 + a : Int).toNat := by congr 1; omega
            have zl : r3 = st 132 (st 131 2 - 1 : Int).toNat := e3.1 (by omega)
            have zb := e4.1 (by omega)
            rw [zl] at zb
            rw [zi]
            exact Or.inl ⟨rfl, Or.inr (by omega)⟩))
theorem k_cCanFollowA_m (hTb : aTb zSh rx_tb cl) {D : Nat} (hD : 3 ≤ D) : ∀ as st (Q Q' : zQ), (∀ r st', Q r st' → Q' r st') → k_cCanFollowA 288 as st Q → cl D 288 as st Q' := by
  intro as st Q Q' hQ h
  unfold k_cCanFollowA at h
  split at h
  · obtain ⟨rfl, rfl, h⟩ := h
    exact c_cCanFollowA hTb hD (ct_cCanFollowA_m hQ h)
  · exact h.elim
set_option maxHeartbeats 4000000 in
set_option maxRecDepth 100000 in
theorem c_cAddPlaceA (hTb : aTb zSh rx_tb cl) {D : Nat} (hD : 1 ≤ D) {w : Int} {st : zS} {Q : zQ} (h : ct_cAddPlaceA w st Q) : cl D 279 [.inr (.inr (.inl 122)), .inl w] st Q := by
  obtain ⟨d, rfl⟩ : ∃ d, D = d + 1 := ⟨D - 1, by omega⟩
  refine hTb d 279 (rx_m279, 2, 0, 0, 2) rfl _ _ _ (Nat.le_of_ble_eq_true rfl) (fun K hcl hsf hsl => ?_)
  have hcm : zmo (zno) (cl d) := zno_m
  obtain ⟨hR, hQ⟩ := h
  obtain ⟨hG, hr1⟩ := hR
  change -2147483648 ≤ w ∧ w ≤ 2147483647 ∧ st 122 1 < 8 at hr1
  have g1 := g_f122_1 hG
  refine yr1_ok (Rt := Q) (wc := (zno)) (stp := []) hcm hcl [] 40 ?_
  show ((st 122 1 < (8 : Int) → ((0 ≤ st 122 1 ∧ st 122 1 < 8) ∧ ((-2147483648 ≤ (st 122 1) + 1 ∧ (st 122 1) + 1 ≤ 2147483647) ∧ ((1 = (0 : Int) ∨ 1 = (1 : Int)) ∧ Q (some (.inl 1)) (zup (zup st 123 (st 122 1 : Int).toNat w) 122 1 ((st 122 1) + 1)))))) ∧ (¬ (st 122 1 < (8 : Int)) → _))
  refine ⟨fun h2 => ?_, fun h2 => (by exfalso; omega)⟩
  refine ⟨by omega, ?_⟩
  refine ⟨by omega, ?_⟩
  refine ⟨by omega, ?_⟩
  exact hQ
theorem k_cAddPlaceA_m (hTb : aTb zSh rx_tb cl) {D : Nat} (hD : 1 ≤ D) : ∀ as st (Q Q' : zQ), (∀ r st', Q r st' → Q' r st') → k_cAddPlaceA 279 as st Q → cl D 279 as st Q' := by
  intro as st Q Q' hQ h
  unfold k_cAddPlaceA at h
  split at h
  · obtain ⟨rfl, h⟩ := h
    exact c_cAddPlaceA hTb hD (ct_cAddPlaceA_m hQ h)
  · exact h.elim
set_option maxHeartbeats 4000000 in
set_option maxRecDepth 100000 in
theorem c_cAddStreetA (hTb : aTb zSh rx_tb cl) {D : Nat} (hD : 2 ≤ D) {a b mm : Int} {st : zS} {Q : zQ} (h : ct_cAddStreetA a b mm st Q) : cl D 280 [.inr (.inr (.inl 122)), .inl a, .inl b, .inl mm] st Q := by
  obtain ⟨d, rfl⟩ : ∃ d, D = d + 1 := ⟨D - 1, by omega⟩
  refine hTb d 280 (rx_m280, 4, 0, 0, 2) rfl _ _ _ (Nat.le_of_ble_eq_true rfl) (fun K hcl hsf hsl => ?_)
  have hcm : zmo (wcL [(285, k_cIsSpotA)]) (cl d) := (wcL_m (wm_cons (k_cIsSpotA_m hTb (by omega)) wm_nil))
  obtain ⟨hR, hQ⟩ := h
  obtain ⟨hG, hr1⟩ := hR
  change st 122 3 < 14 ∧ 0 ≤ a ∧ a < st 122 1 ∧ 0 ≤ b ∧ b < st 122 1 ∧ 0 ≤ mm ∧ mm ≤ 99 at hr1
  have g1 := g_f122_3 hG
  have g2 := g_f122_1 hG
  refine yr1_ok (Rt := Q) (wc := (wcL [(285, k_cIsSpotA)])) (stp := []) hcm hcl [] 80 ?_
  show (((14 : Int) ≤ st 122 3 → _) ∧ (¬ ((14 : Int) ≤ st 122 3) → (122 = 122 ∧ (∀ (r3 : Int), en_cIsSpotA a st r3 → ((r3 = (0 : Int) → _) ∧ (¬ (r3 = (0 : Int)) → (122 = 122 ∧ (∀ (r4 : Int), en_cIsSpotA b st r4 → ((¬ r4 = (0 : Int) → ((0 ≤ st 122 3 ∧ st 122 3 < 14) ∧ ((0 ≤ st 122 3 ∧ st 122 3 < 14) ∧ ((0 ≤ st 122 3 ∧ st 122 3 < 14) ∧ ((-2147483648 ≤ a * 8 ∧ a * 8 ≤ 2147483647) ∧ ((-2147483648 ≤ (a * 8) + b ∧ (a * 8) + b ≤ 2147483647) ∧ ((0 ≤ (a * 8) + b ∧ (a * 8) + b < 64) ∧ ((-2147483648 ≤ b * 8 ∧ b * 8 ≤ 2147483647) ∧ ((-2147483648 ≤ (b * 8) + a ∧ (b * 8) + a ≤ 2147483647) ∧ ((0 ≤ (b * 8) + a ∧ (b * 8) + a < 64) ∧ ((-2147483648 ≤ (st 122 3) + 1 ∧ (st 122 3) + 1 ≤ 2147483647) ∧ ((1 = (0 : Int) ∨ 1 = (1 : Int)) ∧ Q (some (.inl 1)) (zup (zup (zup (zup (zup (zup st 124 (st 122 3 : Int).toNat a) 125 (st 122 3 : Int).toNat b) 126 (st 122 3 : Int).toNat mm) 127 ((a * 8) + b : Int).toNat (st 122 3)) 127 ((b * 8) + a : Int).toNat (st 122 3)) 122 3 ((st 122 3) + 1)))))))))))))) ∧ (¬ (¬ r4 = (0 : Int)) → _))))))))))
  refine ⟨fun h5 => (by exfalso; omega), fun h5 => ?_⟩
  refine ⟨rfl, fun r3 q3 => ?_⟩
  have b3 := q3
  change (r3 = 0 ∨ r3 = 1) ∧ (r3 = 1 ↔ 0 ≤ a ∧ a < st 122 1) at b3
  refine ⟨fun h6 => (by exfalso; omega), fun h6 => ?_⟩
  refine ⟨rfl, fun r4 q4 => ?_⟩
  have b4 := q4
  change (r4 = 0 ∨ r4 = 1) ∧ (r4 = 1 ↔ 0 ≤ b ∧ b < st 122 1) at b4
  refine ⟨fun h7 => ?_, fun h7 => (by exfalso; omega)⟩
  refine ⟨by omega, ?_⟩
  refine ⟨by omega, ?_⟩
  refine ⟨by omega, ?_⟩
  refine ⟨by omega, ?_⟩
  refine ⟨by omega, ?_⟩
  refine ⟨by omega, ?_⟩
  refine ⟨by omega, ?_⟩
  refine ⟨by omega, ?_⟩
  refine ⟨by omega, ?_⟩
  refine ⟨by omega, ?_⟩
  refine ⟨by omega, ?_⟩
  exact hQ
theorem k_cAddStreetA_m (hTb : aTb zSh rx_tb cl) {D : Nat} (hD : 2 ≤ D) : ∀ as st (Q Q' : zQ), (∀ r st', Q r st' → Q' r st') → k_cAddStreetA 280 as st Q → cl D 280 as st Q' := by
  intro as st Q Q' hQ h
  unfold k_cAddStreetA at h
  split at h
  · obtain ⟨rfl, h⟩ := h
    exact c_cAddStreetA hTb hD (ct_cAddStreetA_m hQ h)
  · exact h.elim
set_option maxHeartbeats 4000000 in
set_option maxRecDepth 100000 in
theorem c_cAddThingA (hTb : aTb zSh rx_tb cl) {D : Nat} (hD : 1 ≤ D) {w a mm : Int} {st : zS} {Q : zQ} (h : ct_cAddThingA w a mm st Q) : cl D 281 [.inr (.inr (.inl 122)), .inl w, .inl a, .inl mm] st Q := by
  obtain ⟨d, rfl⟩ : ∃ d, D = d + 1 := ⟨D - 1, by omega⟩
  refine hTb d 281 (rx_m281, 4, 0, 0, 2) rfl _ _ _ (Nat.le_of_ble_eq_true rfl) (fun K hcl hsf hsl => ?_)
  have hcm : zmo (zno) (cl d) := zno_m
  obtain ⟨hR, hQ⟩ := h
  obtain ⟨hG, hr1⟩ := hR
  change -2147483648 ≤ w ∧ w ≤ 2147483647 ∧ st 122 8 < 8 ∧ 0 ≤ a ∧ a ≤ 7 ∧ 0 ≤ mm ∧ mm ≤ 9 at hr1
  have g1 := g_f122_8 hG
  refine yr1_ok (Rt := Q) (wc := (zno)) (stp := []) hcm hcl [] 52 ?_
  show ((st 122 8 < (8 : Int) → ((0 ≤ st 122 8 ∧ st 122 8 < 8) ∧ ((0 ≤ st 122 8 ∧ st 122 8 < 8) ∧ ((0 ≤ st 122 8 ∧ st 122 8 < 8) ∧ ((-2147483648 ≤ (st 122 8) + 1 ∧ (st 122 8) + 1 ≤ 2147483647) ∧ ((1 = (0 : Int) ∨ 1 = (1 : Int)) ∧ Q (some (.inl 1)) (zup (zup (zup (zup st 128 (st 122 8 : Int).toNat w) 129 (st 122 8 : Int).toNat a) 130 (st 122 8 : Int).toNat mm) 122 8 ((st 122 8) + 1)))))))) ∧ (¬ (st 122 8 < (8 : Int)) → _))
  refine ⟨fun h2 => ?_, fun h2 => (by exfalso; omega)⟩
  refine ⟨by omega, ?_⟩
  refine ⟨by omega, ?_⟩
  refine ⟨by omega, ?_⟩
  refine ⟨by omega, ?_⟩
  refine ⟨by omega, ?_⟩
  exact hQ
theorem k_cAddThingA_m (hTb : aTb zSh rx_tb cl) {D : Nat} (hD : 1 ≤ D) : ∀ as st (Q Q' : zQ), (∀ r st', Q r st' → Q' r st') → k_cAddThingA 281 as st Q → cl D 281 as st Q' := by
  intro as st Q Q' hQ h
  unfold k_cAddThingA at h
  split at h
  · obtain ⟨rfl, h⟩ := h
    exact c_cAddThingA hTb hD (ct_cAddThingA_m hQ h)
  · exact h.elim
set_option maxHeartbeats 4000000 in
set_option maxRecDepth 100000 in
theorem c_cAppendA (hTb : aTb zSh rx_tb cl) {D : Nat} (hD : 1 ≤ D) {a mm : Int} {st : zS} {Q : zQ} (h : ct_cAppendA a mm st Q) : cl D 263 [.inr (.inr (.inl 131)), .inl a, .inl mm] st Q := by
  obtain ⟨d, rfl⟩ : ∃ d, D = d + 1 := ⟨D - 1, by omega⟩
  refine hTb d 263 (rx_m263, 3, 0, 0, 2) rfl _ _ _ (Nat.le_of_ble_eq_true rfl) (fun K hcl hsf hsl => ?_)
  have hcm : zmo (zno) (cl d) := zno_m
  obtain ⟨hR, hQ⟩ := h
  obtain ⟨hG, hr1⟩ := hR
  change st 131 2 < 30 ∧ 0 ≤ a ∧ a ≤ 7 ∧ 0 ≤ mm ∧ mm ≤ 30 at hr1
  have g1 := g_f131_2 hG
  refine yr1_ok (Rt := Q) (wc := (zno)) (stp := []) hcm hcl [] 46 ?_
  show ((st 131 2 < (30 : Int) → ((0 ≤ st 131 2 ∧ st 131 2 < 30) ∧ ((0 ≤ st 131 2 ∧ st 131 2 < 30) ∧ ((-2147483648 ≤ (st 131 2) + 1 ∧ (st 131 2) + 1 ≤ 2147483647) ∧ ((1 = (0 : Int) ∨ 1 = (1 : Int)) ∧ Q (some (.inl 1)) (zup (zup (zup st 132 (st 131 2 : Int).toNat a) 133 (st 131 2 : Int).toNat mm) 131 2 ((st 131 2) + 1))))))) ∧ (¬ (st 131 2 < (30 : Int)) → _))
  refine ⟨fun h2 => ?_, fun h2 => (by exfalso; omega)⟩
  refine ⟨by omega, ?_⟩
  refine ⟨by omega, ?_⟩
  refine ⟨by omega, ?_⟩
  refine ⟨by omega, ?_⟩
  exact hQ
theorem k_cAppendA_m (hTb : aTb zSh rx_tb cl) {D : Nat} (hD : 1 ≤ D) : ∀ as st (Q Q' : zQ), (∀ r st', Q r st' → Q' r st') → k_cAppendA 263 as st Q → cl D 263 as st Q' := by
  intro as st Q Q' hQ h
  unfold k_cAppendA at h
  split at h
  · obtain ⟨rfl, h⟩ := h
    exact c_cAppendA hTb hD (ct_cAppendA_m hQ h)
  · exact h.elim
end R9m
