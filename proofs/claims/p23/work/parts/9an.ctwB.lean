/-! printed by wip/p4/py/c3.py: the class's town, 135 -/
def rq_cPlaceNamedB (w : Int) (st : zS) : Prop := gInv zgt st
def en_cPlaceNamedB (w : Int) (st : zS) (r : Int) : Prop := ((0 ≤ r ∧ r < st 135 1 ∧ st 136 (r : Int).toNat = w ∧ ∀ j : Int, 0 ≤ j → j < r → ¬ st 136 j.toNat = w) ∨ (r = -1 ∧ ∀ j : Int, 0 ≤ j → j < st 135 1 → ¬ st 136 j.toNat = w))
def ct_cPlaceNamedB (w : Int) (st : zS) (Q : zQ) : Prop := rq_cPlaceNamedB w st ∧ (∀ (r : Int), en_cPlaceNamedB w st r → Q (some (.inl r)) st)
theorem ct_cPlaceNamedB_m {w : Int} {st : zS} {Q Q' : zQ} (hQ : ∀ r st', Q r st' → Q' r st') (h : ct_cPlaceNamedB w st Q) : ct_cPlaceNamedB w st Q' := ⟨h.1, fun x0 x1 => hQ _ _ (h.2 x0 x1)⟩
def k_cPlaceNamedB : zCall := fun _ as st Q => match as with
  | [.inr (.inr (.inl z_o)), .inl w] => z_o = 135 ∧ ct_cPlaceNamedB w st Q
  | _ => False
def rq_cIsNamedB (w : Int) (st : zS) : Prop := gInv zgt st
def en_cIsNamedB (w : Int) (st : zS) (r : Int) : Prop := ((r = 0 ∧ FrN (tn 135 st) w) ∨ (r = 1 ∧ ¬ FrN (tn 135 st) w))
def ct_cIsNamedB (w : Int) (st : zS) (Q : zQ) : Prop := rq_cIsNamedB w st ∧ (∀ (r : Int), en_cIsNamedB w st r → Q (some (.inl r)) st)
theorem ct_cIsNamedB_m {w : Int} {st : zS} {Q Q' : zQ} (hQ : ∀ r st', Q r st' → Q' r st') (h : ct_cIsNamedB w st Q) : ct_cIsNamedB w st Q' := ⟨h.1, fun x0 x1 => hQ _ _ (h.2 x0 x1)⟩
def k_cIsNamedB : zCall := fun _ as st Q => match as with
  | [.inr (.inr (.inl z_o)), .inl w] => z_o = 135 ∧ ct_cIsNamedB w st Q
  | _ => False
def en_cIsSpotB (a : Int) (st : zS) (r : Int) : Prop := ((r = 0 ∨ r = 1) ∧ (r = 1 ↔ 0 ≤ a ∧ a < st 135 1))
def ct_cIsSpotB (a : Int) (st : zS) (Q : zQ) : Prop := ∀ (r : Int), en_cIsSpotB a st r → Q (some (.inl r)) st
theorem ct_cIsSpotB_m {a : Int} {st : zS} {Q Q' : zQ} (hQ : ∀ r st', Q r st' → Q' r st') (h : ct_cIsSpotB a st Q) : ct_cIsSpotB a st Q' := fun x0 x1 => hQ _ _ (h x0 x1)
def k_cIsSpotB : zCall := fun _ as st Q => match as with
  | [.inr (.inr (.inl z_o)), .inl a] => z_o = 135 ∧ ct_cIsSpotB a st Q
  | _ => False
def rq_cBetweenB (a : Int) (b : Int) (st : zS) : Prop := gInv zgt st
def en_cBetweenB (a : Int) (b : Int) (st : zS) (r : Int) : Prop := ((0 ≤ a ∧ a < st 135 1 ∧ 0 ≤ b ∧ b < st 135 1 → r = st 140 (a * 8 + b : Int).toNat) ∧ (¬ (0 ≤ a ∧ a < st 135 1 ∧ 0 ≤ b ∧ b < st 135 1) → r = -1))
def ct_cBetweenB (a : Int) (b : Int) (st : zS) (Q : zQ) : Prop := rq_cBetweenB a b st ∧ (∀ (r : Int), en_cBetweenB a b st r → Q (some (.inl r)) st)
theorem ct_cBetweenB_m {a b : Int} {st : zS} {Q Q' : zQ} (hQ : ∀ r st', Q r st' → Q' r st') (h : ct_cBetweenB a b st Q) : ct_cBetweenB a b st Q' := ⟨h.1, fun x0 x1 => hQ _ _ (h.2 x0 x1)⟩
def k_cBetweenB : zCall := fun _ as st Q => match as with
  | [.inr (.inr (.inl z_o)), .inl a, .inl b] => z_o = 135 ∧ ct_cBetweenB a b st Q
  | _ => False
def rq_cLastSpotB  (st : zS) : Prop := gInv zgt st
def en_cLastSpotB  (st : zS) (r : Int) : Prop := ((0 < st 144 2 → r = st 145 (st 144 2 - 1 : Int).toNat) ∧ (st 144 2 ≤ 0 → r = -1))
def ct_cLastSpotB  (st : zS) (Q : zQ) : Prop := rq_cLastSpotB  st ∧ (∀ (r : Int), en_cLastSpotB  st r → Q (some (.inl r)) st)
theorem ct_cLastSpotB_m {st : zS} {Q Q' : zQ} (hQ : ∀ r st', Q r st' → Q' r st') (h : ct_cLastSpotB  st Q) : ct_cLastSpotB  st Q' := ⟨h.1, fun x0 x1 => hQ _ _ (h.2 x0 x1)⟩
def k_cLastSpotB : zCall := fun _ as st Q => match as with
  | [.inr (.inr (.inl z_o))] => z_o = 144 ∧ ct_cLastSpotB  st Q
  | _ => False
def rq_cCanFollowB (a : Int) (st : zS) : Prop := gInv zgt st ∧ (0 ≤ a ∧ a < st 135 1 ∧ ∀ j : Int, 0 ≤ j → j < st 144 2 → 0 ≤ st 145 j.toNat ∧ st 145 j.toNat < st 135 1)
def en_cCanFollowB (a : Int) (st : zS) (r : Int) : Prop := ((r = 1 ∧ (st 144 2 = 0 ∨ ¬ st 140 (8 * st 145 (st 144 2 - 1 : Int).toNat + a : Int).toNat = -1)) ∨ (r = 0 ∧ ¬ (st 144 2 = 0 ∨ ¬ st 140 (8 * st 145 (st 144 2 - 1 : Int).toNat + a : Int).toNat = -1)))
def ct_cCanFollowB (a : Int) (st : zS) (Q : zQ) : Prop := rq_cCanFollowB a st ∧ (∀ (r : Int), en_cCanFollowB a st r → Q (some (.inl r)) st)
theorem ct_cCanFollowB_m {a : Int} {st : zS} {Q Q' : zQ} (hQ : ∀ r st', Q r st' → Q' r st') (h : ct_cCanFollowB a st Q) : ct_cCanFollowB a st Q' := ⟨h.1, fun x0 x1 => hQ _ _ (h.2 x0 x1)⟩
def k_cCanFollowB : zCall := fun _ as st Q => match as with
  | [.inr (.inr (.inl z_o)), .inr (.inr (.inl z_0)), .inl a] => z_o = 135 ∧ z_0 = 144 ∧ ct_cCanFollowB a st Q
  | _ => False
def rq_cAddPlaceB (w : Int) (st : zS) : Prop := gInv zgt st ∧ (-2147483648 ≤ w ∧ w ≤ 2147483647 ∧ st 135 1 < 8)
def ct_cAddPlaceB (w : Int) (st : zS) (Q : zQ) : Prop := rq_cAddPlaceB w st ∧ Q (some (.inl 1)) (zup (zup st 136 (st 135 1 : Int).toNat w) 135 1 ((st 135 1) + 1))
theorem ct_cAddPlaceB_m {w : Int} {st : zS} {Q Q' : zQ} (hQ : ∀ r st', Q r st' → Q' r st') (h : ct_cAddPlaceB w st Q) : ct_cAddPlaceB w st Q' := ⟨h.1, hQ _ _ (h.2)⟩
def k_cAddPlaceB : zCall := fun _ as st Q => match as with
  | [.inr (.inr (.inl z_o)), .inl w] => z_o = 135 ∧ ct_cAddPlaceB w st Q
  | _ => False
def rq_cAddStreetB (a : Int) (b : Int) (mm : Int) (st : zS) : Prop := gInv zgt st ∧ (st 135 3 < 14 ∧ 0 ≤ a ∧ a < st 135 1 ∧ 0 ≤ b ∧ b < st 135 1 ∧ 0 ≤ mm ∧ mm ≤ 99)
def ct_cAddStreetB (a : Int) (b : Int) (mm : Int) (st : zS) (Q : zQ) : Prop := rq_cAddStreetB a b mm st ∧ Q (some (.inl 1)) (zup (zup (zup (zup (zup (zup st 137 (st 135 3 : Int).toNat a) 138 (st 135 3 : Int).toNat b) 139 (st 135 3 : Int).toNat mm) 140 (a * 8 + b : Int).toNat (st 135 3)) 140 (b * 8 + a : Int).toNat (st 135 3)) 135 3 ((st 135 3) + 1))
theorem ct_cAddStreetB_m {a b mm : Int} {st : zS} {Q Q' : zQ} (hQ : ∀ r st', Q r st' → Q' r st') (h : ct_cAddStreetB a b mm st Q) : ct_cAddStreetB a b mm st Q' := ⟨h.1, hQ _ _ (h.2)⟩
def k_cAddStreetB : zCall := fun _ as st Q => match as with
  | [.inr (.inr (.inl z_o)), .inl a, .inl b, .inl mm] => z_o = 135 ∧ ct_cAddStreetB a b mm st Q
  | _ => False
def rq_cAddThingB (w : Int) (a : Int) (mm : Int) (st : zS) : Prop := gInv zgt st ∧ (-2147483648 ≤ w ∧ w ≤ 2147483647 ∧ st 135 8 < 8 ∧ 0 ≤ a ∧ a ≤ 7 ∧ 0 ≤ mm ∧ mm ≤ 9)
def ct_cAddThingB (w : Int) (a : Int) (mm : Int) (st : zS) (Q : zQ) : Prop := rq_cAddThingB w a mm st ∧ Q (some (.inl 1)) (zup (zup (zup (zup st 141 (st 135 8 : Int).toNat w) 142 (st 135 8 : Int).toNat a) 143 (st 135 8 : Int).toNat mm) 135 8 ((st 135 8) + 1))
theorem ct_cAddThingB_m {w a mm : Int} {st : zS} {Q Q' : zQ} (hQ : ∀ r st', Q r st' → Q' r st') (h : ct_cAddThingB w a mm st Q) : ct_cAddThingB w a mm st Q' := ⟨h.1, hQ _ _ (h.2)⟩
def k_cAddThingB : zCall := fun _ as st Q => match as with
  | [.inr (.inr (.inl z_o)), .inl w, .inl a, .inl mm] => z_o = 135 ∧ ct_cAddThingB w a mm st Q
  | _ => False
def rq_cAppendB (a : Int) (mm : Int) (st : zS) : Prop := gInv zgt st ∧ (st 144 2 < 30 ∧ 0 ≤ a ∧ a ≤ 7 ∧ 0 ≤ mm ∧ mm ≤ 30)
def ct_cAppendB (a : Int) (mm : Int) (st : zS) (Q : zQ) : Prop := rq_cAppendB a mm st ∧ Q (some (.inl 1)) (zup (zup (zup st 145 (st 144 2 : Int).toNat a) 146 (st 144 2 : Int).toNat mm) 144 2 ((st 144 2) + 1))
theorem ct_cAppendB_m {a mm : Int} {st : zS} {Q Q' : zQ} (hQ : ∀ r st', Q r st' → Q' r st') (h : ct_cAppendB a mm st Q) : ct_cAppendB a mm st Q' := ⟨h.1, hQ _ _ (h.2)⟩
def k_cAppendB : zCall := fun _ as st Q => match as with
  | [.inr (.inr (.inl z_o)), .inl a, .inl mm] => z_o = 144 ∧ ct_cAppendB a mm st Q
  | _ => False
section R9m
variable {cl : Nat → zCall}
set_option maxHeartbeats 4000000 in
set_option maxRecDepth 100000 in
theorem c_cPlaceNamedB (hTb : aTb zSh rx_tb cl) {D : Nat} (hD : 1 ≤ D) {w : Int} {st : zS} {Q : zQ} (h : ct_cPlaceNamedB w st Q) : cl D 283 [.inr (.inr (.inl 135)), .inl w] st Q := by
  obtain ⟨d, rfl⟩ : ∃ d, D = d + 1 := ⟨D - 1, by omega⟩
  refine hTb d 283 (rx_m283, 3, 0, 0, 1) rfl _ _ _ (Nat.le_of_ble_eq_true rfl) (fun K hcl hsf hsl => ?_)
  have hcm : zmo (zno) (cl d) := zno_m
  obtain ⟨hR, hQ⟩ := h
  have hG := hR
  have lp : ∀ (u : Nat) (i : Int), (0 ≤ i ∧ i ≤ st 135 1) ∧ (∀ j : Int, 0 ≤ j → j < i → ¬ st 136 j.toNat = w) → (st 135 1 - i).toNat = u → K (rx_find rx_m283 2) [(2, .inl i), (0, .inr (.inr (.inl 135))), (1, .inl w)] [] st := by
    intro u
    induction u using Nat.strongRecOn with
    | _ u ih =>
      intro i hi hu
      obtain ⟨i_lp, n_lp⟩ := hi
      have g1 := g_f135_1 hG
      refine yr1_ok (Rt := Q) (wc := (zno)) (stp := [2]) hcm hcl [] 38 ?_
      show ((st 135 1 ≤ i → Q (some (.inl (-1))) st) ∧ (¬ (st 135 1 ≤ i) → ((0 ≤ i ∧ i < 8) ∧ ((¬ st 136 (i : Int).toNat = w → ((-2147483648 ≤ i + 1 ∧ i + 1 ≤ 2147483647) ∧ K (rx_find rx_m283 2) [(2, .inl (i + 1)), (0, .inr (.inr (.inl 135))), (1, .inl w)] [] st)) ∧ (¬ (¬ st 136 (i : Int).toNat = w) → Q (some (.inl i)) st)))))
      refine ⟨fun h2 => ?_, fun h2 => ?_⟩
      · have g3 := g_a136 hG (((-1) : Int) : Int).toNat
        exact hQ _ (show (0 ≤ ((-1) : Int) ∧ ((-1) : Int) < st 135 1 ∧ st 136 (((-1) : Int) : Int).toNat = w ∧ ∀ j : Int, 0 ≤ j → j < ((-1) : Int) → ¬ st 136 j.toNat = w) ∨ (((-1) : Int) = -1 ∧ ∀ j : Int, 0 ≤ j → j < st 135 1 → ¬ st 136 j.toNat = w) from Or.inr ⟨rfl, fun j z1 z2 => n_lp j z1 (by omega)⟩)
      · have g4 := g_a136 hG (i : Int).toNat
        refine ⟨by omega, ?_⟩
        refine ⟨fun h5 => ?_, fun h5 => ?_⟩
        · refine ⟨by omega, ?_⟩
          exact ih _ (show (st 135 1 - (i + 1) : Int).toNat < u from by omega) (i + 1) ⟨(show 0 ≤ (i + 1) ∧ (i + 1) ≤ st 135 1 from by omega), (show ∀ j : Int, 0 ≤ j → j < (i + 1) → ¬ st 136 j.toNat = w from fun j z1 z2 => by
          by_cases z3 : j = i
          · rw [z3]; omega
          · exact n_lp j z1 (by omega))⟩ rfl
        · exact hQ _ (show (0 ≤ i ∧ i < st 135 1 ∧ st 136 (i : Int).toNat = w ∧ ∀ j : Int, 0 ≤ j → j < i → ¬ st 136 j.toNat = w) ∨ (i = -1 ∧ ∀ j : Int, 0 ≤ j → j < st 135 1 → ¬ st 136 j.toNat = w) from Or.inl ⟨by omega, by omega, by omega, n_lp⟩)
  have g6 := g_f135_1 hG
  refine yr1_ok (Rt := Q) (wc := (zno)) (stp := [2]) hcm hcl [] 38 ?_
  show K (rx_find rx_m283 2) [(2, .inl 0), (0, .inr (.inr (.inl 135))), (1, .inl w)] [] st
  exact lp _ 0 ⟨(show 0 ≤ (0 : Int) ∧ (0 : Int) ≤ st 135 1 from by omega), (show ∀ j : Int, 0 ≤ j → j < (0 : Int) → ¬ st 136 j.toNat = w from fun j z1 z2 => by omega)⟩ rfl
theorem k_cPlaceNamedB_m (hTb : aTb zSh rx_tb cl) {D : Nat} (hD : 1 ≤ D) : ∀ as st (Q Q' : zQ), (∀ r st', Q r st' → Q' r st') → k_cPlaceNamedB 283 as st Q → cl D 283 as st Q' := by
  intro as st Q Q' hQ h
  unfold k_cPlaceNamedB at h
  split at h
  · obtain ⟨rfl, h⟩ := h
    exact c_cPlaceNamedB hTb hD (ct_cPlaceNamedB_m hQ h)
  · exact h.elim
set_option maxHeartbeats 4000000 in
set_option maxRecDepth 100000 in
theorem c_cIsNamedB (hTb : aTb zSh rx_tb cl) {D : Nat} (hD : 2 ≤ D) {w : Int} {st : zS} {Q : zQ} (h : ct_cIsNamedB w st Q) : cl D 284 [.inr (.inr (.inl 135)), .inl w] st Q := by
  obtain ⟨d, rfl⟩ : ∃ d, D = d + 1 := ⟨D - 1, by omega⟩
  refine hTb d 284 (rx_m284, 3, 0, 0, 2) rfl _ _ _ (Nat.le_of_ble_eq_true rfl) (fun K hcl hsf hsl => ?_)
  have hcm : zmo (wcL [(283, k_cPlaceNamedB)]) (cl d) := (wcL_m (wm_cons (k_cPlaceNamedB_m hTb (by omega)) wm_nil))
  obtain ⟨hR, hQ⟩ := h
  have hG := hR
  have lp : ∀ (u : Nat) (i : Int), (0 ≤ i ∧ i ≤ st 135 8) ∧ (∀ j : Int, 0 ≤ j → j < i → ¬ st 141 j.toNat = w) → (st 135 8 - i).toNat = u → K (rx_find rx_m284 2) [(2, .inl i), (0, .inr (.inr (.inl 135))), (1, .inl w)] [] st := by
    intro u
    induction u using Nat.strongRecOn with
    | _ u ih =>
      intro i hi hu
      obtain ⟨i_lp, n_lp⟩ := hi
      have g1 := g_f135_8 hG
      refine yr1_ok (Rt := Q) (wc := (wcL [(283, k_cPlaceNamedB)])) (stp := [2]) hcm hcl [] 45 ?_
      show ((st 135 8 ≤ i → (135 = 135 ∧ (rq_cPlaceNamedB w st ∧ (∀ (r2 : Int), en_cPlaceNamedB w st r2 → ((r2 = ((-1) : Int) → ((0 = (0 : Int) ∨ 0 = (1 : Int)) ∧ Q (some (.inl 0)) st)) ∧ (¬ (r2 = ((-1) : Int)) → ((1 = (0 : Int) ∨ 1 = (1 : Int)) ∧ Q (some (.inl 1)) st))))))) ∧ (¬ (st 135 8 ≤ i) → ((0 ≤ i ∧ i < 8) ∧ ((¬ st 141 (i : Int).toNat = w → ((-2147483648 ≤ i + 1 ∧ i + 1 ≤ 2147483647) ∧ K (rx_find rx_m284 2) [(2, .inl (i + 1)), (0, .inr (.inr (.inl 135))), (1, .inl w)] [] st)) ∧ (¬ (¬ st 141 (i : Int).toNat = w) → ((1 = (0 : Int) ∨ 1 = (1 : Int)) ∧ Q (some (.inl 1)) st))))))
      refine ⟨fun h3 => ?_, fun h3 => ?_⟩
      · refine ⟨rfl, hG, fun r2 q2 => ?_⟩
        have e2 := q2
        change (0 ≤ r2 ∧ r2 < st 135 1 ∧ st 136 (r2 : Int).toNat = w ∧ ∀ j : Int, 0 ≤ j → j < r2 → ¬ st 136 j.toNat = w) ∨ (r2 = -1 ∧ ∀ j : Int, 0 ≤ j → j < st 135 1 → ¬ st 136 j.toNat = w) at e2
        have g4 := g_f135_1 hG
        have g5 := g_a136 hG (r2 : Int).toNat
        refine ⟨fun h6 => ?_, fun h6 => ?_⟩
        · refine ⟨by omega, ?_⟩
          exact hQ _ (show ((0 : Int) = 0 ∧ FrN (tn 135 st) w) ∨ ((0 : Int) = 1 ∧ ¬ FrN (tn 135 st) w) from (by
            rcases e2 with ⟨z1, z2, z3, z4⟩ | ⟨z1, z2⟩
            · exfalso; omega
            · exact Or.inl ⟨rfl, z2, fun j y1 y2 => n_lp j y1 (by have y3 : j < st 135 8 := y2; omega)⟩))
        · refine ⟨by omega, ?_⟩
          exact hQ _ (show ((1 : Int) = 0 ∧ FrN (tn 135 st) w) ∨ ((1 : Int) = 1 ∧ ¬ FrN (tn 135 st) w) from (by
            rcases e2 with ⟨z1, z2, z3, z4⟩ | ⟨z1, z2⟩
            · exact Or.inr ⟨rfl, fun z => z.1 _ z1 z2 z3⟩
            · exfalso; omega))
      · have g7 := g_a141 hG (i : Int).toNat
        refine ⟨by omega, ?_⟩
        refine ⟨fun h8 => ?_, fun h8 => ?_⟩
        · refine ⟨by omega, ?_⟩
          exact ih _ (show (st 135 8 - (i + 1) : Int).toNat < u from by omega) (i + 1) ⟨(show 0 ≤ (i + 1) ∧ (i + 1) ≤ st 135 8 from by omega), (show ∀ j : Int, 0 ≤ j → j < (i + 1) → ¬ st 141 j.toNat = w from fun j z1 z2 => by
          by_cases z3 : j = i
          · rw [z3]; omega
          · exact n_lp j z1 (by omega))⟩ rfl
        · refine ⟨by omega, ?_⟩
          exact hQ _ (show ((1 : Int) = 0 ∧ FrN (tn 135 st) w) ∨ ((1 : Int) = 1 ∧ ¬ FrN (tn 135 st) w) from Or.inr ⟨rfl, fun z => z.2 i (by omega) (show i < st 135 8 from by omega) (show st 141 (i : Int).toNat = w from by omega)⟩)
  have g9 := g_f135_8 hG
  refine yr1_ok (Rt := Q) (wc := (wcL [(283, k_cPlaceNamedB)])) (stp := [2]) hcm hcl [] 45 ?_
  show K (rx_find rx_m284 2) [(2, .inl 0), (0, .inr (.inr (.inl 135))), (1, .inl w)] [] st
  exact lp _ 0 ⟨(show 0 ≤ (0 : Int) ∧ (0 : Int) ≤ st 135 8 from by omega), (show ∀ j : Int, 0 ≤ j → j < (0 : Int) → ¬ st 141 j.toNat = w from fun j z1 z2 => by omega)⟩ rfl
theorem k_cIsNamedB_m (hTb : aTb zSh rx_tb cl) {D : Nat} (hD : 2 ≤ D) : ∀ as st (Q Q' : zQ), (∀ r st', Q r st' → Q' r st') → k_cIsNamedB 284 as st Q → cl D 284 as st Q' := by
  intro as st Q Q' hQ h
  unfold k_cIsNamedB at h
  split at h
  · obtain ⟨rfl, h⟩ := h
    exact c_cIsNamedB hTb hD (ct_cIsNamedB_m hQ h)
  · exact h.elim
set_option maxHeartbeats 4000000 in
set_option maxRecDepth 100000 in
theorem c_cIsSpotB (hTb : aTb zSh rx_tb cl) {D : Nat} (hD : 1 ≤ D) {a : Int} {st : zS} {Q : zQ} (h : ct_cIsSpotB a st Q) : cl D 285 [.inr (.inr (.inl 135)), .inl a] st Q := by
  obtain ⟨d, rfl⟩ : ∃ d, D = d + 1 := ⟨D - 1, by omega⟩
  refine hTb d 285 (rx_m285, 2, 0, 0, 2) rfl _ _ _ (Nat.le_of_ble_eq_true rfl) (fun K hcl hsf hsl => ?_)
  have hcm : zmo (zno) (cl d) := zno_m
  have hQ := h
  refine yr1_ok (Rt := Q) (wc := (zno)) (stp := []) hcm hcl [] 30 ?_
  show ((a < (0 : Int) → ((0 = (0 : Int) ∨ 0 = (1 : Int)) ∧ Q (some (.inl 0)) st)) ∧ (¬ (a < (0 : Int)) → ((st 135 1 ≤ a → ((0 = (0 : Int) ∨ 0 = (1 : Int)) ∧ Q (some (.inl 0)) st)) ∧ (¬ (st 135 1 ≤ a) → ((1 = (0 : Int) ∨ 1 = (1 : Int)) ∧ Q (some (.inl 1)) st)))))
  refine ⟨fun h1 => ?_, fun h1 => ?_⟩
  · refine ⟨by omega, ?_⟩
    exact hQ _ (show ((0 : Int) = 0 ∨ (0 : Int) = 1) ∧ ((0 : Int) = 1 ↔ 0 ≤ a ∧ a < st 135 1) from by omega)
  · refine ⟨fun h2 => ?_, fun h2 => ?_⟩
    · refine ⟨by omega, ?_⟩
      exact hQ _ (show ((0 : Int) = 0 ∨ (0 : Int) = 1) ∧ ((0 : Int) = 1 ↔ 0 ≤ a ∧ a < st 135 1) from by omega)
    · refine ⟨by omega, ?_⟩
      exact hQ _ (show ((1 : Int) = 0 ∨ (1 : Int) = 1) ∧ ((1 : Int) = 1 ↔ 0 ≤ a ∧ a < st 135 1) from by omega)
theorem k_cIsSpotB_m (hTb : aTb zSh rx_tb cl) {D : Nat} (hD : 1 ≤ D) : ∀ as st (Q Q' : zQ), (∀ r st', Q r st' → Q' r st') → k_cIsSpotB 285 as st Q → cl D 285 as st Q' := by
  intro as st Q Q' hQ h
  unfold k_cIsSpotB at h
  split at h
  · obtain ⟨rfl, h⟩ := h
    exact c_cIsSpotB hTb hD (ct_cIsSpotB_m hQ h)
  · exact h.elim
set_option maxHeartbeats 4000000 in
set_option maxRecDepth 100000 in
theorem c_cBetweenB (hTb : aTb zSh rx_tb cl) {D : Nat} (hD : 2 ≤ D) {a b : Int} {st : zS} {Q : zQ} (h : ct_cBetweenB a b st Q) : cl D 286 [.inr (.inr (.inl 135)), .inl a, .inl b] st Q := by
  obtain ⟨d, rfl⟩ : ∃ d, D = d + 1 := ⟨D - 1, by omega⟩
  refine hTb d 286 (rx_m286, 3, 0, 0, 1) rfl _ _ _ (Nat.le_of_ble_eq_true rfl) (fun K hcl hsf hsl => ?_)
  have hcm : zmo (wcL [(285, k_cIsSpotB)]) (cl d) := (wcL_m (wm_cons (k_cIsSpotB_m hTb (by omega)) wm_nil))
  obtain ⟨hR, hQ⟩ := h
  have hG := hR
  have g1 := g_f135_1 hG
  refine yr1_ok (Rt := Q) (wc := (wcL [(285, k_cIsSpotB)])) (stp := []) hcm hcl [] 39 ?_
  show (135 = 135 ∧ (∀ (r2 : Int), en_cIsSpotB a st r2 → ((r2 = (0 : Int) → Q (some (.inl (-1))) st) ∧ (¬ (r2 = (0 : Int)) → (135 = 135 ∧ (∀ (r3 : Int), en_cIsSpotB b st r3 → ((r3 = (0 : Int) → Q (some (.inl (-1))) st) ∧ (¬ (r3 = (0 : Int)) → ((-2147483648 ≤ a * 8 ∧ a * 8 ≤ 2147483647) ∧ ((-2147483648 ≤ (a * 8) + b ∧ (a * 8) + b ≤ 2147483647) ∧ ((0 ≤ (a * 8) + b ∧ (a * 8) + b < 64) ∧ Q (some (.inl (st 140 ((a * 8) + b : Int).toNat))) st)))))))))))
  refine ⟨rfl, fun r2 q2 => ?_⟩
  have b2 := q2
  change (r2 = 0 ∨ r2 = 1) ∧ (r2 = 1 ↔ 0 ≤ a ∧ a < st 135 1) at b2
  refine ⟨fun h4 => ?_, fun h4 => ?_⟩
  · have g5 := g_a140 hG (a * 8 + b : Int).toNat
    exact hQ _ (show (0 ≤ a ∧ a < st 135 1 ∧ 0 ≤ b ∧ b < st 135 1 → ((-1) : Int) = st 140 (a * 8 + b : Int).toNat) ∧ (¬ (0 ≤ a ∧ a < st 135 1 ∧ 0 ≤ b ∧ b < st 135 1) → ((-1) : Int) = -1) from by omega)
  · refine ⟨rfl, fun r3 q3 => ?_⟩
    have b3 := q3
    change (r3 = 0 ∨ r3 = 1) ∧ (r3 = 1 ↔ 0 ≤ b ∧ b < st 135 1) at b3
    refine ⟨fun h6 => ?_, fun h6 => ?_⟩
    · have g7 := g_a140 hG (a * 8 + b : Int).toNat
      exact hQ _ (show (0 ≤ a ∧ a < st 135 1 ∧ 0 ≤ b ∧ b < st 135 1 → ((-1) : Int) = st 140 (a * 8 + b : Int).toNat) ∧ (¬ (0 ≤ a ∧ a < st 135 1 ∧ 0 ≤ b ∧ b < st 135 1) → ((-1) : Int) = -1) from by omega)
    · refine ⟨by omega, ?_⟩
      refine ⟨by omega, ?_⟩
      have g8 := g_a140 hG ((a * 8) + b : Int).toNat
      refine ⟨by omega, ?_⟩
      have g9 := g_a140 hG (a * 8 + b : Int).toNat
      exact hQ _ (show (0 ≤ a ∧ a < st 135 1 ∧ 0 ≤ b ∧ b < st 135 1 → (st 140 ((a * 8) + b : Int).toNat) = st 140 (a * 8 + b : Int).toNat) ∧ (¬ (0 ≤ a ∧ a < st 135 1 ∧ 0 ≤ b ∧ b < st 135 1) → (st 140 ((a * 8) + b : Int).toNat) = -1) from by omega)
theorem k_cBetweenB_m (hTb : aTb zSh rx_tb cl) {D : Nat} (hD : 2 ≤ D) : ∀ as st (Q Q' : zQ), (∀ r st', Q r st' → Q' r st') → k_cBetweenB 286 as st Q → cl D 286 as st Q' := by
  intro as st Q Q' hQ h
  unfold k_cBetweenB at h
  split at h
  · obtain ⟨rfl, h⟩ := h
    exact c_cBetweenB hTb hD (ct_cBetweenB_m hQ h)
  · exact h.elim
set_option maxHeartbeats 4000000 in
set_option maxRecDepth 100000 in
theorem c_cLastSpotB (hTb : aTb zSh rx_tb cl) {D : Nat} (hD : 1 ≤ D) {st : zS} {Q : zQ} (h : ct_cLastSpotB  st Q) : cl D 264 [.inr (.inr (.inl 144))] st Q := by
  obtain ⟨d, rfl⟩ : ∃ d, D = d + 1 := ⟨D - 1, by omega⟩
  refine hTb d 264 (rx_m264, 1, 0, 0, 1) rfl _ _ _ (Nat.le_of_ble_eq_true rfl) (fun K hcl hsf hsl => ?_)
  have hcm : zmo (zno) (cl d) := zno_m
  obtain ⟨hR, hQ⟩ := h
  have hG := hR
  have g1 := g_f144_2 hG
  refine yr1_ok (Rt := Q) (wc := (zno)) (stp := []) hcm hcl [] 33 ?_
  show ((st 144 2 ≤ (0 : Int) → Q (some (.inl (-1))) st) ∧ (¬ (st 144 2 ≤ (0 : Int)) → ((-2147483648 ≤ (st 144 2) - 1 ∧ (st 144 2) - 1 ≤ 2147483647) ∧ ((0 ≤ (st 144 2) - 1 ∧ (st 144 2) - 1 < 30) ∧ Q (some (.inl (st 145 ((st 144 2) - 1 : Int).toNat))) st))))
  refine ⟨fun h2 => ?_, fun h2 => ?_⟩
  · have g3 := g_a145 hG (st 144 2 - 1 : Int).toNat
    exact hQ _ (show (0 < st 144 2 → ((-1) : Int) = st 145 (st 144 2 - 1 : Int).toNat) ∧ (st 144 2 ≤ 0 → ((-1) : Int) = -1) from by omega)
  · refine ⟨by omega, ?_⟩
    have g4 := g_a145 hG ((st 144 2) - 1 : Int).toNat
    refine ⟨by omega, ?_⟩
    have g5 := g_a145 hG (st 144 2 - 1 : Int).toNat
    exact hQ _ (show (0 < st 144 2 → (st 145 ((st 144 2) - 1 : Int).toNat) = st 145 (st 144 2 - 1 : Int).toNat) ∧ (st 144 2 ≤ 0 → (st 145 ((st 144 2) - 1 : Int).toNat) = -1) from by omega)
theorem k_cLastSpotB_m (hTb : aTb zSh rx_tb cl) {D : Nat} (hD : 1 ≤ D) : ∀ as st (Q Q' : zQ), (∀ r st', Q r st' → Q' r st') → k_cLastSpotB 264 as st Q → cl D 264 as st Q' := by
  intro as st Q Q' hQ h
  unfold k_cLastSpotB at h
  split at h
  · obtain ⟨rfl, h⟩ := h
    exact c_cLastSpotB hTb hD (ct_cLastSpotB_m hQ h)
  · exact h.elim
set_option maxHeartbeats 4000000 in
set_option maxRecDepth 100000 in
theorem c_cCanFollowB (hTb : aTb zSh rx_tb cl) {D : Nat} (hD : 3 ≤ D) {a : Int} {st : zS} {Q : zQ} (h : ct_cCanFollowB a st Q) : cl D 288 [.inr (.inr (.inl 135)), .inr (.inr (.inl 144)), .inl a] st Q := by
  obtain ⟨d, rfl⟩ : ∃ d, D = d + 1 := ⟨D - 1, by omega⟩
  refine hTb d 288 (rx_m288, 3, 0, 0, 2) rfl _ _ _ (Nat.le_of_ble_eq_true rfl) (fun K hcl hsf hsl => ?_)
  have hcm : zmo (wcL [(264, k_cLastSpotB), (286, k_cBetweenB)]) (cl d) := (wcL_m (wm_cons (k_cLastSpotB_m hTb (by omega)) (wm_cons (k_cBetweenB_m hTb (by omega)) wm_nil)))
  obtain ⟨hR, hQ⟩ := h
  obtain ⟨hG, q⟩ := hR
  change 0 ≤ a ∧ a < st 135 1 ∧ ∀ j : Int, 0 ≤ j → j < st 144 2 → 0 ≤ st 145 j.toNat ∧ st 145 j.toNat < st 135 1 at q
  have g1 := g_f135_1 hG
  have g2 := g_f144_2 hG
  refine yr1_ok (Rt := Q) (wc := (wcL [(264, k_cLastSpotB), (286, k_cBetweenB)])) (stp := []) hcm hcl [] 34 ?_
  show ((st 144 2 = (0 : Int) → ((1 = (0 : Int) ∨ 1 = (1 : Int)) ∧ Q (some (.inl 1)) st)) ∧ (¬ (st 144 2 = (0 : Int)) → (144 = 144 ∧ (rq_cLastSpotB  st ∧ (∀ (r3 : Int), en_cLastSpotB  st r3 → (135 = 135 ∧ (rq_cBetweenB r3 a st ∧ (∀ (r4 : Int), en_cBetweenB r3 a st r4 → ((r4 = ((-1) : Int) → ((0 = (0 : Int) ∨ 0 = (1 : Int)) ∧ Q (some (.inl 0)) st)) ∧ (¬ (r4 = ((-1) : Int)) → ((1 = (0 : Int) ∨ 1 = (1 : Int)) ∧ Q (some (.inl 1)) st)))))))))))
  refine ⟨fun h5 => ?_, fun h5 => ?_⟩
  · refine ⟨by omega, ?_⟩
    exact hQ _ (show ((1 : Int) = 1 ∧ (st 144 2 = 0 ∨ ¬ st 140 (8 * st 145 (st 144 2 - 1 : Int).toNat + a : Int).toNat = -1)) ∨ ((1 : Int) = 0 ∧ ¬ (st 144 2 = 0 ∨ ¬ st 140 (8 * st 145 (st 144 2 - 1 : Int).toNat + a : Int).toNat = -1)) from Or.inl ⟨rfl, Or.inl (by omega)⟩)
  · refine ⟨rfl, hG, fun r3 q3 => ?_⟩
    have e3 := q3
    change (0 < st 144 2 → r3 = st 145 (st 144 2 - 1 : Int).toNat) ∧ (st 144 2 ≤ 0 → r3 = -1) at e3
    have g6 := g_a145 hG (st 144 2 - 1 : Int).toNat
    refine ⟨rfl, hG, fun r4 q4 => ?_⟩
    have e4 := q4
    change (0 ≤ r3 ∧ r3 < st 135 1 ∧ 0 ≤ a ∧ a < st 135 1 → r4 = st 140 (r3 * 8 + a : Int).toNat) ∧ (¬ (0 ≤ r3 ∧ r3 < st 135 1 ∧ 0 ≤ a ∧ a < st 135 1) → r4 = -1) at e4
    have g7 := g_a140 hG (r3 * 8 + a : Int).toNat
    refine ⟨fun h8 => ?_, fun h8 => ?_⟩
    · refine ⟨by omega, ?_⟩
      exact hQ _ (show ((0 : Int) = 1 ∧ (st 144 2 = 0 ∨ ¬ st 140 (8 * st 145 (st 144 2 - 1 : Int).toNat + a : Int).toNat = -1)) ∨ ((0 : Int) = 0 ∧ ¬ (st 144 2 = 0 ∨ ¬ st 140 (8 * st 145 (st 144 2 - 1 : Int).toNat + a : Int).toNat = -1)) from (by
            have zq := q.2.2 (st 144 2 - 1) (by omega) (by omega)
            have zi : (8 * st 145 (st 144 2 - 1 : Int).toNat + a : Int).toNat = (st 145 (st 144 2 - 1 : Int).toNat * 8 + a : Int).toNat := by congr 1; omega
            have zl : r3 = st 145 (st 144 2 - 1 : Int).toNat := e3.1 (by omega)
            have zb := e4.1 (by omega)
            rw [zl] at zb
            rw [zi]
            exact Or.inr ⟨rfl, by omega⟩))
    · refine ⟨by omega, ?_⟩
      exact hQ _ (show ((1 : Int) = 1 ∧ (st 144 2 = 0 ∨ ¬ st 140 (8 * st 145 (st 144 2 - 1 : Int).toNat + a : Int).toNat = -1)) ∨ ((1 : Int) = 0 ∧ ¬ (st 144 2 = 0 ∨ ¬ st 140 (8 * st 145 (st 144 2 - 1 : Int).toNat + a : Int).toNat = -1)) from (by
            have zq := q.2.2 (st 144 2 - 1) (by omega) (by omega)
            have zi : (8 * st 145 (st 144 2 - 1 : Int).toNat + a : Int).toNat = (st 145 (st 144 2 - 1 : Int).toNat * 8 + a : Int).toNat := by congr 1; omega
            have zl : r3 = st 145 (st 144 2 - 1 : Int).toNat := e3.1 (by omega)
            have zb := e4.1 (by omega)
            rw [zl] at zb
            rw [zi]
            exact Or.inl ⟨rfl, Or.inr (by omega)⟩))
theorem k_cCanFollowB_m (hTb : aTb zSh rx_tb cl) {D : Nat} (hD : 3 ≤ D) : ∀ as st (Q Q' : zQ), (∀ r st', Q r st' → Q' r st') → k_cCanFollowB 288 as st Q → cl D 288 as st Q' := by
  intro as st Q Q' hQ h
  unfold k_cCanFollowB at h
  split at h
  · obtain ⟨rfl, rfl, h⟩ := h
    exact c_cCanFollowB hTb hD (ct_cCanFollowB_m hQ h)
  · exact h.elim
set_option maxHeartbeats 4000000 in
set_option maxRecDepth 100000 in
theorem c_cAddPlaceB (hTb : aTb zSh rx_tb cl) {D : Nat} (hD : 1 ≤ D) {w : Int} {st : zS} {Q : zQ} (h : ct_cAddPlaceB w st Q) : cl D 279 [.inr (.inr (.inl 135)), .inl w] st Q := by
  obtain ⟨d, rfl⟩ : ∃ d, D = d + 1 := ⟨D - 1, by omega⟩
  refine hTb d 279 (rx_m279, 2, 0, 0, 2) rfl _ _ _ (Nat.le_of_ble_eq_true rfl) (fun K hcl hsf hsl => ?_)
  have hcm : zmo (zno) (cl d) := zno_m
  obtain ⟨hR, hQ⟩ := h
  obtain ⟨hG, hr1⟩ := hR
  change -2147483648 ≤ w ∧ w ≤ 2147483647 ∧ st 135 1 < 8 at hr1
  have g1 := g_f135_1 hG
  refine yr1_ok (Rt := Q) (wc := (zno)) (stp := []) hcm hcl [] 40 ?_
  show ((st 135 1 < (8 : Int) → ((0 ≤ st 135 1 ∧ st 135 1 < 8) ∧ ((-2147483648 ≤ (st 135 1) + 1 ∧ (st 135 1) + 1 ≤ 2147483647) ∧ ((1 = (0 : Int) ∨ 1 = (1 : Int)) ∧ Q (some (.inl 1)) (zup (zup st 136 (st 135 1 : Int).toNat w) 135 1 ((st 135 1) + 1)))))) ∧ (¬ (st 135 1 < (8 : Int)) → _))
  refine ⟨fun h2 => ?_, fun h2 => (by exfalso; omega)⟩
  refine ⟨by omega, ?_⟩
  refine ⟨by omega, ?_⟩
  refine ⟨by omega, ?_⟩
  exact hQ
theorem k_cAddPlaceB_m (hTb : aTb zSh rx_tb cl) {D : Nat} (hD : 1 ≤ D) : ∀ as st (Q Q' : zQ), (∀ r st', Q r st' → Q' r st') → k_cAddPlaceB 279 as st Q → cl D 279 as st Q' := by
  intro as st Q Q' hQ h
  unfold k_cAddPlaceB at h
  split at h
  · obtain ⟨rfl, h⟩ := h
    exact c_cAddPlaceB hTb hD (ct_cAddPlaceB_m hQ h)
  · exact h.elim
set_option maxHeartbeats 4000000 in
set_option maxRecDepth 100000 in
theorem c_cAddStreetB (hTb : aTb zSh rx_tb cl) {D : Nat} (hD : 2 ≤ D) {a b mm : Int} {st : zS} {Q : zQ} (h : ct_cAddStreetB a b mm st Q) : cl D 280 [.inr (.inr (.inl 135)), .inl a, .inl b, .inl mm] st Q := by
  obtain ⟨d, rfl⟩ : ∃ d, D = d + 1 := ⟨D - 1, by omega⟩
  refine hTb d 280 (rx_m280, 4, 0, 0, 2) rfl _ _ _ (Nat.le_of_ble_eq_true rfl) (fun K hcl hsf hsl => ?_)
  have hcm : zmo (wcL [(285, k_cIsSpotB)]) (cl d) := (wcL_m (wm_cons (k_cIsSpotB_m hTb (by omega)) wm_nil))
  obtain ⟨hR, hQ⟩ := h
  obtain ⟨hG, hr1⟩ := hR
  change st 135 3 < 14 ∧ 0 ≤ a ∧ a < st 135 1 ∧ 0 ≤ b ∧ b < st 135 1 ∧ 0 ≤ mm ∧ mm ≤ 99 at hr1
  have g1 := g_f135_3 hG
  have g2 := g_f135_1 hG
  refine yr1_ok (Rt := Q) (wc := (wcL [(285, k_cIsSpotB)])) (stp := []) hcm hcl [] 80 ?_
  show (((14 : Int) ≤ st 135 3 → _) ∧ (¬ ((14 : Int) ≤ st 135 3) → (135 = 135 ∧ (∀ (r3 : Int), en_cIsSpotB a st r3 → ((r3 = (0 : Int) → _) ∧ (¬ (r3 = (0 : Int)) → (135 = 135 ∧ (∀ (r4 : Int), en_cIsSpotB b st r4 → ((¬ r4 = (0 : Int) → ((0 ≤ st 135 3 ∧ st 135 3 < 14) ∧ ((0 ≤ st 135 3 ∧ st 135 3 < 14) ∧ ((0 ≤ st 135 3 ∧ st 135 3 < 14) ∧ ((-2147483648 ≤ a * 8 ∧ a * 8 ≤ 2147483647) ∧ ((-2147483648 ≤ (a * 8) + b ∧ (a * 8) + b ≤ 2147483647) ∧ ((0 ≤ (a * 8) + b ∧ (a * 8) + b < 64) ∧ ((-2147483648 ≤ b * 8 ∧ b * 8 ≤ 2147483647) ∧ ((-2147483648 ≤ (b * 8) + a ∧ (b * 8) + a ≤ 2147483647) ∧ ((0 ≤ (b * 8) + a ∧ (b * 8) + a < 64) ∧ ((-2147483648 ≤ (st 135 3) + 1 ∧ (st 135 3) + 1 ≤ 2147483647) ∧ ((1 = (0 : Int) ∨ 1 = (1 : Int)) ∧ Q (some (.inl 1)) (zup (zup (zup (zup (zup (zup st 137 (st 135 3 : Int).toNat a) 138 (st 135 3 : Int).toNat b) 139 (st 135 3 : Int).toNat mm) 140 ((a * 8) + b : Int).toNat (st 135 3)) 140 ((b * 8) + a : Int).toNat (st 135 3)) 135 3 ((st 135 3) + 1)))))))))))))) ∧ (¬ (¬ r4 = (0 : Int)) → _))))))))))
  refine ⟨fun h5 => (by exfalso; omega), fun h5 => ?_⟩
  refine ⟨rfl, fun r3 q3 => ?_⟩
  have b3 := q3
  change (r3 = 0 ∨ r3 = 1) ∧ (r3 = 1 ↔ 0 ≤ a ∧ a < st 135 1) at b3
  refine ⟨fun h6 => (by exfalso; omega), fun h6 => ?_⟩
  refine ⟨rfl, fun r4 q4 => ?_⟩
  have b4 := q4
  change (r4 = 0 ∨ r4 = 1) ∧ (r4 = 1 ↔ 0 ≤ b ∧ b < st 135 1) at b4
  refine ⟨fun h7 => ?_, fun h7 => (by exfalso; omega)⟩
  refine ⟨by omega, ?_⟩
  refine ⟨by omega, ?_⟩
  refine ⟨by omega, ?_⟩
  refine ⟨by omega, ?_⟩
  refine ⟨by omega, ?_⟩
  refine ⟨by omega, ?_⟩
  refine ⟨by omega, ?_⟩
  refine ⟨by omega, ?_⟩
  refine ⟨by omega, ?_⟩
  refine ⟨by omega, ?_⟩
  refine ⟨by omega, ?_⟩
  exact hQ
theorem k_cAddStreetB_m (hTb : aTb zSh rx_tb cl) {D : Nat} (hD : 2 ≤ D) : ∀ as st (Q Q' : zQ), (∀ r st', Q r st' → Q' r st') → k_cAddStreetB 280 as st Q → cl D 280 as st Q' := by
  intro as st Q Q' hQ h
  unfold k_cAddStreetB at h
  split at h
  · obtain ⟨rfl, h⟩ := h
    exact c_cAddStreetB hTb hD (ct_cAddStreetB_m hQ h)
  · exact h.elim
set_option maxHeartbeats 4000000 in
set_option maxRecDepth 100000 in
theorem c_cAddThingB (hTb : aTb zSh rx_tb cl) {D : Nat} (hD : 1 ≤ D) {w a mm : Int} {st : zS} {Q : zQ} (h : ct_cAddThingB w a mm st Q) : cl D 281 [.inr (.inr (.inl 135)), .inl w, .inl a, .inl mm] st Q := by
  obtain ⟨d, rfl⟩ : ∃ d, D = d + 1 := ⟨D - 1, by omega⟩
  refine hTb d 281 (rx_m281, 4, 0, 0, 2) rfl _ _ _ (Nat.le_of_ble_eq_true rfl) (fun K hcl hsf hsl => ?_)
  have hcm : zmo (zno) (cl d) := zno_m
  obtain ⟨hR, hQ⟩ := h
  obtain ⟨hG, hr1⟩ := hR
  change -2147483648 ≤ w ∧ w ≤ 2147483647 ∧ st 135 8 < 8 ∧ 0 ≤ a ∧ a ≤ 7 ∧ 0 ≤ mm ∧ mm ≤ 9 at hr1
  have g1 := g_f135_8 hG
  refine yr1_ok (Rt := Q) (wc := (zno)) (stp := []) hcm hcl [] 52 ?_
  show ((st 135 8 < (8 : Int) → ((0 ≤ st 135 8 ∧ st 135 8 < 8) ∧ ((0 ≤ st 135 8 ∧ st 135 8 < 8) ∧ ((0 ≤ st 135 8 ∧ st 135 8 < 8) ∧ ((-2147483648 ≤ (st 135 8) + 1 ∧ (st 135 8) + 1 ≤ 2147483647) ∧ ((1 = (0 : Int) ∨ 1 = (1 : Int)) ∧ Q (some (.inl 1)) (zup (zup (zup (zup st 141 (st 135 8 : Int).toNat w) 142 (st 135 8 : Int).toNat a) 143 (st 135 8 : Int).toNat mm) 135 8 ((st 135 8) + 1)))))))) ∧ (¬ (st 135 8 < (8 : Int)) → _))
  refine ⟨fun h2 => ?_, fun h2 => (by exfalso; omega)⟩
  refine ⟨by omega, ?_⟩
  refine ⟨by omega, ?_⟩
  refine ⟨by omega, ?_⟩
  refine ⟨by omega, ?_⟩
  refine ⟨by omega, ?_⟩
  exact hQ
theorem k_cAddThingB_m (hTb : aTb zSh rx_tb cl) {D : Nat} (hD : 1 ≤ D) : ∀ as st (Q Q' : zQ), (∀ r st', Q r st' → Q' r st') → k_cAddThingB 281 as st Q → cl D 281 as st Q' := by
  intro as st Q Q' hQ h
  unfold k_cAddThingB at h
  split at h
  · obtain ⟨rfl, h⟩ := h
    exact c_cAddThingB hTb hD (ct_cAddThingB_m hQ h)
  · exact h.elim
set_option maxHeartbeats 4000000 in
set_option maxRecDepth 100000 in
theorem c_cAppendB (hTb : aTb zSh rx_tb cl) {D : Nat} (hD : 1 ≤ D) {a mm : Int} {st : zS} {Q : zQ} (h : ct_cAppendB a mm st Q) : cl D 263 [.inr (.inr (.inl 144)), .inl a, .inl mm] st Q := by
  obtain ⟨d, rfl⟩ : ∃ d, D = d + 1 := ⟨D - 1, by omega⟩
  refine hTb d 263 (rx_m263, 3, 0, 0, 2) rfl _ _ _ (Nat.le_of_ble_eq_true rfl) (fun K hcl hsf hsl => ?_)
  have hcm : zmo (zno) (cl d) := zno_m
  obtain ⟨hR, hQ⟩ := h
  obtain ⟨hG, hr1⟩ := hR
  change st 144 2 < 30 ∧ 0 ≤ a ∧ a ≤ 7 ∧ 0 ≤ mm ∧ mm ≤ 30 at hr1
  have g1 := g_f144_2 hG
  refine yr1_ok (Rt := Q) (wc := (zno)) (stp := []) hcm hcl [] 46 ?_
  show ((st 144 2 < (30 : Int) → ((0 ≤ st 144 2 ∧ st 144 2 < 30) ∧ ((0 ≤ st 144 2 ∧ st 144 2 < 30) ∧ ((-2147483648 ≤ (st 144 2) + 1 ∧ (st 144 2) + 1 ≤ 2147483647) ∧ ((1 = (0 : Int) ∨ 1 = (1 : Int)) ∧ Q (some (.inl 1)) (zup (zup (zup st 145 (st 144 2 : Int).toNat a) 146 (st 144 2 : Int).toNat mm) 144 2 ((st 144 2) + 1))))))) ∧ (¬ (st 144 2 < (30 : Int)) → _))
  refine ⟨fun h2 => ?_, fun h2 => (by exfalso; omega)⟩
  refine ⟨by omega, ?_⟩
  refine ⟨by omega, ?_⟩
  refine ⟨by omega, ?_⟩
  refine ⟨by omega, ?_⟩
  exact hQ
theorem k_cAppendB_m (hTb : aTb zSh rx_tb cl) {D : Nat} (hD : 1 ≤ D) : ∀ as st (Q Q' : zQ), (∀ r st', Q r st' → Q' r st') → k_cAppendB 263 as st Q → cl D 263 as st Q' := by
  intro as st Q Q' hQ h
  unfold k_cAppendB at h
  split at h
  · obtain ⟨rfl, h⟩ := h
    exact c_cAppendB hTb hD (ct_cAppendB_m hQ h)
  · exact h.elim
end R9m
