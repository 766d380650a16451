/-! printed by wip/p32/libn.py: years asked about -/
theorem shr_ok (n : Nat) : -2147483648 ≤ zd (n % 4294967296) ∧ zd (n % 4294967296) ≤ 2147483647 := zd_ok (Nat.mod_lt n (by decide))
def rq_isAsWas  (st : zS) : Prop := gInv zgt st
def ct_isAsWas  (st : zS) (Q : zQ) : Prop := rq_isAsWas  st ∧ (∀ (r : Int), Q (some (.inl r)) st)
theorem ct_isAsWas_m {st : zS} {Q Q' : zQ} (hQ : ∀ r st', Q r st' → Q' r st') (h : ct_isAsWas  st Q) : ct_isAsWas  st Q' := ⟨h.1, fun x0 => hQ _ _ (h.2 x0)⟩
def k_isAsWas : zCall := fun _ as st Q => match as with
  | [.inr (.inr (.inl z_o))] => z_o = 170 ∧ ct_isAsWas  st Q
  | _ => False
theorem k_isAsWas_mon : zmon k_isAsWas := by
  intro nu as st Q Q' hQ h
  unfold k_isAsWas at h ⊢
  split at h
  · exact ⟨h.1, ct_isAsWas_m hQ h.2⟩
  · exact h.elim
def rq_year (x : Int) (st : zS) : Prop := gInv zgt st ∧ zJ st
def en_year (x : Int) (st : zS) (r : Int) (s1 : zS) : Prop := gInv zgt s1 ∧ zJ s1 ∧ s1 170 1 = st 170 1 ∧ zV0 st s1
def ct_year (x : Int) (st : zS) (Q : zQ) : Prop := rq_year x st ∧ (∀ (r : Int) (s1 : zS), en_year x st r s1 → Q (some (.inl r)) s1)
theorem ct_year_m {x : Int} {st : zS} {Q Q' : zQ} (hQ : ∀ r st', Q r st' → Q' r st') (h : ct_year x st Q) : ct_year x st Q' := ⟨h.1, fun x0 x1 x2 => hQ _ _ (h.2 x0 x1 x2)⟩
def k_year : zCall := fun _ as st Q => match as with
  | [.inr (.inr (.inl z_o)), .inl x] => z_o = 170 ∧ ct_year x st Q
  | _ => False
theorem k_year_mon : zmon k_year := by
  intro nu as st Q Q' hQ h
  unfold k_year at h ⊢
  split at h
  · exact ⟨h.1, ct_year_m hQ h.2⟩
  · exact h.elim
def rq_goes (k : Int) (x : Int) (st : zS) : Prop := gInv zgt st ∧ zJ st
def en_goes (k : Int) (x : Int) (st : zS) (r : Int) (s1 : zS) : Prop := gInv zgt s1 ∧ zJ s1 ∧ s1 170 1 = st 170 1 ∧ zV0 st s1
def ct_goes (k : Int) (x : Int) (st : zS) (Q : zQ) : Prop := rq_goes k x st ∧ (∀ (r : Int) (s1 : zS), en_goes k x st r s1 → Q (some (.inl r)) s1)
theorem ct_goes_m {k x : Int} {st : zS} {Q Q' : zQ} (hQ : ∀ r st', Q r st' → Q' r st') (h : ct_goes k x st Q) : ct_goes k x st Q' := ⟨h.1, fun x0 x1 x2 => hQ _ _ (h.2 x0 x1 x2)⟩
def k_goes : zCall := fun _ as st Q => match as with
  | [.inr (.inr (.inl z_o)), .inl k, .inl x] => z_o = 170 ∧ ct_goes k x st Q
  | _ => False
theorem k_goes_mon : zmon k_goes := by
  intro nu as st Q Q' hQ h
  unfold k_goes at h ⊢
  split at h
  · exact ⟨h.1, ct_goes_m hQ h.2⟩
  · exact h.elim
def rq_wall  (st : zS) : Prop := gInv zgt st ∧ zJ st
def en_wall  (st : zS) (r : Int) (s1 : zS) : Prop := gInv zgt s1 ∧ zJ s1 ∧ s1 170 1 = st 170 1 ∧ zV0 st s1
def ct_wall  (st : zS) (Q : zQ) : Prop := rq_wall  st ∧ (∀ (r : Int) (s1 : zS), en_wall  st r s1 → Q (some (.inl r)) s1)
theorem ct_wall_m {st : zS} {Q Q' : zQ} (hQ : ∀ r st', Q r st' → Q' r st') (h : ct_wall  st Q) : ct_wall  st Q' := ⟨h.1, fun x0 x1 x2 => hQ _ _ (h.2 x0 x1 x2)⟩
def k_wall : zCall := fun _ as st Q => match as with
  | [.inr (.inr (.inl z_o))] => z_o = 170 ∧ ct_wall  st Q
  | _ => False
theorem k_wall_mon : zmon k_wall := by
  intro nu as st Q Q' hQ h
  unfold k_wall at h ⊢
  split at h
  · exact ⟨h.1, ct_wall_m hQ h.2⟩
  · exact h.elim
def rq_away (n : Int) (st : zS) : Prop := gInv zgt st ∧ zJ st
def en_away (n : Int) (st : zS) (r : Int) (s1 : zS) : Prop := gInv zgt s1 ∧ zJ s1 ∧ s1 170 1 = st 170 1 ∧ zV0 st s1
def ct_away (n : Int) (st : zS) (Q : zQ) : Prop := rq_away n st ∧ (∀ (r : Int) (s1 : zS), en_away n st r s1 → Q (some (.inl r)) s1)
theorem ct_away_m {n : Int} {st : zS} {Q Q' : zQ} (hQ : ∀ r st', Q r st' → Q' r st') (h : ct_away n st Q) : ct_away n st Q' := ⟨h.1, fun x0 x1 x2 => hQ _ _ (h.2 x0 x1 x2)⟩
def k_away : zCall := fun _ as st Q => match as with
  | [.inr (.inr (.inl z_o)), .inl n] => z_o = 170 ∧ ct_away n st Q
  | _ => False
theorem k_away_mon : zmon k_away := by
  intro nu as st Q Q' hQ h
  unfold k_away at h ⊢
  split at h
  · exact ⟨h.1, ct_away_m hQ h.2⟩
  · exact h.elim
def rq_by (p : Int) (st : zS) : Prop := gInv zgt st ∧ zJ st
def en_by (p : Int) (st : zS) (r : Int) (s1 : zS) : Prop := gInv zgt s1 ∧ zJ s1 ∧ s1 170 1 = st 170 1 ∧ zV0 st s1
def ct_by (p : Int) (st : zS) (Q : zQ) : Prop := rq_by p st ∧ (∀ (r : Int) (s1 : zS), en_by p st r s1 → Q (some (.inl r)) s1)
theorem ct_by_m {p : Int} {st : zS} {Q Q' : zQ} (hQ : ∀ r st', Q r st' → Q' r st') (h : ct_by p st Q) : ct_by p st Q' := ⟨h.1, fun x0 x1 x2 => hQ _ _ (h.2 x0 x1 x2)⟩
def k_by : zCall := fun _ as st Q => match as with
  | [.inr (.inr (.inl z_o)), .inl p] => z_o = 170 ∧ ct_by p st Q
  | _ => False
theorem k_by_mon : zmon k_by := by
  intro nu as st Q Q' hQ h
  unfold k_by at h ⊢
  split at h
  · exact ⟨h.1, ct_by_m hQ h.2⟩
  · exact h.elim
def rq_seats (m : Int) (st : zS) : Prop := gInv zgt st ∧ zJ st
def en_seats (m : Int) (st : zS) (r : Int) (s1 : zS) : Prop := gInv zgt s1 ∧ zJ s1 ∧ s1 170 1 = st 170 1 ∧ zV0 st s1
def ct_seats (m : Int) (st : zS) (Q : zQ) : Prop := rq_seats m st ∧ (∀ (r : Int) (s1 : zS), en_seats m st r s1 → Q (some (.inl r)) s1)
theorem ct_seats_m {m : Int} {st : zS} {Q Q' : zQ} (hQ : ∀ r st', Q r st' → Q' r st') (h : ct_seats m st Q) : ct_seats m st Q' := ⟨h.1, fun x0 x1 x2 => hQ _ _ (h.2 x0 x1 x2)⟩
def k_seats : zCall := fun _ as st Q => match as with
  | [.inr (.inr (.inl z_o)), .inl m] => z_o = 170 ∧ ct_seats m st Q
  | _ => False
theorem k_seats_mon : zmon k_seats := by
  intro nu as st Q Q' hQ h
  unfold k_seats at h ⊢
  split at h
  · exact ⟨h.1, ct_seats_m hQ h.2⟩
  · exact h.elim
def rq_later (n : Int) (x : Int) (st : zS) : Prop := gInv zgt st ∧ zJ st
def en_later (n : Int) (x : Int) (st : zS) (r : Int) (s1 : zS) : Prop := gInv zgt s1 ∧ zJ s1 ∧ s1 170 1 = st 170 1 ∧ zV0 st s1
def ct_later (n : Int) (x : Int) (st : zS) (Q : zQ) : Prop := rq_later n x st ∧ (∀ (r : Int) (s1 : zS), en_later n x st r s1 → Q (some (.inl r)) s1)
theorem ct_later_m {n x : Int} {st : zS} {Q Q' : zQ} (hQ : ∀ r st', Q r st' → Q' r st') (h : ct_later n x st Q) : ct_later n x st Q' := ⟨h.1, fun x0 x1 x2 => hQ _ _ (h.2 x0 x1 x2)⟩
def k_later : zCall := fun _ as st Q => match as with
  | [.inr (.inr (.inl z_o)), .inl n, .inl x] => z_o = 170 ∧ ct_later n x st Q
  | _ => False
theorem k_later_mon : zmon k_later := by
  intro nu as st Q Q' hQ h
  unfold k_later at h ⊢
  split at h
  · exact ⟨h.1, ct_later_m hQ h.2⟩
  · exact h.elim
def rq_missed (p : Int) (st : zS) : Prop := gInv zgt st ∧ zJ st
def en_missed (p : Int) (st : zS) (r : Int) (s1 : zS) : Prop := gInv zgt s1 ∧ zJ s1 ∧ s1 170 1 = st 170 1 ∧ zV0 st s1
def ct_missed (p : Int) (st : zS) (Q : zQ) : Prop := rq_missed p st ∧ (∀ (r : Int) (s1 : zS), en_missed p st r s1 → Q (some (.inl r)) s1)
theorem ct_missed_m {p : Int} {st : zS} {Q Q' : zQ} (hQ : ∀ r st', Q r st' → Q' r st') (h : ct_missed p st Q) : ct_missed p st Q' := ⟨h.1, fun x0 x1 x2 => hQ _ _ (h.2 x0 x1 x2)⟩
def k_missed : zCall := fun _ as st Q => match as with
  | [.inr (.inr (.inl z_o)), .inl p] => z_o = 170 ∧ ct_missed p st Q
  | _ => False
theorem k_missed_mon : zmon k_missed := by
  intro nu as st Q Q' hQ h
  unfold k_missed at h ⊢
  split at h
  · exact ⟨h.1, ct_missed_m hQ h.2⟩
  · exact h.elim
def rq_held  (st : zS) : Prop := gInv zgt st ∧ zJ st
def en_held  (st : zS) (r : Int) (s1 : zS) : Prop := gInv zgt s1 ∧ zJ s1 ∧ s1 170 1 = st 170 1 ∧ zV0 st s1
def ct_held  (st : zS) (Q : zQ) : Prop := rq_held  st ∧ (∀ (r : Int) (s1 : zS), en_held  st r s1 → Q (some (.inl r)) s1)
theorem ct_held_m {st : zS} {Q Q' : zQ} (hQ : ∀ r st', Q r st' → Q' r st') (h : ct_held  st Q) : ct_held  st Q' := ⟨h.1, fun x0 x1 x2 => hQ _ _ (h.2 x0 x1 x2)⟩
def k_held : zCall := fun _ as st Q => match as with
  | [.inr (.inr (.inl z_o))] => z_o = 170 ∧ ct_held  st Q
  | _ => False
theorem k_held_mon : zmon k_held := by
  intro nu as st Q Q' hQ h
  unfold k_held at h ⊢
  split at h
  · exact ⟨h.1, ct_held_m hQ h.2⟩
  · exact h.elim
def rq_years (n : Int) (st : zS) : Prop := gInv zgt st ∧ zJ st
def en_years (n : Int) (st : zS) (r : Int) (s1 : zS) : Prop := gInv zgt s1 ∧ zJ s1 ∧ s1 170 1 = st 170 1 ∧ zV0 st s1
def ct_years (n : Int) (st : zS) (Q : zQ) : Prop := rq_years n st ∧ (∀ (r : Int) (s1 : zS), en_years n st r s1 → Q (some (.inl r)) s1)
theorem ct_years_m {n : Int} {st : zS} {Q Q' : zQ} (hQ : ∀ r st', Q r st' → Q' r st') (h : ct_years n st Q) : ct_years n st Q' := ⟨h.1, fun x0 x1 x2 => hQ _ _ (h.2 x0 x1 x2)⟩
def k_years : zCall := fun _ as st Q => match as with
  | [.inr (.inr (.inl z_o)), .inl n] => z_o = 170 ∧ ct_years n st Q
  | _ => False
theorem k_years_mon : zmon k_years := by
  intro nu as st Q Q' hQ h
  unfold k_years at h ⊢
  split at h
  · exact ⟨h.1, ct_years_m hQ h.2⟩
  · exact h.elim
def rq_chance (n : Int) (st : zS) : Prop := gInv zgt st ∧ zJ st
def en_chance (n : Int) (st : zS) (r : Int) (s1 : zS) : Prop := gInv zgt s1 ∧ zJ s1 ∧ s1 170 1 = st 170 1 ∧ zV0 st s1
def ct_chance (n : Int) (st : zS) (Q : zQ) : Prop := rq_chance n st ∧ (∀ (r : Int) (s1 : zS), en_chance n st r s1 → Q (some (.inl r)) s1)
theorem ct_chance_m {n : Int} {st : zS} {Q Q' : zQ} (hQ : ∀ r st', Q r st' → Q' r st') (h : ct_chance n st Q) : ct_chance n st Q' := ⟨h.1, fun x0 x1 x2 => hQ _ _ (h.2 x0 x1 x2)⟩
def k_chance : zCall := fun _ as st Q => match as with
  | [.inr (.inr (.inl z_o)), .inl n] => z_o = 170 ∧ ct_chance n st Q
  | _ => False
theorem k_chance_mon : zmon k_chance := by
  intro nu as st Q Q' hQ h
  unfold k_chance at h ⊢
  split at h
  · exact ⟨h.1, ct_chance_m hQ h.2⟩
  · exact h.elim
section R7j
variable {cl : Nat → zCall}
set_option maxHeartbeats 40000000 in
set_option maxRecDepth 100000 in
theorem c_isAsWas (hTb : aTb zSh rx_tb cl) {D : Nat} (hD : 1 ≤ D) {st : zS} {Q : zQ} (h : ct_isAsWas  st Q) : cl D 160 [.inr (.inr (.inl 170))] st Q := by
  obtain ⟨d, rfl⟩ : ∃ d, D = d + 1 := ⟨D - 1, by omega⟩
  refine hTb d 160 (rx_m160, 2, 0, 0, 2) rfl _ _ _ (Nat.le_of_ble_eq_true rfl) (fun K hcl hsf hsl => ?_)
  have hcm : zmo (zno) (cl d) := zno_m
  obtain ⟨hR, hQ⟩ := h
  have hG := hR
  have lp : ∀ (u : Nat) (k : Int), (0 ≤ k ∧ k ≤ st 170 68) → (st 170 68 - k).toNat = u → K (rx_find rx_m160 17) [(1, .inl k), (0, .inr (.inr (.inl 170)))] [] st := by
    intro u_lp
    induction u_lp using Nat.strongRecOn with
    | _ u_lp ih_lp =>
      intro k hi hu_lp
      have i_lp := hi
      have g1 := g_wasMany hG
      refine yr1_ok (Rt := Q) (wc := (zno)) (stp := [17]) hcm hcl [] 63 ?_
      show ((st 170 68 ≤ k → ((1 = (0 : Int) ∨ 1 = (1 : Int)) ∧ Q (some (.inl 1)) st)) ∧ (¬ (st 170 68 ≤ k) → ((-2147483648 ≤ (30 : Int) + k ∧ (30 : Int) + k ≤ 2147483647) ∧ ((0 ≤ (30 : Int) + k ∧ (30 : Int) + k < 660) ∧ ((0 ≤ k ∧ k < 30) ∧ ((¬ st 203 ((30 : Int) + k : Int).toNat = st 214 (k : Int).toNat → ((0 = (0 : Int) ∨ 0 = (1 : Int)) ∧ Q (some (.inl 0)) st)) ∧ (¬ (¬ st 203 ((30 : Int) + k : Int).toNat = st 214 (k : Int).toNat) → ((-2147483648 ≤ (30 : Int) + k ∧ (30 : Int) + k ≤ 2147483647) ∧ ((0 ≤ (30 : Int) + k ∧ (30 : Int) + k < 660) ∧ ((0 ≤ k ∧ k < 30) ∧ ((st 204 ((30 : Int) + k : Int).toNat = st 215 (k : Int).toNat → ((-2147483648 ≤ k + 1 ∧ k + 1 ≤ 2147483647) ∧ K (rx_find rx_m160 17) [(1, .inl (k + 1)), (0, .inr (.inr (.inl 170)))] [] st)) ∧ (¬ (st 204 ((30 : Int) + k : Int).toNat = st 215 (k : Int).toNat) → ((0 = (0 : Int) ∨ 0 = (1 : Int)) ∧ Q (some (.inl 0)) st)))))))))))))
      refine ⟨fun h2 => ?_, fun h2 => ?_⟩
      · refine ⟨by omega, ?_⟩
        exact hQ _
      · refine ⟨by omega, ?_⟩
        have g3 := g_stepPlace hG ((30 : Int) + k : Int).toNat
        refine ⟨by omega, ?_⟩
        have g4 := g_wasPlace hG (k : Int).toNat
        refine ⟨by omega, ?_⟩
        refine ⟨fun h5 => ?_, fun h5 => ?_⟩
        · refine ⟨by omega, ?_⟩
          exact hQ _
        · refine ⟨by omega, ?_⟩
          have g6 := g_stepMinutes hG ((30 : Int) + k : Int).toNat
          refine ⟨by omega, ?_⟩
          have g7 := g_wasMinutes hG (k : Int).toNat
          refine ⟨by omega, ?_⟩
          refine ⟨fun h8 => ?_, fun h8 => ?_⟩
          · refine ⟨by omega, ?_⟩
            exact ih_lp _ (show (st 170 68 - (k + 1) : Int).toNat < u_lp from by omega) (k + 1) (show 0 ≤ (k + 1) ∧ (k + 1) ≤ st 170 68 from by omega) rfl
          · refine ⟨by omega, ?_⟩
            exact hQ _
  have g9 := g_wasMany hG
  refine yr1_ok (Rt := Q) (wc := (zno)) (stp := [17]) hcm hcl [] 63 ?_
  show ((0 ≤ (1 : Int) ∧ (1 : Int) < 22) ∧ ((st 202 (1 : Int).toNat = st 170 68 → K (rx_find rx_m160 17) [(1, .inl 0), (0, .inr (.inr (.inl 170)))] [] st) ∧ (¬ (st 202 (1 : Int).toNat = st 170 68) → ((0 = (0 : Int) ∨ 0 = (1 : Int)) ∧ Q (some (.inl 0)) st))))
  have g10 := g_stepMany hG (1 : Int).toNat
  refine ⟨by omega, ?_⟩
  refine ⟨fun h11 => ?_, fun h11 => ?_⟩
  · exact lp _ 0 (show 0 ≤ (0 : Int) ∧ (0 : Int) ≤ st 170 68 from by omega) rfl
  · refine ⟨by omega, ?_⟩
    exact hQ _
theorem k_isAsWas_m (hTb : aTb zSh rx_tb cl) {D : Nat} (hD : 1 ≤ D) : ∀ as st (Q Q' : zQ), (∀ r st', Q r st' → Q' r st') → k_isAsWas 160 as st Q → cl D 160 as st Q' := by
  intro as st Q Q' hQ h
  unfold k_isAsWas at h
  split at h
  · obtain ⟨rfl, h⟩ := h
    exact c_isAsWas hTb hD (ct_isAsWas_m hQ h)
  · exact h.elim
set_option maxHeartbeats 40000000 in
set_option maxRecDepth 100000 in
theorem c_year (hTb : aTb zSh rx_tb cl) {D : Nat} (hD : 6 ≤ D) {x : Int} {st : zS} {Q : zQ} (h : ct_year x st Q) : cl D 77 [.inr (.inr (.inl 170)), .inl x] st Q := by
  obtain ⟨d, rfl⟩ : ∃ d, D = d + 1 := ⟨D - 1, by omega⟩
  refine hTb d 77 (rx_m77, 4, 0, 0, 1) rfl _ _ _ (Nat.le_of_ble_eq_true rfl) (fun K hcl hsf hsl => ?_)
  have hcm : zmo (wcL [(8, k_is), (12, k_heatNow), (13, k_runs), (152, k_pairs)]) (cl d) := (wcL_m (wm_cons (k_is_m hTb (by omega)) (wm_cons (k_heatNow_m hTb (by omega)) (wm_cons (k_runs_m hTb (by omega)) (wm_cons (k_pairs_m hTb (by omega)) wm_nil)))))
  obtain ⟨hR, hQ⟩ := h
  obtain ⟨hG, hJ⟩ := hR
  have lp : ∀ (u : Nat) (k : Int) (n : Int) (s_lp : zS), gInv zgt s_lp ∧ zJ s_lp ∧ s_lp 170 1 = st 170 1 ∧ zV0 st s_lp ∧ (0 ≤ k ∧ k ≤ s_lp 170 62) → (s_lp 170 62 - k).toNat = u → K (rx_find rx_m77 55) [(3, .inl k), (2, .inl n), (0, .inr (.inr (.inl 170))), (1, .inl x)] [] s_lp := by
    intro u_lp
    induction u_lp using Nat.strongRecOn with
    | _ u_lp ih_lp =>
      intro k n s_lp hi hu_lp
      obtain ⟨gI_lp, jI_lp, tI_lp, vI_lp, i_lp⟩ := hi
      have g1 := g_goMany gI_lp
      refine yr1_ok (Rt := Q) (wc := (wcL [(8, k_is), (12, k_heatNow), (13, k_runs), (152, k_pairs)])) (stp := [55]) hcm hcl [70] 70 ?_
      show ((s_lp 170 62 ≤ k → Q (some (.inl n)) s_lp) ∧ (¬ (s_lp 170 62 ≤ k) → ((0 ≤ k ∧ k < 30) ∧ ((-2147483648 ≤ k + 1 ∧ k + 1 ≤ 2147483647) ∧ K (rx_find rx_m77 55) [(3, .inl (k + 1)), (2, .inl (zw (n + (s_lp 212 (k : Int).toNat)))), (0, .inr (.inr (.inl 170))), (1, .inl x)] [] s_lp))))
      refine ⟨fun h2 => ?_, fun h2 => ?_⟩
      · exact hQ _ _ ⟨gI_lp, jI_lp, tI_lp, vI_lp⟩
      · have g3 := g_goStands gI_lp (k : Int).toNat
        refine ⟨by omega, ?_⟩
        refine ⟨by omega, ?_⟩
        exact ih_lp _ (show (s_lp 170 62 - (k + 1) : Int).toNat < u_lp from by omega) (k + 1) (zw (n + (s_lp 212 (k : Int).toNat))) s_lp ⟨gI_lp, jI_lp, tI_lp, vI_lp, (show 0 ≤ (k + 1) ∧ (k + 1) ≤ s_lp 170 62 from by omega)⟩ rfl
  refine yr1_ok (Rt := Q) (wc := (wcL [(8, k_is), (12, k_heatNow), (13, k_runs), (152, k_pairs)])) (stp := [55]) hcm hcl [70] 70 ?_
  show (∀ (r4 : Int), en_is x (0) (3) st r4 → ((¬ r4 = (0 : Int) → (170 = 170 ∧ (rq_heatNow  st ∧ (∀ (r5 : Int), en_heatNow  st r5 → (170 = 170 ∧ (rq_runs (0) r5 (0) (0) st ∧ (∀ (s6 : zS), en_runs (0) r5 (0) (0) st s6 → ((¬ x = (0 : Int) → ((¬ x = (1 : Int) → ((¬ x = (3 : Int) → K (rx_find rx_m77 55) [(3, .inl 0), (2, .inl 0), (0, .inr (.inr (.inl 170))), (1, .inl x)] [] s6) ∧ (¬ (¬ x = (3 : Int)) → (170 = 170 ∧ (rq_pairs  s6 ∧ (∀ (r7 : Int), en_pairs  s6 r7 → Q (some (.inl r7)) s6)))))) ∧ (¬ (¬ x = (1 : Int)) → Q (some (.inl (s6 170 67))) s6))) ∧ (¬ (¬ x = (0 : Int)) → Q (some (.inl (s6 170 62))) s6))))))))) ∧ (¬ (¬ r4 = (0 : Int)) → Q (some (.inl (-1))) st)))
  refine fun r4 q4 => ?_
  have b4 := q4
  change (r4 = 0 ∨ r4 = 1) ∧ (r4 = 1 ↔ (0) ≤ x ∧ x ≤ (3)) at b4
  refine ⟨fun h8 => ?_, fun h8 => ?_⟩
  · refine ⟨rfl, hG, fun r5 q5 => ?_⟩
    have e5 := q5
    change -2147483648 ≤ r5 ∧ r5 ≤ 2147483647 at e5
    refine ⟨rfl, ⟨hG, (show jS st from hJ.1), (show jC st from hJ.2.2), (show jgd st (0) from hJ.2.1.1), (show 0 ≤ (0) ∧ (0) ≤ 21 ∧ -2147483648 ≤ r5 ∧ r5 ≤ 2147483647 from by omega)⟩, fun s6 q6 => ?_⟩
    obtain ⟨gs6, fs6, a6⟩ := q6
    change goA s6 at a6
    refine ⟨fun h9 => ?_, fun h9 => ?_⟩
    · refine ⟨fun h10 => ?_, fun h10 => ?_⟩
      · refine ⟨fun h11 => ?_, fun h11 => ?_⟩
        · have g12 := g_goMany gs6
          exact lp _ 0 0 s6 ⟨gs6, (zJ_fr rfl fs6 hJ), (fs6 170 1 rfl rfl), (zV0_tr (zV0_rf _) (zV0_fr rfl fs6)), (show 0 ≤ (0 : Int) ∧ (0 : Int) ≤ s6 170 62 from by omega)⟩ rfl
        · refine ⟨rfl, gs6, fun r7 q7 => ?_⟩
          have e7 := q7
          change -2147483648 ≤ r7 ∧ r7 ≤ 2147483647 at e7
          exact hQ _ _ ⟨gs6, (zJ_fr rfl fs6 hJ), (fs6 170 1 rfl rfl), (zV0_tr (zV0_rf _) (zV0_fr rfl fs6))⟩
      · have g13 := g_time gs6
        exact hQ _ _ ⟨gs6, (zJ_fr rfl fs6 hJ), (fs6 170 1 rfl rfl), (zV0_tr (zV0_rf _) (zV0_fr rfl fs6))⟩
    · have g14 := g_goMany gs6
      exact hQ _ _ ⟨gs6, (zJ_fr rfl fs6 hJ), (fs6 170 1 rfl rfl), (zV0_tr (zV0_rf _) (zV0_fr rfl fs6))⟩
  · exact hQ _ _ ⟨hG, hJ, rfl, (zV0_rf _)⟩
theorem k_year_m (hTb : aTb zSh rx_tb cl) {D : Nat} (hD : 6 ≤ D) : ∀ as st (Q Q' : zQ), (∀ r st', Q r st' → Q' r st') → k_year 77 as st Q → cl D 77 as st Q' := by
  intro as st Q Q' hQ h
  unfold k_year at h
  split at h
  · obtain ⟨rfl, h⟩ := h
    exact c_year hTb hD (ct_year_m hQ h)
  · exact h.elim
set_option maxHeartbeats 40000000 in
set_option maxRecDepth 100000 in
theorem c_goes (hTb : aTb zSh rx_tb cl) {D : Nat} (hD : 6 ≤ D) {k x : Int} {st : zS} {Q : zQ} (h : ct_goes k x st Q) : cl D 65 [.inr (.inr (.inl 170)), .inl k, .inl x] st Q := by
  obtain ⟨d, rfl⟩ : ∃ d, D = d + 1 := ⟨D - 1, by omega⟩
  refine hTb d 65 (rx_m65, 3, 0, 0, 1) rfl _ _ _ (Nat.le_of_ble_eq_true rfl) (fun K hcl hsf hsl => ?_)
  have hcm : zmo (wcL [(8, k_is), (12, k_heatNow), (13, k_runs)]) (cl d) := (wcL_m (wm_cons (k_is_m hTb (by omega)) (wm_cons (k_heatNow_m hTb (by omega)) (wm_cons (k_runs_m hTb (by omega)) wm_nil))))
  obtain ⟨hR, hQ⟩ := h
  obtain ⟨hG, hJ⟩ := hR
  refine yr1_ok (Rt := Q) (wc := (wcL [(8, k_is), (12, k_heatNow), (13, k_runs)])) (stp := []) hcm hcl [] 64 ?_
  show (∀ (r1 : Int), en_is x (0) (2) st r1 → ((¬ r1 = (0 : Int) → (170 = 170 ∧ (rq_heatNow  st ∧ (∀ (r2 : Int), en_heatNow  st r2 → (170 = 170 ∧ (rq_runs (0) r2 (0) (0) st ∧ (∀ (s3 : zS), en_runs (0) r2 (0) (0) st s3 → ((-2147483648 ≤ (s3 170 62) - 1 ∧ (s3 170 62) - 1 ≤ 2147483647) ∧ (∀ (r4 : Int), en_is k (0) ((s3 170 62) - 1) s3 r4 → ((¬ r4 = (0 : Int) → ((¬ x = (0 : Int) → ((¬ x = (1 : Int) → ((0 ≤ k ∧ k < 30) ∧ Q (some (.inl (s3 213 (k : Int).toNat))) s3)) ∧ (¬ (¬ x = (1 : Int)) → ((0 ≤ k ∧ k < 30) ∧ Q (some (.inl (s3 212 (k : Int).toNat))) s3)))) ∧ (¬ (¬ x = (0 : Int)) → ((0 ≤ k ∧ k < 30) ∧ Q (some (.inl (s3 210 (k : Int).toNat))) s3)))) ∧ (¬ (¬ r4 = (0 : Int)) → Q (some (.inl (-1))) s3))))))))))) ∧ (¬ (¬ r1 = (0 : Int)) → Q (some (.inl (-1))) st)))
  refine fun r1 q1 => ?_
  have b1 := q1
  change (r1 = 0 ∨ r1 = 1) ∧ (r1 = 1 ↔ (0) ≤ x ∧ x ≤ (2)) at b1
  refine ⟨fun h5 => ?_, fun h5 => ?_⟩
  · refine ⟨rfl, hG, fun r2 q2 => ?_⟩
    have e2 := q2
    change -2147483648 ≤ r2 ∧ r2 ≤ 2147483647 at e2
    refine ⟨rfl, ⟨hG, (show jS st from hJ.1), (show jC st from hJ.2.2), (show jgd st (0) from hJ.2.1.1), (show 0 ≤ (0) ∧ (0) ≤ 21 ∧ -2147483648 ≤ r2 ∧ r2 ≤ 2147483647 from by omega)⟩, fun s3 q3 => ?_⟩
    obtain ⟨gs3, fs3, a3⟩ := q3
    change goA s3 at a3
    have g6 := g_goMany gs3
    refine ⟨by omega, ?_⟩
    refine fun r4 q4 => ?_
    have b4 := q4
    change (r4 = 0 ∨ r4 = 1) ∧ (r4 = 1 ↔ (0) ≤ k ∧ k ≤ ((s3 170 62) - 1)) at b4
    refine ⟨fun h7 => ?_, fun h7 => ?_⟩
    · refine ⟨fun h8 => ?_, fun h8 => ?_⟩
      · refine ⟨fun h9 => ?_, fun h9 => ?_⟩
        · have g10 := g_goTime gs3 (k : Int).toNat
          refine ⟨by omega, ?_⟩
          exact hQ _ _ ⟨gs3, (zJ_fr rfl fs3 hJ), (fs3 170 1 rfl rfl), (zV0_tr (zV0_rf _) (zV0_fr rfl fs3))⟩
        · have g11 := g_goStands gs3 (k : Int).toNat
          refine ⟨by omega, ?_⟩
          exact hQ _ _ ⟨gs3, (zJ_fr rfl fs3 hJ), (fs3 170 1 rfl rfl), (zV0_tr (zV0_rf _) (zV0_fr rfl fs3))⟩
      · have g12 := g_goPlace gs3 (k : Int).toNat
        refine ⟨by omega, ?_⟩
        exact hQ _ _ ⟨gs3, (zJ_fr rfl fs3 hJ), (fs3 170 1 rfl rfl), (zV0_tr (zV0_rf _) (zV0_fr rfl fs3))⟩
    · exact hQ _ _ ⟨gs3, (zJ_fr rfl fs3 hJ), (fs3 170 1 rfl rfl), (zV0_tr (zV0_rf _) (zV0_fr rfl fs3))⟩
  · exact hQ _ _ ⟨hG, hJ, rfl, (zV0_rf _)⟩
theorem k_goes_m (hTb : aTb zSh rx_tb cl) {D : Nat} (hD : 6 ≤ D) : ∀ as st (Q Q' : zQ), (∀ r st', Q r st' → Q' r st') → k_goes 65 as st Q → cl D 65 as st Q' := by
  intro as st Q Q' hQ h
  unfold k_goes at h
  split at h
  · obtain ⟨rfl, h⟩ := h
    exact c_goes hTb hD (ct_goes_m hQ h)
  · exact h.elim
set_option maxHeartbeats 40000000 in
set_option maxRecDepth 100000 in
theorem c_wall (hTb : aTb zSh rx_tb cl) {D : Nat} (hD : 6 ≤ D) {st : zS} {Q : zQ} (h : ct_wall  st Q) : cl D 154 [.inr (.inr (.inl 170))] st Q := by
  obtain ⟨d, rfl⟩ : ∃ d, D = d + 1 := ⟨D - 1, by omega⟩
  refine hTb d 154 (rx_m154, 1, 0, 0, 1) rfl _ _ _ (Nat.le_of_ble_eq_true rfl) (fun K hcl hsf hsl => ?_)
  have hcm : zmo (wcL [(12, k_heatNow), (13, k_runs), (129, k_longest)]) (cl d) := (wcL_m (wm_cons (k_heatNow_m hTb (by omega)) (wm_cons (k_runs_m hTb (by omega)) (wm_cons (k_longest_m hTb (by omega)) wm_nil))))
  obtain ⟨hR, hQ⟩ := h
  obtain ⟨hG, hJ⟩ := hR
  refine yr1_ok (Rt := Q) (wc := (wcL [(12, k_heatNow), (13, k_runs), (129, k_longest)])) (stp := []) hcm hcl [] 30 ?_
  show (170 = 170 ∧ (rq_heatNow  st ∧ (∀ (r1 : Int), en_heatNow  st r1 → (170 = 170 ∧ (rq_runs (0) r1 (0) (0) st ∧ (∀ (s2 : zS), en_runs (0) r1 (0) (0) st s2 → (170 = 170 ∧ (rq_longest  s2 ∧ (∀ (r3 : Int), en_longest  s2 r3 → Q (some (.inl r3)) s2)))))))))
  refine ⟨rfl, hG, fun r1 q1 => ?_⟩
  have e1 := q1
  change -2147483648 ≤ r1 ∧ r1 ≤ 2147483647 at e1
  refine ⟨rfl, ⟨hG, (show jS st from hJ.1), (show jC st from hJ.2.2), (show jgd st (0) from hJ.2.1.1), (show 0 ≤ (0) ∧ (0) ≤ 21 ∧ -2147483648 ≤ r1 ∧ r1 ≤ 2147483647 from by omega)⟩, fun s2 q2 => ?_⟩
  obtain ⟨gs2, fs2, a2⟩ := q2
  change goA s2 at a2
  refine ⟨rfl, gs2, fun r3 q3 => ?_⟩
  have e3 := q3
  change -1 ≤ r3 ∧ r3 < s2 170 62 at e3
  have g4 := g_goMany gs2
  exact hQ _ _ ⟨gs2, (zJ_fr rfl fs2 hJ), (fs2 170 1 rfl rfl), (zV0_tr (zV0_rf _) (zV0_fr rfl fs2))⟩
theorem k_wall_m (hTb : aTb zSh rx_tb cl) {D : Nat} (hD : 6 ≤ D) : ∀ as st (Q Q' : zQ), (∀ r st', Q r st' → Q' r st') → k_wall 154 as st Q → cl D 154 as st Q' := by
  intro as st Q Q' hQ h
  unfold k_wall at h
  split at h
  · obtain ⟨rfl, h⟩ := h
    exact c_wall hTb hD (ct_wall_m hQ h)
  · exact h.elim
set_option maxHeartbeats 40000000 in
set_option maxRecDepth 100000 in
theorem c_away (hTb : aTb zSh rx_tb cl) {D : Nat} (hD : 6 ≤ D) {n : Int} {st : zS} {Q : zQ} (h : ct_away n st Q) : cl D 110 [.inr (.inr (.inl 170)), .inl n] st Q := by
  obtain ⟨d, rfl⟩ : ∃ d, D = d + 1 := ⟨D - 1, by omega⟩
  refine hTb d 110 (rx_m110, 5, 0, 0, 1) rfl _ _ _ (Nat.le_of_ble_eq_true rfl) (fun K hcl hsf hsl => ?_)
  have hcm : zmo (wcL [(8, k_is), (151, k_bits), (12, k_heatNow), (13, k_runs), (129, k_longest)]) (cl d) := (wcL_m (wm_cons (k_is_m hTb (by omega)) (wm_cons (k_bits_m hTb (by omega)) (wm_cons (k_heatNow_m hTb (by omega)) (wm_cons (k_runs_m hTb (by omega)) (wm_cons (k_longest_m hTb (by omega)) wm_nil))))))
  obtain ⟨hR, hQ⟩ := h
  obtain ⟨hG, hJ⟩ := hR
  have lp : ∀ (u : Nat) (e : Int) (be : Int) (s_lp : zS), gInv zgt s_lp ∧ zJ s_lp ∧ s_lp 170 1 = st 170 1 ∧ zV0 st s_lp ∧ (0 ≤ e ∧ e ≤ 2147483647 ∧ -1 ≤ be ∧ be ≤ 2147483647) → (2147483647 - e).toNat = u → K (rx_find rx_m110 16) [(3, .inl e), (2, .inl be), (0, .inr (.inr (.inl 170))), (1, .inl n)] [] s_lp := by
    intro u_lp
    induction u_lp using Nat.strongRecOn with
    | _ u_lp ih_lp =>
      intro e be s_lp hi hu_lp
      obtain ⟨gI_lp, jI_lp, tI_lp, vI_lp, i_lp⟩ := hi
      have zz := shr_ok (zi 1 * 2 ^ (zi (s_lp 181 (s_lp 170 13 : Int).toNat) % 32))
      have g1 := g_bank gI_lp
      refine yr1_ok (Rt := Q) (wc := (wcL [(8, k_is), (151, k_bits), (12, k_heatNow), (13, k_runs), (129, k_longest)])) (stp := [16]) hcm hcl [] 74 ?_
      show ((0 ≤ s_lp 170 13 ∧ s_lp 170 13 < 2) ∧ ((zd ((zi 1 * 2 ^ (zi (s_lp 181 (s_lp 170 13 : Int).toNat) % 32)) % 4294967296) ≤ e → Q (some (.inl be)) s_lp) ∧ (¬ (zd ((zi 1 * 2 ^ (zi (s_lp 181 (s_lp 170 13 : Int).toNat) % 32)) % 4294967296) ≤ e) → ((be = ((-1) : Int) → (170 = 170 ∧ (rq_heatNow  s_lp ∧ (∀ (r2 : Int), en_heatNow  s_lp r2 → (170 = 170 ∧ (rq_runs (0) r2 (0) e s_lp ∧ (∀ (s3 : zS), en_runs (0) r2 (0) e s_lp s3 → (170 = 170 ∧ (rq_longest  s3 ∧ (∀ (r4 : Int), en_longest  s3 r4 → ((r4 = ((-1) : Int) → ((-2147483648 ≤ e + 1 ∧ e + 1 ≤ 2147483647) ∧ K (rx_find rx_m110 16) [(3, .inl (e + 1)), (2, .inl e), (4, .inl r4), (0, .inr (.inr (.inl 170))), (1, .inl n)] [] s3)) ∧ (¬ (r4 = ((-1) : Int)) → ((0 ≤ r4 ∧ r4 < 30) ∧ ((n < s3 212 (r4 : Int).toNat → ((-2147483648 ≤ e + 1 ∧ e + 1 ≤ 2147483647) ∧ K (rx_find rx_m110 16) [(3, .inl (e + 1)), (4, .inl r4), (2, .inl be), (0, .inr (.inr (.inl 170))), (1, .inl n)] [] s3)) ∧ (¬ (n < s3 212 (r4 : Int).toNat) → ((-2147483648 ≤ e + 1 ∧ e + 1 ≤ 2147483647) ∧ K (rx_find rx_m110 16) [(3, .inl (e + 1)), (2, .inl e), (4, .inl r4), (0, .inr (.inr (.inl 170))), (1, .inl n)] [] s3)))))))))))))))) ∧ (¬ (be = ((-1) : Int)) → (rq_bits e s_lp ∧ (∀ (r5 : Int), (rq_bits be s_lp ∧ (∀ (r6 : Int), ((r5 < r6 → (170 = 170 ∧ (rq_heatNow  s_lp ∧ (∀ (r7 : Int), en_heatNow  s_lp r7 → (170 = 170 ∧ (rq_runs (0) r7 (0) e s_lp ∧ (∀ (s8 : zS), en_runs (0) r7 (0) e s_lp s8 → (170 = 170 ∧ (rq_longest  s8 ∧ (∀ (r9 : Int), en_longest  s8 r9 → ((r9 = ((-1) : Int) → ((-2147483648 ≤ e + 1 ∧ e + 1 ≤ 2147483647) ∧ K (rx_find rx_m110 16) [(3, .inl (e + 1)), (2, .inl e), (4, .inl r9), (0, .inr (.inr (.inl 170))), (1, .inl n)] [] s8)) ∧ (¬ (r9 = ((-1) : Int)) → ((0 ≤ r9 ∧ r9 < 30) ∧ ((n < s8 212 (r9 : Int).toNat → ((-2147483648 ≤ e + 1 ∧ e + 1 ≤ 2147483647) ∧ K (rx_find rx_m110 16) [(3, .inl (e + 1)), (4, .inl r9), (2, .inl be), (0, .inr (.inr (.inl 170))), (1, .inl n)] [] s8)) ∧ (¬ (n < s8 212 (r9 : Int).toNat) → ((-2147483648 ≤ e + 1 ∧ e + 1 ≤ 2147483647) ∧ K (rx_find rx_m110 16) [(3, .inl (e + 1)), (2, .inl e), (4, .inl r9), (0, .inr (.inr (.inl 170))), (1, .inl n)] [] s8)))))))))))))))) ∧ (¬ (r5 < r6) → ((-2147483648 ≤ e + 1 ∧ e + 1 ≤ 2147483647) ∧ K (rx_find rx_m110 16) [(3, .inl (e + 1)), (2, .inl be), (0, .inr (.inr (.inl 170))), (1, .inl n)] [] s_lp))))))))))))
      have g10 := g_things gI_lp (s_lp 170 13 : Int).toNat
      refine ⟨by omega, ?_⟩
      refine ⟨fun h11 => ?_, fun h11 => ?_⟩
      · exact hQ _ _ ⟨gI_lp, jI_lp, tI_lp, vI_lp⟩
      · refine ⟨fun h12 => ?_, fun h12 => ?_⟩
        · refine ⟨rfl, gI_lp, fun r2 q2 => ?_⟩
          have e2 := q2
          change -2147483648 ≤ r2 ∧ r2 ≤ 2147483647 at e2
          refine ⟨rfl, ⟨gI_lp, (show jS s_lp from jI_lp.1), (show jC s_lp from jI_lp.2.2), (show jgd s_lp (0) from jI_lp.2.1.1), (show 0 ≤ (0) ∧ (0) ≤ 21 ∧ -2147483648 ≤ r2 ∧ r2 ≤ 2147483647 from by omega)⟩, fun s3 q3 => ?_⟩
          obtain ⟨gs3, fs3, a3⟩ := q3
          change goA s3 at a3
          refine ⟨rfl, gs3, fun r4 q4 => ?_⟩
          have e4 := q4
          change -1 ≤ r4 ∧ r4 < s3 170 62 at e4
          have g13 := g_goMany gs3
          refine ⟨fun h14 => ?_, fun h14 => ?_⟩
          · refine ⟨by omega, ?_⟩
            exact hsl _ _ _ _ _ (sb_cons (.head _) (sb_cons (.tail _ (.head _)) (sb_cons (.tail _ (.tail _ (.tail _ (.head _)))) (sb_cons (.tail _ (.tail _ (.tail _ (.tail _ (.head _))))) sb_nil)))) (ih_lp _ (show (2147483647 - (e + 1) : Int).toNat < u_lp from by omega) (e + 1) e s3 ⟨gs3, (zJ_fr rfl fs3 jI_lp), ((fs3 170 1 rfl rfl).trans tI_lp), (zV0_tr vI_lp (zV0_fr rfl fs3)), (show 0 ≤ (e + 1) ∧ (e + 1) ≤ 2147483647 ∧ -1 ≤ e ∧ e ≤ 2147483647 from by omega)⟩ rfl)
          · have g15 := g_goStands gs3 (r4 : Int).toNat
            refine ⟨by omega, ?_⟩
            refine ⟨fun h16 => ?_, fun h16 => ?_⟩
            · refine ⟨by omega, ?_⟩
              exact hsl _ _ _ _ _ (sb_cons (.head _) (sb_cons (.tail _ (.tail _ (.head _))) (sb_cons (.tail _ (.tail _ (.tail _ (.head _)))) (sb_cons (.tail _ (.tail _ (.tail _ (.tail _ (.head _))))) sb_nil)))) (ih_lp _ (show (2147483647 - (e + 1) : Int).toNat < u_lp from by omega) (e + 1) be s3 ⟨gs3, (zJ_fr rfl fs3 jI_lp), ((fs3 170 1 rfl rfl).trans tI_lp), (zV0_tr vI_lp (zV0_fr rfl fs3)), (show 0 ≤ (e + 1) ∧ (e + 1) ≤ 2147483647 ∧ -1 ≤ be ∧ be ≤ 2147483647 from by omega)⟩ rfl)
            · refine ⟨by omega, ?_⟩
              exact hsl _ _ _ _ _ (sb_cons (.head _) (sb_cons (.tail _ (.head _)) (sb_cons (.tail _ (.tail _ (.tail _ (.head _)))) (sb_cons (.tail _ (.tail _ (.tail _ (.tail _ (.head _))))) sb_nil)))) (ih_lp _ (show (2147483647 - (e + 1) : Int).toNat < u_lp from by omega) (e + 1) e s3 ⟨gs3, (zJ_fr rfl fs3 jI_lp), ((fs3 170 1 rfl rfl).trans tI_lp), (zV0_tr vI_lp (zV0_fr rfl fs3)), (show 0 ≤ (e + 1) ∧ (e + 1) ≤ 2147483647 ∧ -1 ≤ e ∧ e ≤ 2147483647 from by omega)⟩ rfl)
        · refine ⟨(show -2147483648 ≤ e ∧ e ≤ 2147483647 from by omega), fun r5 => ?_⟩
          refine ⟨(show -2147483648 ≤ be ∧ be ≤ 2147483647 from by omega), fun r6 => ?_⟩
          refine ⟨fun h17 => ?_, fun h17 => ?_⟩
          · refine ⟨rfl, gI_lp, fun r7 q7 => ?_⟩
            have e7 := q7
            change -2147483648 ≤ r7 ∧ r7 ≤ 2147483647 at e7
            refine ⟨rfl, ⟨gI_lp, (show jS s_lp from jI_lp.1), (show jC s_lp from jI_lp.2.2), (show jgd s_lp (0) from jI_lp.2.1.1), (show 0 ≤ (0) ∧ (0) ≤ 21 ∧ -2147483648 ≤ r7 ∧ r7 ≤ 2147483647 from by omega)⟩, fun s8 q8 => ?_⟩
            obtain ⟨gs8, fs8, a8⟩ := q8
            change goA s8 at a8
            refine ⟨rfl, gs8, fun r9 q9 => ?_⟩
            have e9 := q9
            change -1 ≤ r9 ∧ r9 < s8 170 62 at e9
            have g18 := g_goMany gs8
            refine ⟨fun h19 => ?_, fun h19 => ?_⟩
            · refine ⟨by omega, ?_⟩
              exact hsl _ _ _ _ _ (sb_cons (.head _) (sb_cons (.tail _ (.head _)) (sb_cons (.tail _ (.tail _ (.tail _ (.head _)))) (sb_cons (.tail _ (.tail _ (.tail _ (.tail _ (.head _))))) sb_nil)))) (ih_lp _ (show (2147483647 - (e + 1) : Int).toNat < u_lp from by omega) (e + 1) e s8 ⟨gs8, (zJ_fr rfl fs8 jI_lp), ((fs8 170 1 rfl rfl).trans tI_lp), (zV0_tr vI_lp (zV0_fr rfl fs8)), (show 0 ≤ (e + 1) ∧ (e + 1) ≤ 2147483647 ∧ -1 ≤ e ∧ e ≤ 2147483647 from by omega)⟩ rfl)
            · have g20 := g_goStands gs8 (r9 : Int).toNat
              refine ⟨by omega, ?_⟩
              refine ⟨fun h21 => ?_, fun h21 => ?_⟩
              · refine ⟨by omega, ?_⟩
                exact hsl _ _ _ _ _ (sb_cons (.head _) (sb_cons (.tail _ (.tail _ (.head _))) (sb_cons (.tail _ (.tail _ (.tail _ (.head _)))) (sb_cons (.tail _ (.tail _ (.tail _ (.tail _ (.head _))))) sb_nil)))) (ih_lp _ (show (2147483647 - (e + 1) : Int).toNat < u_lp from by omega) (e + 1) be s8 ⟨gs8, (zJ_fr rfl fs8 jI_lp), ((fs8 170 1 rfl rfl).trans tI_lp), (zV0_tr vI_lp (zV0_fr rfl fs8)), (show 0 ≤ (e + 1) ∧ (e + 1) ≤ 2147483647 ∧ -1 ≤ be ∧ be ≤ 2147483647 from by omega)⟩ rfl)
              · refine ⟨by omega, ?_⟩
                exact hsl _ _ _ _ _ (sb_cons (.head _) (sb_cons (.tail _ (.head _)) (sb_cons (.tail _ (.tail _ (.tail _ (.head _)))) (sb_cons (.tail _ (.tail _ (.tail _ (.tail _ (.head _))))) sb_nil)))) (ih_lp _ (show (2147483647 - (e + 1) : Int).toNat < u_lp from by omega) (e + 1) e s8 ⟨gs8, (zJ_fr rfl fs8 jI_lp), ((fs8 170 1 rfl rfl).trans tI_lp), (zV0_tr vI_lp (zV0_fr rfl fs8)), (show 0 ≤ (e + 1) ∧ (e + 1) ≤ 2147483647 ∧ -1 ≤ e ∧ e ≤ 2147483647 from by omega)⟩ rfl)
          · refine ⟨by omega, ?_⟩
            exact ih_lp _ (show (2147483647 - (e + 1) : Int).toNat < u_lp from by omega) (e + 1) be s_lp ⟨gI_lp, jI_lp, tI_lp, vI_lp, (show 0 ≤ (e + 1) ∧ (e + 1) ≤ 2147483647 ∧ -1 ≤ be ∧ be ≤ 2147483647 from by omega)⟩ rfl
  refine yr1_ok (Rt := Q) (wc := (wcL [(8, k_is), (151, k_bits), (12, k_heatNow), (13, k_runs), (129, k_longest)])) (stp := [16]) hcm hcl [] 74 ?_
  show (∀ (r22 : Int), en_is n (0) (60) st r22 → ((¬ r22 = (0 : Int) → K (rx_find rx_m110 16) [(3, .inl 0), (2, .inl (-1)), (0, .inr (.inr (.inl 170))), (1, .inl n)] [] st) ∧ (¬ (¬ r22 = (0 : Int)) → Q (some (.inl (-1))) st)))
  refine fun r22 q22 => ?_
  have b22 := q22
  change (r22 = 0 ∨ r22 = 1) ∧ (r22 = 1 ↔ (0) ≤ n ∧ n ≤ (60)) at b22
  refine ⟨fun h23 => ?_, fun h23 => ?_⟩
  · exact lp _ 0 (-1) st ⟨hG, hJ, rfl, (zV0_rf _), (show 0 ≤ (0 : Int) ∧ (0 : Int) ≤ 2147483647 ∧ -1 ≤ ((-1) : Int) ∧ ((-1) : Int) ≤ 2147483647 from by omega)⟩ rfl
  · exact hQ _ _ ⟨hG, hJ, rfl, (zV0_rf _)⟩
theorem k_away_m (hTb : aTb zSh rx_tb cl) {D : Nat} (hD : 6 ≤ D) : ∀ as st (Q Q' : zQ), (∀ r st', Q r st' → Q' r st') → k_away 110 as st Q → cl D 110 as st Q' := by
  intro as st Q Q' hQ h
  unfold k_away at h
  split at h
  · obtain ⟨rfl, h⟩ := h
    exact c_away hTb hD (ct_away_m hQ h)
  · exact h.elim
set_option maxHeartbeats 40000000 in
set_option maxRecDepth 100000 in
theorem c_by (hTb : aTb zSh rx_tb cl) {D : Nat} (hD : 6 ≤ D) {p : Int} {st : zS} {Q : zQ} (h : ct_by p st Q) : cl D 130 [.inr (.inr (.inl 170)), .inl p] st Q := by
  obtain ⟨d, rfl⟩ : ∃ d, D = d + 1 := ⟨D - 1, by omega⟩
  refine hTb d 130 (rx_m130, 4, 0, 0, 1) rfl _ _ _ (Nat.le_of_ble_eq_true rfl) (fun K hcl hsf hsl => ?_)
  have hcm : zmo (wcL [(67, k_isPlace), (151, k_bits), (12, k_heatNow), (13, k_runs), (221, k_comesBy)]) (cl d) := (wcL_m (wm_cons (k_isPlace_m hTb (by omega)) (wm_cons (k_bits_m hTb (by omega)) (wm_cons (k_heatNow_m hTb (by omega)) (wm_cons (k_runs_m hTb (by omega)) (wm_cons (k_comesBy_m hTb (by omega)) wm_nil))))))
  obtain ⟨hR, hQ⟩ := h
  obtain ⟨hG, hJ⟩ := hR
  have lp : ∀ (u : Nat) (e : Int) (be : Int) (s_lp : zS), gInv zgt s_lp ∧ zJ s_lp ∧ s_lp 170 1 = st 170 1 ∧ zV0 st s_lp ∧ (0 ≤ e ∧ e ≤ 2147483647 ∧ -1 ≤ be ∧ be ≤ 2147483647) → (2147483647 - e).toNat = u → K (rx_find rx_m130 14) [(3, .inl e), (2, .inl be), (0, .inr (.inr (.inl 170))), (1, .inl p)] [] s_lp := by
    intro u_lp
    induction u_lp using Nat.strongRecOn with
    | _ u_lp ih_lp =>
      intro e be s_lp hi hu_lp
      obtain ⟨gI_lp, jI_lp, tI_lp, vI_lp, i_lp⟩ := hi
      have zz := shr_ok (zi 1 * 2 ^ (zi (s_lp 173 (s_lp 170 13 : Int).toNat) % 32))
      have g1 := g_bank gI_lp
      refine yr1_ok (Rt := Q) (wc := (wcL [(67, k_isPlace), (151, k_bits), (12, k_heatNow), (13, k_runs), (221, k_comesBy)])) (stp := [14]) hcm hcl [] 76 ?_
      show ((0 ≤ s_lp 170 13 ∧ s_lp 170 13 < 2) ∧ ((zd ((zi 1 * 2 ^ (zi (s_lp 173 (s_lp 170 13 : Int).toNat) % 32)) % 4294967296) ≤ e → Q (some (.inl be)) s_lp) ∧ (¬ (zd ((zi 1 * 2 ^ (zi (s_lp 173 (s_lp 170 13 : Int).toNat) % 32)) % 4294967296) ≤ e) → (rq_bits e s_lp ∧ (∀ (r2 : Int), (((2 : Int) < r2 → ((-2147483648 ≤ e + 1 ∧ e + 1 ≤ 2147483647) ∧ K (rx_find rx_m130 14) [(3, .inl (e + 1)), (2, .inl be), (0, .inr (.inr (.inl 170))), (1, .inl p)] [] s_lp)) ∧ (¬ ((2 : Int) < r2) → ((0 ≤ (0 : Int) ∧ (0 : Int) < 22) ∧ ((¬ zd (Nat.land (zi e) (zi (s_lp 200 (0 : Int).toNat))) = (0 : Int) → ((-2147483648 ≤ e + 1 ∧ e + 1 ≤ 2147483647) ∧ K (rx_find rx_m130 14) [(3, .inl (e + 1)), (2, .inl be), (0, .inr (.inr (.inl 170))), (1, .inl p)] [] s_lp)) ∧ (¬ (¬ zd (Nat.land (zi e) (zi (s_lp 200 (0 : Int).toNat))) = (0 : Int)) → ((be = ((-1) : Int) → (170 = 170 ∧ (rq_heatNow  s_lp ∧ (∀ (r3 : Int), en_heatNow  s_lp r3 → (170 = 170 ∧ (rq_runs (0) r3 e (0) s_lp ∧ (∀ (s4 : zS), en_runs (0) r3 e (0) s_lp s4 → (170 = 170 ∧ (rq_comesBy p s4 ∧ (∀ (r5 : Int), ((r5 = (0 : Int) → ((-2147483648 ≤ e + 1 ∧ e + 1 ≤ 2147483647) ∧ K (rx_find rx_m130 14) [(3, .inl (e + 1)), (2, .inl be), (0, .inr (.inr (.inl 170))), (1, .inl p)] [] s4)) ∧ (¬ (r5 = (0 : Int)) → ((-2147483648 ≤ e + 1 ∧ e + 1 ≤ 2147483647) ∧ K (rx_find rx_m130 14) [(3, .inl (e + 1)), (2, .inl e), (0, .inr (.inr (.inl 170))), (1, .inl p)] [] s4))))))))))))) ∧ (¬ (be = ((-1) : Int)) → (rq_bits e s_lp ∧ (∀ (r6 : Int), (rq_bits be s_lp ∧ (∀ (r7 : Int), ((r6 < r7 → (170 = 170 ∧ (rq_heatNow  s_lp ∧ (∀ (r8 : Int), en_heatNow  s_lp r8 → (170 = 170 ∧ (rq_runs (0) r8 e (0) s_lp ∧ (∀ (s9 : zS), en_runs (0) r8 e (0) s_lp s9 → (170 = 170 ∧ (rq_comesBy p s9 ∧ (∀ (r10 : Int), ((r10 = (0 : Int) → ((-2147483648 ≤ e + 1 ∧ e + 1 ≤ 2147483647) ∧ K (rx_find rx_m130 14) [(3, .inl (e + 1)), (2, .inl be), (0, .inr (.inr (.inl 170))), (1, .inl p)] [] s9)) ∧ (¬ (r10 = (0 : Int)) → ((-2147483648 ≤ e + 1 ∧ e + 1 ≤ 2147483647) ∧ K (rx_find rx_m130 14) [(3, .inl (e + 1)), (2, .inl e), (0, .inr (.inr (.inl 170))), (1, .inl p)] [] s9))))))))))))) ∧ (¬ (r6 < r7) → ((-2147483648 ≤ e + 1 ∧ e + 1 ≤ 2147483647) ∧ K (rx_find rx_m130 14) [(3, .inl (e + 1)), (2, .inl be), (0, .inr (.inr (.inl 170))), (1, .inl p)] [] s_lp)))))))))))))))))))
      have g11 := g_streets gI_lp (s_lp 170 13 : Int).toNat
      refine ⟨by omega, ?_⟩
      refine ⟨fun h12 => ?_, fun h12 => ?_⟩
      · exact hQ _ _ ⟨gI_lp, jI_lp, tI_lp, vI_lp⟩
      · refine ⟨(show -2147483648 ≤ e ∧ e ≤ 2147483647 from by omega), fun r2 => ?_⟩
        refine ⟨fun h13 => ?_, fun h13 => ?_⟩
        · refine ⟨by omega, ?_⟩
          exact ih_lp _ (show (2147483647 - (e + 1) : Int).toNat < u_lp from by omega) (e + 1) be s_lp ⟨gI_lp, jI_lp, tI_lp, vI_lp, (show 0 ≤ (e + 1) ∧ (e + 1) ≤ 2147483647 ∧ -1 ≤ be ∧ be ≤ 2147483647 from by omega)⟩ rfl
        · have g14 := g_shutOf gI_lp (0 : Int).toNat
          refine ⟨by omega, ?_⟩
          refine ⟨fun h15 => ?_, fun h15 => ?_⟩
          · refine ⟨by omega, ?_⟩
            exact ih_lp _ (show (2147483647 - (e + 1) : Int).toNat < u_lp from by omega) (e + 1) be s_lp ⟨gI_lp, jI_lp, tI_lp, vI_lp, (show 0 ≤ (e + 1) ∧ (e + 1) ≤ 2147483647 ∧ -1 ≤ be ∧ be ≤ 2147483647 from by omega)⟩ rfl
          · refine ⟨fun h16 => ?_, fun h16 => ?_⟩
            · refine ⟨rfl, gI_lp, fun r3 q3 => ?_⟩
              have e3 := q3
              change -2147483648 ≤ r3 ∧ r3 ≤ 2147483647 at e3
              refine ⟨rfl, ⟨gI_lp, (show jS s_lp from jI_lp.1), (show jC s_lp from jI_lp.2.2), (show jgd s_lp (0) from jI_lp.2.1.1), (show 0 ≤ (0) ∧ (0) ≤ 21 ∧ -2147483648 ≤ r3 ∧ r3 ≤ 2147483647 from by omega)⟩, fun s4 q4 => ?_⟩
              obtain ⟨gs4, fs4, a4⟩ := q4
              change goA s4 at a4
              refine ⟨rfl, gs4, fun r5 => ?_⟩
              refine ⟨fun h17 => ?_, fun h17 => ?_⟩
              · refine ⟨by omega, ?_⟩
                exact ih_lp _ (show (2147483647 - (e + 1) : Int).toNat < u_lp from by omega) (e + 1) be s4 ⟨gs4, (zJ_fr rfl fs4 jI_lp), ((fs4 170 1 rfl rfl).trans tI_lp), (zV0_tr vI_lp (zV0_fr rfl fs4)), (show 0 ≤ (e + 1) ∧ (e + 1) ≤ 2147483647 ∧ -1 ≤ be ∧ be ≤ 2147483647 from by omega)⟩ rfl
              · refine ⟨by omega, ?_⟩
                exact ih_lp _ (show (2147483647 - (e + 1) : Int).toNat < u_lp from by omega) (e + 1) e s4 ⟨gs4, (zJ_fr rfl fs4 jI_lp), ((fs4 170 1 rfl rfl).trans tI_lp), (zV0_tr vI_lp (zV0_fr rfl fs4)), (show 0 ≤ (e + 1) ∧ (e + 1) ≤ 2147483647 ∧ -1 ≤ e ∧ e ≤ 2147483647 from by omega)⟩ rfl
            · refine ⟨(show -2147483648 ≤ e ∧ e ≤ 2147483647 from by omega), fun r6 => ?_⟩
              refine ⟨(show -2147483648 ≤ be ∧ be ≤ 2147483647 from by omega), fun r7 => ?_⟩
              refine ⟨fun h18 => ?_, fun h18 => ?_⟩
              · refine ⟨rfl, gI_lp, fun r8 q8 => ?_⟩
                have e8 := q8
                change -2147483648 ≤ r8 ∧ r8 ≤ 2147483647 at e8
                refine ⟨rfl, ⟨gI_lp, (show jS s_lp from jI_lp.1), (show jC s_lp from jI_lp.2.2), (show jgd s_lp (0) from jI_lp.2.1.1), (show 0 ≤ (0) ∧ (0) ≤ 21 ∧ -2147483648 ≤ r8 ∧ r8 ≤ 2147483647 from by omega)⟩, fun s9 q9 => ?_⟩
                obtain ⟨gs9, fs9, a9⟩ := q9
                change goA s9 at a9
                refine ⟨rfl, gs9, fun r10 => ?_⟩
                refine ⟨fun h19 => ?_, fun h19 => ?_⟩
                · refine ⟨by omega, ?_⟩
                  exact ih_lp _ (show (2147483647 - (e + 1) : Int).toNat < u_lp from by omega) (e + 1) be s9 ⟨gs9, (zJ_fr rfl fs9 jI_lp), ((fs9 170 1 rfl rfl).trans tI_lp), (zV0_tr vI_lp (zV0_fr rfl fs9)), (show 0 ≤ (e + 1) ∧ (e + 1) ≤ 2147483647 ∧ -1 ≤ be ∧ be ≤ 2147483647 from by omega)⟩ rfl
                · refine ⟨by omega, ?_⟩
                  exact ih_lp _ (show (2147483647 - (e + 1) : Int).toNat < u_lp from by omega) (e + 1) e s9 ⟨gs9, (zJ_fr rfl fs9 jI_lp), ((fs9 170 1 rfl rfl).trans tI_lp), (zV0_tr vI_lp (zV0_fr rfl fs9)), (show 0 ≤ (e + 1) ∧ (e + 1) ≤ 2147483647 ∧ -1 ≤ e ∧ e ≤ 2147483647 from by omega)⟩ rfl
              · refine ⟨by omega, ?_⟩
                exact ih_lp _ (show (2147483647 - (e + 1) : Int).toNat < u_lp from by omega) (e + 1) be s_lp ⟨gI_lp, jI_lp, tI_lp, vI_lp, (show 0 ≤ (e + 1) ∧ (e + 1) ≤ 2147483647 ∧ -1 ≤ be ∧ be ≤ 2147483647 from by omega)⟩ rfl
  refine yr1_ok (Rt := Q) (wc := (wcL [(67, k_isPlace), (151, k_bits), (12, k_heatNow), (13, k_runs), (221, k_comesBy)])) (stp := [14]) hcm hcl [] 76 ?_
  show (170 = 170 ∧ (rq_isPlace p st ∧ (∀ (r20 : Int), en_isPlace p st r20 → ((¬ r20 = (0 : Int) → K (rx_find rx_m130 14) [(3, .inl 0), (2, .inl (-1)), (0, .inr (.inr (.inl 170))), (1, .inl p)] [] st) ∧ (¬ (¬ r20 = (0 : Int)) → Q (some (.inl (-1))) st)))))
  refine ⟨rfl, hG, fun r20 q20 => ?_⟩
  have b20 := q20
  change (r20 = 0 ∨ r20 = 1) ∧ (r20 = 1 ↔ 0 ≤ p ∧ p < st 172 (st 170 13 : Int).toNat) at b20
  have g21 := g_bank hG
  have g22 := g_places hG (st 170 13 : Int).toNat
  refine ⟨fun h23 => ?_, fun h23 => ?_⟩
  · exact lp _ 0 (-1) st ⟨hG, hJ, rfl, (zV0_rf _), (show 0 ≤ (0 : Int) ∧ (0 : Int) ≤ 2147483647 ∧ -1 ≤ ((-1) : Int) ∧ ((-1) : Int) ≤ 2147483647 from by omega)⟩ rfl
  · exact hQ _ _ ⟨hG, hJ, rfl, (zV0_rf _)⟩
theorem k_by_m (hTb : aTb zSh rx_tb cl) {D : Nat} (hD : 6 ≤ D) : ∀ as st (Q Q' : zQ), (∀ r st', Q r st' → Q' r st') → k_by 130 as st Q → cl D 130 as st Q' := by
  intro as st Q Q' hQ h
  unfold k_by at h
  split at h
  · obtain ⟨rfl, h⟩ := h
    exact c_by hTb hD (ct_by_m hQ h)
  · exact h.elim
set_option maxHeartbeats 40000000 in
set_option maxRecDepth 100000 in
theorem c_seats (hTb : aTb zSh rx_tb cl) {D : Nat} (hD : 6 ≤ D) {m : Int} {st : zS} {Q : zQ} (h : ct_seats m st Q) : cl D 112 [.inr (.inr (.inl 170)), .inl m] st Q := by
  obtain ⟨d, rfl⟩ : ∃ d, D = d + 1 := ⟨D - 1, by omega⟩
  refine hTb d 112 (rx_m112, 7, 0, 0, 1) rfl _ _ _ (Nat.le_of_ble_eq_true rfl) (fun K hcl hsf hsl => ?_)
  have hcm : zmo (wcL [(8, k_is), (12, k_heatNow), (13, k_runs), (151, k_bits), (201, k_has2)]) (cl d) := (wcL_m (wm_cons (k_is_m hTb (by omega)) (wm_cons (k_heatNow_m hTb (by omega)) (wm_cons (k_runs_m hTb (by omega)) (wm_cons (k_bits_m hTb (by omega)) (wm_cons (k_has2_m hTb (by omega)) wm_nil))))))
  obtain ⟨hR, hQ⟩ := h
  obtain ⟨hG, hJ⟩ := hR
  have lp : ∀ (u : Nat) (e : Int) (mo : Int) (be : Int) (s_lp : zS), gInv zgt s_lp ∧ zJ s_lp ∧ s_lp 170 1 = st 170 1 ∧ zV0 st s_lp ∧ (0 ≤ e ∧ e ≤ 2147483647 ∧ -1 ≤ be ∧ be ≤ 2147483647) → (2147483647 - e).toNat = u → K (rx_find rx_m112 42) [(4, .inl e), (3, .inl mo), (2, .inl be), (0, .inr (.inr (.inl 170))), (1, .inl m)] [] s_lp := by
    intro u_lp
    induction u_lp using Nat.strongRecOn with
    | _ u_lp ih_lp =>
      intro e mo be s_lp hi hu_lp
      obtain ⟨gI_lp, jI_lp, tI_lp, vI_lp, i_lp⟩ := hi
      have zz := shr_ok (zi 1 * 2 ^ (zi (s_lp 172 (s_lp 170 13 : Int).toNat) % 32))
      have g1 := g_bank gI_lp
      have g2 := g_goMany gI_lp
      have lk : ∀ (u : Nat) (k : Int) (n : Int), (0 ≤ k ∧ k ≤ s_lp 170 62 ∧ e < 2147483647) → (s_lp 170 62 - k).toNat = u → K (rx_find rx_m112 76) [(6, .inl k), (5, .inl n), (4, .inl e), (3, .inl mo), (2, .inl be), (0, .inr (.inr (.inl 170))), (1, .inl m)] [] s_lp := by
        intro u_lk
        induction u_lk using Nat.strongRecOn with
        | _ u_lk ih_lk =>
          intro k n hi hu_lk
          have i_lk := hi
          have g3 := g_goMany gI_lp
          refine yr1_ok (Rt := Q) (wc := (wcL [(8, k_is), (12, k_heatNow), (13, k_runs), (151, k_bits), (201, k_has2)])) (stp := [42, 76]) hcm hcl [113] 99 ?_
          show ((s_lp 170 62 ≤ k → ((mo < n → ((-2147483648 ≤ e + 1 ∧ e + 1 ≤ 2147483647) ∧ K (rx_find rx_m112 42) [(4, .inl (e + 1)), (2, .inl e), (3, .inl n), (6, .inl k), (5, .inl n), (0, .inr (.inr (.inl 170))), (1, .inl m)] [] s_lp)) ∧ (¬ (mo < n) → ((-2147483648 ≤ e + 1 ∧ e + 1 ≤ 2147483647) ∧ K (rx_find rx_m112 42) [(4, .inl (e + 1)), (6, .inl k), (5, .inl n), (3, .inl mo), (2, .inl be), (0, .inr (.inr (.inl 170))), (1, .inl m)] [] s_lp)))) ∧ (¬ (s_lp 170 62 ≤ k) → ((0 ≤ k ∧ k < 30) ∧ (∀ (r4 : Int), en_has2 e (s_lp 210 (k : Int).toNat) s_lp r4 → ((r4 = (0 : Int) → ((-2147483648 ≤ k + 1 ∧ k + 1 ≤ 2147483647) ∧ K (rx_find rx_m112 76) [(6, .inl (k + 1)), (5, .inl (zw (n + 0))), (4, .inl e), (3, .inl mo), (2, .inl be), (0, .inr (.inr (.inl 170))), (1, .inl m)] [] s_lp)) ∧ (¬ (r4 = (0 : Int)) → ((0 ≤ k ∧ k < 30) ∧ ((-2147483648 ≤ k + 1 ∧ k + 1 ≤ 2147483647) ∧ K (rx_find rx_m112 76) [(6, .inl (k + 1)), (5, .inl (zw (n + (s_lp 212 (k : Int).toNat)))), (4, .inl e), (3, .inl mo), (2, .inl be), (0, .inr (.inr (.inl 170))), (1, .inl m)] [] s_lp))))))))
          refine ⟨fun h5 => ?_, fun h5 => ?_⟩
          · refine ⟨fun h6 => ?_, fun h6 => ?_⟩
            · refine ⟨by omega, ?_⟩
              exact hsl _ _ _ _ _ (sb_cons (.head _) (sb_cons (.tail _ (.tail _ (.head _))) (sb_cons (.tail _ (.head _)) (sb_cons (.tail _ (.tail _ (.tail _ (.tail _ (.tail _ (.head _)))))) (sb_cons (.tail _ (.tail _ (.tail _ (.tail _ (.tail _ (.tail _ (.head _))))))) sb_nil))))) (ih_lp _ (show (2147483647 - (e + 1) : Int).toNat < u_lp from by omega) (e + 1) n e s_lp ⟨gI_lp, jI_lp, tI_lp, vI_lp, (show 0 ≤ (e + 1) ∧ (e + 1) ≤ 2147483647 ∧ -1 ≤ e ∧ e ≤ 2147483647 from by omega)⟩ rfl)
            · refine ⟨by omega, ?_⟩
              exact hsl _ _ _ _ _ (sb_cons (.head _) (sb_cons (.tail _ (.tail _ (.tail _ (.head _)))) (sb_cons (.tail _ (.tail _ (.tail _ (.tail _ (.head _))))) (sb_cons (.tail _ (.tail _ (.tail _ (.tail _ (.tail _ (.head _)))))) (sb_cons (.tail _ (.tail _ (.tail _ (.tail _ (.tail _ (.tail _ (.head _))))))) sb_nil))))) (ih_lp _ (show (2147483647 - (e + 1) : Int).toNat < u_lp from by omega) (e + 1) mo be s_lp ⟨gI_lp, jI_lp, tI_lp, vI_lp, (show 0 ≤ (e + 1) ∧ (e + 1) ≤ 2147483647 ∧ -1 ≤ be ∧ be ≤ 2147483647 from by omega)⟩ rfl)
          · have g7 := g_goPlace gI_lp (k : Int).toNat
            refine ⟨by omega, ?_⟩
            refine fun r4 q4 => ?_
            have b4 := q4
            change (r4 = 0 ∨ r4 = 1) ∧ r4 = hb e (s_lp 210 (k : Int).toNat) at b4
            refine ⟨fun h8 => ?_, fun h8 => ?_⟩
            · refine ⟨by omega, ?_⟩
              exact ih_lk _ (show (s_lp 170 62 - (k + 1) : Int).toNat < u_lk from by omega) (k + 1) (zw (n + 0)) (show 0 ≤ (k + 1) ∧ (k + 1) ≤ s_lp 170 62 ∧ e < 2147483647 from by omega) rfl
            · have g9 := g_goStands gI_lp (k : Int).toNat
              refine ⟨by omega, ?_⟩
              refine ⟨by omega, ?_⟩
              exact ih_lk _ (show (s_lp 170 62 - (k + 1) : Int).toNat < u_lk from by omega) (k + 1) (zw (n + (s_lp 212 (k : Int).toNat))) (show 0 ≤ (k + 1) ∧ (k + 1) ≤ s_lp 170 62 ∧ e < 2147483647 from by omega) rfl
      refine yr1_ok (Rt := Q) (wc := (wcL [(8, k_is), (12, k_heatNow), (13, k_runs), (151, k_bits), (201, k_has2)])) (stp := [42, 76]) hcm hcl [113] 99 ?_
      show ((0 ≤ s_lp 170 13 ∧ s_lp 170 13 < 2) ∧ ((zd ((zi 1 * 2 ^ (zi (s_lp 172 (s_lp 170 13 : Int).toNat) % 32)) % 4294967296) ≤ e → Q (some (.inl be)) s_lp) ∧ (¬ (zd ((zi 1 * 2 ^ (zi (s_lp 172 (s_lp 170 13 : Int).toNat) % 32)) % 4294967296) ≤ e) → (rq_bits e s_lp ∧ (∀ (r10 : Int), ((r10 = m → K (rx_find rx_m112 76) [(6, .inl 0), (5, .inl 0), (4, .inl e), (3, .inl mo), (2, .inl be), (0, .inr (.inr (.inl 170))), (1, .inl m)] [] s_lp) ∧ (¬ (r10 = m) → ((-2147483648 ≤ e + 1 ∧ e + 1 ≤ 2147483647) ∧ K (rx_find rx_m112 42) [(4, .inl (e + 1)), (3, .inl mo), (2, .inl be), (0, .inr (.inr (.inl 170))), (1, .inl m)] [] s_lp))))))))
      have g11 := g_places gI_lp (s_lp 170 13 : Int).toNat
      refine ⟨by omega, ?_⟩
      refine ⟨fun h12 => ?_, fun h12 => ?_⟩
      · exact hQ _ _ ⟨gI_lp, jI_lp, tI_lp, vI_lp⟩
      · refine ⟨(show -2147483648 ≤ e ∧ e ≤ 2147483647 from by omega), fun r10 => ?_⟩
        refine ⟨fun h13 => ?_, fun h13 => ?_⟩
        · exact lk _ 0 0 (show 0 ≤ (0 : Int) ∧ (0 : Int) ≤ s_lp 170 62 ∧ e < 2147483647 from by omega) rfl
        · refine ⟨by omega, ?_⟩
          exact ih_lp _ (show (2147483647 - (e + 1) : Int).toNat < u_lp from by omega) (e + 1) mo be s_lp ⟨gI_lp, jI_lp, tI_lp, vI_lp, (show 0 ≤ (e + 1) ∧ (e + 1) ≤ 2147483647 ∧ -1 ≤ be ∧ be ≤ 2147483647 from by omega)⟩ rfl
  refine yr1_ok (Rt := Q) (wc := (wcL [(8, k_is), (12, k_heatNow), (13, k_runs), (151, k_bits), (201, k_has2)])) (stp := [42, 76]) hcm hcl [113] 99 ?_
  show (∀ (r14 : Int), en_is m (1) (3) st r14 → ((r14 = (0 : Int) → Q (some (.inl (-1))) st) ∧ (¬ (r14 = (0 : Int)) → ((0 ≤ st 170 13 ∧ st 170 13 < 2) ∧ ((m ≤ st 172 (st 170 13 : Int).toNat → (170 = 170 ∧ (rq_heatNow  st ∧ (∀ (r15 : Int), en_heatNow  st r15 → (170 = 170 ∧ (rq_runs (0) r15 (0) (0) st ∧ (∀ (s16 : zS), en_runs (0) r15 (0) (0) st s16 → K (rx_find rx_m112 42) [(4, .inl 0), (3, .inl (-1)), (2, .inl (-1)), (0, .inr (.inr (.inl 170))), (1, .inl m)] [] s16))))))) ∧ (¬ (m ≤ st 172 (st 170 13 : Int).toNat) → Q (some (.inl (-1))) st))))))
  refine fun r14 q14 => ?_
  have b14 := q14
  change (r14 = 0 ∨ r14 = 1) ∧ (r14 = 1 ↔ (1) ≤ m ∧ m ≤ (3)) at b14
  refine ⟨fun h17 => ?_, fun h17 => ?_⟩
  · exact hQ _ _ ⟨hG, hJ, rfl, (zV0_rf _)⟩
  · have g18 := g_bank hG
    have g19 := g_places hG (st 170 13 : Int).toNat
    refine ⟨by omega, ?_⟩
    refine ⟨fun h20 => ?_, fun h20 => ?_⟩
    · refine ⟨rfl, hG, fun r15 q15 => ?_⟩
      have e15 := q15
      change -2147483648 ≤ r15 ∧ r15 ≤ 2147483647 at e15
      refine ⟨rfl, ⟨hG, (show jS st from hJ.1), (show jC st from hJ.2.2), (show jgd st (0) from hJ.2.1.1), (show 0 ≤ (0) ∧ (0) ≤ 21 ∧ -2147483648 ≤ r15 ∧ r15 ≤ 2147483647 from by omega)⟩, fun s16 q16 => ?_⟩
      obtain ⟨gs16, fs16, a16⟩ := q16
      change goA s16 at a16
      exact lp _ 0 (-1) (-1) s16 ⟨gs16, (zJ_fr rfl fs16 hJ), (fs16 170 1 rfl rfl), (zV0_tr (zV0_rf _) (zV0_fr rfl fs16)), (show 0 ≤ (0 : Int) ∧ (0 : Int) ≤ 2147483647 ∧ -1 ≤ ((-1) : Int) ∧ ((-1) : Int) ≤ 2147483647 from by omega)⟩ rfl
    · exact hQ _ _ ⟨hG, hJ, rfl, (zV0_rf _)⟩
theorem k_seats_m (hTb : aTb zSh rx_tb cl) {D : Nat} (hD : 6 ≤ D) : ∀ as st (Q Q' : zQ), (∀ r st', Q r st' → Q' r st') → k_seats 112 as st Q → cl D 112 as st Q' := by
  intro as st Q Q' hQ h
  unfold k_seats at h
  split at h
  · obtain ⟨rfl, h⟩ := h
    exact c_seats hTb hD (ct_seats_m hQ h)
  · exact h.elim
set_option maxHeartbeats 40000000 in
set_option maxRecDepth 100000 in
theorem c_later (hTb : aTb zSh rx_tb cl) {D : Nat} (hD : 7 ≤ D) {n x : Int} {st : zS} {Q : zQ} (h : ct_later n x st Q) : cl D 79 [.inr (.inr (.inl 170)), .inl n, .inl x] st Q := by
  obtain ⟨d, rfl⟩ : ∃ d, D = d + 1 := ⟨D - 1, by omega⟩
  refine hTb d 79 (rx_m79, 4, 0, 0, 1) rfl _ _ _ (Nat.le_of_ble_eq_true rfl) (fun K hcl hsf hsl => ?_)
  have hcm : zmo (wcL [(59, k_isAhead), (8, k_is), (60, k_copies), (12, k_heatNow), (19, k_passes), (13, k_runs)]) (cl d) := (wcL_m (wm_cons (k_isAhead_m hTb (by omega)) (wm_cons (k_is_m hTb (by omega)) (wm_cons (k_copies_m hTb (by omega)) (wm_cons (k_heatNow_m hTb (by omega)) (wm_cons (k_passes_m hTb (by omega)) (wm_cons (k_runs_m hTb (by omega)) wm_nil)))))))
  obtain ⟨hR, hQ⟩ := h
  obtain ⟨hG, hJ⟩ := hR
  have lp : ∀ (u : Nat) (k : Int) (s_lp : zS), gInv zgt s_lp ∧ zJ s_lp ∧ s_lp 170 1 = st 170 1 ∧ zV0 st s_lp ∧ (jgd s_lp 1) ∧ (0 ≤ k ∧ k ≤ n ∧ n ≤ 40) → (n - k).toNat = u → K (rx_find rx_m79 30) [(3, .inl k), (0, .inr (.inr (.inl 170))), (1, .inl n), (2, .inl x)] [] s_lp := by
    intro u_lp
    induction u_lp using Nat.strongRecOn with
    | _ u_lp ih_lp =>
      intro k s_lp hi hu_lp
      obtain ⟨gI_lp, jI_lp, tI_lp, vI_lp, gd_lp, i_lp⟩ := hi
      refine yr1_ok (Rt := Q) (wc := (wcL [(59, k_isAhead), (8, k_is), (60, k_copies), (12, k_heatNow), (19, k_passes), (13, k_runs)])) (stp := [30]) hcm hcl [] 64 ?_
      show ((n ≤ k → (170 = 170 ∧ (rq_heatNow  s_lp ∧ (∀ (r1 : Int), en_heatNow  s_lp r1 → (170 = 170 ∧ (rq_runs (1) r1 (0) (0) s_lp ∧ (∀ (s2 : zS), en_runs (1) r1 (0) (0) s_lp s2 → ((¬ x = (0 : Int) → Q (some (.inl (s2 170 67))) s2) ∧ (¬ (¬ x = (0 : Int)) → Q (some (.inl (s2 170 62))) s2))))))))) ∧ (¬ (n ≤ k) → (170 = 170 ∧ (rq_heatNow  s_lp ∧ (∀ (r3 : Int), en_heatNow  s_lp r3 → (170 = 170 ∧ (rq_passes (1) r3 s_lp ∧ (∀ (s4 : zS), en_passes (1) r3 s_lp s4 → ((-2147483648 ≤ k + 1 ∧ k + 1 ≤ 2147483647) ∧ K (rx_find rx_m79 30) [(3, .inl (k + 1)), (0, .inr (.inr (.inl 170))), (1, .inl n), (2, .inl x)] [] s4)))))))))
      refine ⟨fun h5 => ?_, fun h5 => ?_⟩
      · refine ⟨rfl, gI_lp, fun r1 q1 => ?_⟩
        have e1 := q1
        change -2147483648 ≤ r1 ∧ r1 ≤ 2147483647 at e1
        refine ⟨rfl, ⟨gI_lp, (show jS s_lp from jI_lp.1), (show jC s_lp from jI_lp.2.2), (show jgd s_lp (1) from gd_lp), (show 0 ≤ (1) ∧ (1) ≤ 21 ∧ -2147483648 ≤ r1 ∧ r1 ≤ 2147483647 from by omega)⟩, fun s2 q2 => ?_⟩
        obtain ⟨gs2, fs2, a2⟩ := q2
        change goA s2 at a2
        refine ⟨fun h6 => ?_, fun h6 => ?_⟩
        · have g7 := g_time gs2
          exact hQ _ _ ⟨gs2, (zJ_fr rfl fs2 jI_lp), ((fs2 170 1 rfl rfl).trans tI_lp), (zV0_tr vI_lp (zV0_fr rfl fs2))⟩
        · have g8 := g_goMany gs2
          exact hQ _ _ ⟨gs2, (zJ_fr rfl fs2 jI_lp), ((fs2 170 1 rfl rfl).trans tI_lp), (zV0_tr vI_lp (zV0_fr rfl fs2))⟩
      · refine ⟨rfl, gI_lp, fun r3 q3 => ?_⟩
        have e3 := q3
        change -2147483648 ≤ r3 ∧ r3 ≤ 2147483647 at e3
        refine ⟨rfl, ⟨gI_lp, (show jS s_lp from jI_lp.1), (show jC s_lp from jI_lp.2.2), (show jgd s_lp (1) from gd_lp), (show 0 ≤ (1) ∧ (1) ≤ 21 ∧ -2147483648 ≤ r3 ∧ r3 ≤ 2147483647 from by omega)⟩, fun s4 q4 => ?_⟩
        obtain ⟨gs4, fs4, gn4, o4, pp4⟩ := q4
        change jgd s4 (1) at gn4
        change ∀ i : Nat, ¬ (30 * (1) ≤ (i : Int) ∧ (i : Int) < 30 * (1) + 30) → s4 203 i = s_lp 203 i at o4
        change ∀ i : Nat, ¬ (i : Int) = (1) → s4 202 i = s_lp 202 i at pp4
        refine ⟨by omega, ?_⟩
        exact ih_lp _ (show (n - (k + 1) : Int).toNat < u_lp from by omega) (k + 1) s4 ⟨gs4, (zJ_slot (st := s_lp) (v := 1) gI_lp jI_lp (by omega) (fs4 170 13 rfl rfl) (fs4 170 56 rfl rfl) (fs4 170 57 rfl rfl) (fun i => fs4 172 i rfl rfl) (fun i => fs4 176 i rfl rfl) (fun i => fs4 177 i rfl rfl) (fun i => fs4 186 i rfl rfl) (fun i => fs4 187 i rfl rfl) (fun i => fs4 188 i rfl rfl) o4 pp4 (fun z => by omega)), ((fs4 170 1 rfl rfl).trans tI_lp), (zV0_tr vI_lp (zV0_fr rfl fs4)), (show jgd s4 1 from gn4), (show 0 ≤ (k + 1) ∧ (k + 1) ≤ n ∧ n ≤ 40 from by omega)⟩ rfl
  refine yr1_ok (Rt := Q) (wc := (wcL [(59, k_isAhead), (8, k_is), (60, k_copies), (12, k_heatNow), (19, k_passes), (13, k_runs)])) (stp := [30]) hcm hcl [] 64 ?_
  show (170 = 170 ∧ (rq_isAhead n (0) (39) st ∧ (∀ (r9 : Int), en_isAhead n (0) (39) st r9 → ((r9 = (0 : Int) → Q (some (.inl (-1))) st) ∧ (¬ (r9 = (0 : Int)) → (∀ (r10 : Int), en_is x (0) (1) st r10 → ((¬ r10 = (0 : Int) → (170 = 170 ∧ (rq_copies (1) (0) st ∧ (∀ (s11 : zS), en_copies (1) (0) st s11 → K (rx_find rx_m79 30) [(3, .inl 0), (0, .inr (.inr (.inl 170))), (1, .inl n), (2, .inl x)] [] s11)))) ∧ (¬ (¬ r10 = (0 : Int)) → Q (some (.inl (-1))) st))))))))
  refine ⟨rfl, ⟨hG, (show 0 ≤ (0) ∧ (39) ≤ 40 from by omega)⟩, fun r9 q9 => ?_⟩
  have b9 := q9
  change (r9 = 0 ∨ r9 = 1) ∧ (r9 = 1 → (0) ≤ n ∧ n ≤ (39)) at b9
  refine ⟨fun h12 => ?_, fun h12 => ?_⟩
  · exact hQ _ _ ⟨hG, hJ, rfl, (zV0_rf _)⟩
  · refine fun r10 q10 => ?_
    have b10 := q10
    change (r10 = 0 ∨ r10 = 1) ∧ (r10 = 1 ↔ (0) ≤ x ∧ x ≤ (1)) at b10
    refine ⟨fun h13 => ?_, fun h13 => ?_⟩
    · refine ⟨rfl, ⟨hG, (show 0 ≤ (1) ∧ (1) ≤ 21 ∧ 0 ≤ (0) ∧ (0) ≤ 21 ∧ ¬ (1) = (0) from by omega)⟩, fun s11 q11 => ?_⟩
      obtain ⟨gs11, fs11, c11, o11, m11, pp11⟩ := q11
      change ∀ j : Int, 0 ≤ j → j < 30 → s11 203 (30 * (1) + j).toNat = st 203 (30 * (0) + j).toNat at c11
      change ∀ i : Nat, ¬ (30 * (1) ≤ (i : Int) ∧ (i : Int) < 30 * (1) + 30) → s11 203 i = st 203 i at o11
      change s11 202 ((1) : Int).toNat = st 202 ((0) : Int).toNat at m11
      change ∀ i : Nat, ¬ (i : Int) = (1) → s11 202 i = st 202 i at pp11
      exact lp _ 0 s11 ⟨gs11, (zJ_slot (st := st) (v := 1) hG hJ (by omega) (fs11 170 13 rfl rfl) (fs11 170 56 rfl rfl) (fs11 170 57 rfl rfl) (fun i => fs11 172 i rfl rfl) (fun i => fs11 176 i rfl rfl) (fun i => fs11 177 i rfl rfl) (fun i => fs11 186 i rfl rfl) (fun i => fs11 187 i rfl rfl) (fun i => fs11 188 i rfl rfl) o11 pp11 (fun z => by omega)), (fs11 170 1 rfl rfl), (zV0_tr (zV0_rf _) (zV0_fr rfl fs11)), (show jgd s11 1 from (jgd_cp hG (fs11 170 13 rfl rfl) (fun i => fs11 177 i rfl rfl) hJ.2.1.1 m11 c11)), (show 0 ≤ (0 : Int) ∧ (0 : Int) ≤ n ∧ n ≤ 40 from by omega)⟩ rfl
    · exact hQ _ _ ⟨hG, hJ, rfl, (zV0_rf _)⟩
theorem k_later_m (hTb : aTb zSh rx_tb cl) {D : Nat} (hD : 7 ≤ D) : ∀ as st (Q Q' : zQ), (∀ r st', Q r st' → Q' r st') → k_later 79 as st Q → cl D 79 as st Q' := by
  intro as st Q Q' hQ h
  unfold k_later at h
  split at h
  · obtain ⟨rfl, h⟩ := h
    exact c_later hTb hD (ct_later_m hQ h)
  · exact h.elim
set_option maxHeartbeats 40000000 in
set_option maxRecDepth 100000 in
theorem c_missed (hTb : aTb zSh rx_tb cl) {D : Nat} (hD : 7 ≤ D) {p : Int} {st : zS} {Q : zQ} (h : ct_missed p st Q) : cl D 131 [.inr (.inr (.inl 170)), .inl p] st Q := by
  obtain ⟨d, rfl⟩ : ∃ d, D = d + 1 := ⟨D - 1, by omega⟩
  refine hTb d 131 (rx_m131, 3, 0, 0, 1) rfl _ _ _ (Nat.le_of_ble_eq_true rfl) (fun K hcl hsf hsl => ?_)
  have hcm : zmo (wcL [(67, k_isPlace), (60, k_copies), (59, k_isAhead), (12, k_heatNow), (13, k_runs), (221, k_comesBy), (19, k_passes)]) (cl d) := (wcL_m (wm_cons (k_isPlace_m hTb (by omega)) (wm_cons (k_copies_m hTb (by omega)) (wm_cons (k_isAhead_m hTb (by omega)) (wm_cons (k_heatNow_m hTb (by omega)) (wm_cons (k_runs_m hTb (by omega)) (wm_cons (k_comesBy_m hTb (by omega)) (wm_cons (k_passes_m hTb (by omega)) wm_nil))))))))
  obtain ⟨hR, hQ⟩ := h
  obtain ⟨hG, hJ⟩ := hR
  have lp : ∀ (u : Nat) (k : Int) (s_lp : zS), gInv zgt s_lp ∧ zJ s_lp ∧ s_lp 170 1 = st 170 1 ∧ zV0 st s_lp ∧ (jgd s_lp 1) ∧ (0 ≤ k ∧ k ≤ 40) → (40 - k).toNat = u → K (rx_find rx_m131 18) [(2, .inl k), (0, .inr (.inr (.inl 170))), (1, .inl p)] [] s_lp := by
    intro u_lp
    induction u_lp using Nat.strongRecOn with
    | _ u_lp ih_lp =>
      intro k s_lp hi hu_lp
      obtain ⟨gI_lp, jI_lp, tI_lp, vI_lp, gd_lp, i_lp⟩ := hi
      refine yr1_ok (Rt := Q) (wc := (wcL [(67, k_isPlace), (60, k_copies), (59, k_isAhead), (12, k_heatNow), (13, k_runs), (221, k_comesBy), (19, k_passes)])) (stp := [18]) hcm hcl [] 60 ?_
      show (170 = 170 ∧ (rq_isAhead k (0) (39) s_lp ∧ (∀ (r1 : Int), en_isAhead k (0) (39) s_lp r1 → ((r1 = (0 : Int) → Q (some (.inl (-1))) s_lp) ∧ (¬ (r1 = (0 : Int)) → (170 = 170 ∧ (rq_heatNow  s_lp ∧ (∀ (r2 : Int), en_heatNow  s_lp r2 → (170 = 170 ∧ (rq_runs (1) r2 (0) (0) s_lp ∧ (∀ (s3 : zS), en_runs (1) r2 (0) (0) s_lp s3 → (170 = 170 ∧ (rq_comesBy p s3 ∧ (∀ (r4 : Int), ((¬ r4 = (0 : Int) → (170 = 170 ∧ (rq_heatNow  s3 ∧ (∀ (r5 : Int), en_heatNow  s3 r5 → (170 = 170 ∧ (rq_passes (1) r5 s3 ∧ (∀ (s6 : zS), en_passes (1) r5 s3 s6 → ((-2147483648 ≤ k + 1 ∧ k + 1 ≤ 2147483647) ∧ K (rx_find rx_m131 18) [(2, .inl (k + 1)), (0, .inr (.inr (.inl 170))), (1, .inl p)] [] s6)))))))) ∧ (¬ (¬ r4 = (0 : Int)) → Q (some (.inl k)) s3))))))))))))))))
      refine ⟨rfl, ⟨gI_lp, (show 0 ≤ (0) ∧ (39) ≤ 40 from by omega)⟩, fun r1 q1 => ?_⟩
      have b1 := q1
      change (r1 = 0 ∨ r1 = 1) ∧ (r1 = 1 → (0) ≤ k ∧ k ≤ (39)) at b1
      refine ⟨fun h7 => ?_, fun h7 => ?_⟩
      · exact hQ _ _ ⟨gI_lp, jI_lp, tI_lp, vI_lp⟩
      · refine ⟨rfl, gI_lp, fun r2 q2 => ?_⟩
        have e2 := q2
        change -2147483648 ≤ r2 ∧ r2 ≤ 2147483647 at e2
        refine ⟨rfl, ⟨gI_lp, (show jS s_lp from jI_lp.1), (show jC s_lp from jI_lp.2.2), (show jgd s_lp (1) from gd_lp), (show 0 ≤ (1) ∧ (1) ≤ 21 ∧ -2147483648 ≤ r2 ∧ r2 ≤ 2147483647 from by omega)⟩, fun s3 q3 => ?_⟩
        obtain ⟨gs3, fs3, a3⟩ := q3
        change goA s3 at a3
        refine ⟨rfl, gs3, fun r4 => ?_⟩
        refine ⟨fun h8 => ?_, fun h8 => ?_⟩
        · refine ⟨rfl, gs3, fun r5 q5 => ?_⟩
          have e5 := q5
          change -2147483648 ≤ r5 ∧ r5 ≤ 2147483647 at e5
          refine ⟨rfl, ⟨gs3, (show jS s3 from (zJ_fr rfl fs3 jI_lp).1), (show jC s3 from (zJ_fr rfl fs3 jI_lp).2.2), (show jgd s3 (1) from (jgd_of (jfr rfl fs3) gd_lp)), (show 0 ≤ (1) ∧ (1) ≤ 21 ∧ -2147483648 ≤ r5 ∧ r5 ≤ 2147483647 from by omega)⟩, fun s6 q6 => ?_⟩
          obtain ⟨gs6, fs6, gn6, o6, pp6⟩ := q6
          change jgd s6 (1) at gn6
          change ∀ i : Nat, ¬ (30 * (1) ≤ (i : Int) ∧ (i : Int) < 30 * (1) + 30) → s6 203 i = s3 203 i at o6
          change ∀ i : Nat, ¬ (i : Int) = (1) → s6 202 i = s3 202 i at pp6
          refine ⟨by omega, ?_⟩
          exact ih_lp _ (show (40 - (k + 1) : Int).toNat < u_lp from by omega) (k + 1) s6 ⟨gs6, (zJ_slot (st := s3) (v := 1) gs3 (zJ_fr rfl fs3 jI_lp) (by omega) (fs6 170 13 rfl rfl) (fs6 170 56 rfl rfl) (fs6 170 57 rfl rfl) (fun i => fs6 172 i rfl rfl) (fun i => fs6 176 i rfl rfl) (fun i => fs6 177 i rfl rfl) (fun i => fs6 186 i rfl rfl) (fun i => fs6 187 i rfl rfl) (fun i => fs6 188 i rfl rfl) o6 pp6 (fun z => by omega)), ((fs6 170 1 rfl rfl).trans ((fs3 170 1 rfl rfl).trans tI_lp)), (zV0_tr (zV0_tr vI_lp (zV0_fr rfl fs3)) (zV0_fr rfl fs6)), (show jgd s6 1 from gn6), (show 0 ≤ (k + 1) ∧ (k + 1) ≤ 40 from by omega)⟩ rfl
        · exact hQ _ _ ⟨gs3, (zJ_fr rfl fs3 jI_lp), ((fs3 170 1 rfl rfl).trans tI_lp), (zV0_tr vI_lp (zV0_fr rfl fs3))⟩
  refine yr1_ok (Rt := Q) (wc := (wcL [(67, k_isPlace), (60, k_copies), (59, k_isAhead), (12, k_heatNow), (13, k_runs), (221, k_comesBy), (19, k_passes)])) (stp := [18]) hcm hcl [] 60 ?_
  show (170 = 170 ∧ (rq_isPlace p st ∧ (∀ (r9 : Int), en_isPlace p st r9 → ((¬ r9 = (0 : Int) → (170 = 170 ∧ (rq_copies (1) (0) st ∧ (∀ (s10 : zS), en_copies (1) (0) st s10 → K (rx_find rx_m131 18) [(2, .inl 0), (0, .inr (.inr (.inl 170))), (1, .inl p)] [] s10)))) ∧ (¬ (¬ r9 = (0 : Int)) → Q (some (.inl (-1))) st)))))
  refine ⟨rfl, hG, fun r9 q9 => ?_⟩
  have b9 := q9
  change (r9 = 0 ∨ r9 = 1) ∧ (r9 = 1 ↔ 0 ≤ p ∧ p < st 172 (st 170 13 : Int).toNat) at b9
  have g11 := g_bank hG
  have g12 := g_places hG (st 170 13 : Int).toNat
  refine ⟨fun h13 => ?_, fun h13 => ?_⟩
  · refine ⟨rfl, ⟨hG, (show 0 ≤ (1) ∧ (1) ≤ 21 ∧ 0 ≤ (0) ∧ (0) ≤ 21 ∧ ¬ (1) = (0) from by omega)⟩, fun s10 q10 => ?_⟩
    obtain ⟨gs10, fs10, c10, o10, m10, pp10⟩ := q10
    change ∀ j : Int, 0 ≤ j → j < 30 → s10 203 (30 * (1) + j).toNat = st 203 (30 * (0) + j).toNat at c10
    change ∀ i : Nat, ¬ (30 * (1) ≤ (i : Int) ∧ (i : Int) < 30 * (1) + 30) → s10 203 i = st 203 i at o10
    change s10 202 ((1) : Int).toNat = st 202 ((0) : Int).toNat at m10
    change ∀ i : Nat, ¬ (i : Int) = (1) → s10 202 i = st 202 i at pp10
    exact lp _ 0 s10 ⟨gs10, (zJ_slot (st := st) (v := 1) hG hJ (by omega) (fs10 170 13 rfl rfl) (fs10 170 56 rfl rfl) (fs10 170 57 rfl rfl) (fun i => fs10 172 i rfl rfl) (fun i => fs10 176 i rfl rfl) (fun i => fs10 177 i rfl rfl) (fun i => fs10 186 i rfl rfl) (fun i => fs10 187 i rfl rfl) (fun i => fs10 188 i rfl rfl) o10 pp10 (fun z => by omega)), (fs10 170 1 rfl rfl), (zV0_tr (zV0_rf _) (zV0_fr rfl fs10)), (show jgd s10 1 from (jgd_cp hG (fs10 170 13 rfl rfl) (fun i => fs10 177 i rfl rfl) hJ.2.1.1 m10 c10)), (show 0 ≤ (0 : Int) ∧ (0 : Int) ≤ 40 from by omega)⟩ rfl
  · exact hQ _ _ ⟨hG, hJ, rfl, (zV0_rf _)⟩
theorem k_missed_m (hTb : aTb zSh rx_tb cl) {D : Nat} (hD : 7 ≤ D) : ∀ as st (Q Q' : zQ), (∀ r st', Q r st' → Q' r st') → k_missed 131 as st Q → cl D 131 as st Q' := by
  intro as st Q Q' hQ h
  unfold k_missed at h
  split at h
  · obtain ⟨rfl, h⟩ := h
    exact c_missed hTb hD (ct_missed_m hQ h)
  · exact h.elim
set_option maxHeartbeats 40000000 in
set_option maxRecDepth 100000 in
theorem c_held (hTb : aTb zSh rx_tb cl) {D : Nat} (hD : 7 ≤ D) {st : zS} {Q : zQ} (h : ct_held  st Q) : cl D 159 [.inr (.inr (.inl 170))] st Q := by
  obtain ⟨d, rfl⟩ : ∃ d, D = d + 1 := ⟨D - 1, by omega⟩
  refine hTb d 159 (rx_m159, 3, 0, 0, 1) rfl _ _ _ (Nat.le_of_ble_eq_true rfl) (fun K hcl hsf hsl => ?_)
  have hcm : zmo (wcL [(60, k_copies), (59, k_isAhead), (12, k_heatNow), (19, k_passes), (160, k_isAsWas)]) (cl d) := (wcL_m (wm_cons (k_copies_m hTb (by omega)) (wm_cons (k_isAhead_m hTb (by omega)) (wm_cons (k_heatNow_m hTb (by omega)) (wm_cons (k_passes_m hTb (by omega)) (wm_cons (k_isAsWas_m hTb (by omega)) wm_nil))))))
  obtain ⟨hR, hQ⟩ := h
  obtain ⟨hG, hJ⟩ := hR
  have lp : ∀ (u : Nat) (n : Int) (s_lp : zS), gInv zgt s_lp ∧ zJ s_lp ∧ s_lp 170 1 = st 170 1 ∧ zV0 st s_lp ∧ (jgd s_lp 1) ∧ (0 ≤ n ∧ n ≤ 40) → (40 - n).toNat = u → K (rx_find rx_m159 8) [(1, .inl n), (0, .inr (.inr (.inl 170)))] [] s_lp := by
    intro u_lp
    induction u_lp using Nat.strongRecOn with
    | _ u_lp ih_lp =>
      intro n s_lp hi hu_lp
      obtain ⟨gI_lp, jI_lp, tI_lp, vI_lp, gd_lp, i_lp⟩ := hi
      have lk : ∀ (u : Nat) (k : Int) (s_lk : zS), gInv zgt s_lk ∧ zJ s_lk ∧ s_lk 170 1 = st 170 1 ∧ zV0 st s_lk ∧ (jgd s_lk 1) ∧ (0 ≤ k ∧ k ≤ s_lk 170 68 ∧ 0 ≤ n ∧ n ≤ 39) → (s_lk 170 68 - k).toNat = u → K (rx_find rx_m159 31) [(2, .inl k), (1, .inl n), (0, .inr (.inr (.inl 170)))] [] s_lk := by
        intro u_lk
        induction u_lk using Nat.strongRecOn with
        | _ u_lk ih_lk =>
          intro k s_lk hi hu_lk
          obtain ⟨gI_lk, jI_lk, tI_lk, vI_lk, gd_lk, i_lk⟩ := hi
          have g1 := g_wasMany gI_lk
          refine yr1_ok (Rt := Q) (wc := (wcL [(60, k_copies), (59, k_isAhead), (12, k_heatNow), (19, k_passes), (160, k_isAsWas)])) (stp := [8, 31]) hcm hcl [] 80 ?_
          show ((s_lk 170 68 ≤ k → (170 = 170 ∧ (rq_heatNow  s_lk ∧ (∀ (r2 : Int), en_heatNow  s_lk r2 → (170 = 170 ∧ (rq_passes (1) r2 s_lk ∧ (∀ (s3 : zS), en_passes (1) r2 s_lk s3 → (170 = 170 ∧ (rq_isAsWas  s3 ∧ (∀ (r4 : Int), ((r4 = (0 : Int) → ((-2147483648 ≤ n + 1 ∧ n + 1 ≤ 2147483647) ∧ K (rx_find rx_m159 8) [(1, .inl (n + 1)), (2, .inl k), (0, .inr (.inr (.inl 170)))] [] s3)) ∧ (¬ (r4 = (0 : Int)) → Q (some (.inl n)) s3)))))))))))) ∧ (¬ (s_lk 170 68 ≤ k) → ((-2147483648 ≤ (30 : Int) + k ∧ (30 : Int) + k ≤ 2147483647) ∧ ((0 ≤ (30 : Int) + k ∧ (30 : Int) + k < 660) ∧ ((0 ≤ k ∧ k < 30) ∧ ((-2147483648 ≤ (30 : Int) + k ∧ (30 : Int) + k ≤ 2147483647) ∧ ((0 ≤ (30 : Int) + k ∧ (30 : Int) + k < 660) ∧ ((0 ≤ k ∧ k < 30) ∧ ((-2147483648 ≤ k + 1 ∧ k + 1 ≤ 2147483647) ∧ K (rx_find rx_m159 31) [(2, .inl (k + 1)), (1, .inl n), (0, .inr (.inr (.inl 170)))] [] (zup (zup s_lk 214 (k : Int).toNat (s_lk 203 ((30 : Int) + k : Int).toNat)) 215 (k : Int).toNat (s_lk 204 ((30 : Int) + k : Int).toNat)))))))))))
          refine ⟨fun h5 => ?_, fun h5 => ?_⟩
          · refine ⟨rfl, gI_lk, fun r2 q2 => ?_⟩
            have e2 := q2
            change -2147483648 ≤ r2 ∧ r2 ≤ 2147483647 at e2
            refine ⟨rfl, ⟨gI_lk, (show jS s_lk from jI_lk.1), (show jC s_lk from jI_lk.2.2), (show jgd s_lk (1) from gd_lk), (show 0 ≤ (1) ∧ (1) ≤ 21 ∧ -2147483648 ≤ r2 ∧ r2 ≤ 2147483647 from by omega)⟩, fun s3 q3 => ?_⟩
            obtain ⟨gs3, fs3, gn3, o3, pp3⟩ := q3
            change jgd s3 (1) at gn3
            change ∀ i : Nat, ¬ (30 * (1) ≤ (i : Int) ∧ (i : Int) < 30 * (1) + 30) → s3 203 i = s_lk 203 i at o3
            change ∀ i : Nat, ¬ (i : Int) = (1) → s3 202 i = s_lk 202 i at pp3
            refine ⟨rfl, gs3, fun r4 => ?_⟩
            refine ⟨fun h6 => ?_, fun h6 => ?_⟩
            · refine ⟨by omega, ?_⟩
              exact hsl _ _ _ _ _ (sb_cons (.head _) (sb_cons (.tail _ (.tail _ (.head _))) sb_nil)) (ih_lp _ (show (40 - (n + 1) : Int).toNat < u_lp from by omega) (n + 1) s3 ⟨gs3, (zJ_slot (st := s_lk) (v := 1) gI_lk jI_lk (by omega) (fs3 170 13 rfl rfl) (fs3 170 56 rfl rfl) (fs3 170 57 rfl rfl) (fun i => fs3 172 i rfl rfl) (fun i => fs3 176 i rfl rfl) (fun i => fs3 177 i rfl rfl) (fun i => fs3 186 i rfl rfl) (fun i => fs3 187 i rfl rfl) (fun i => fs3 188 i rfl rfl) o3 pp3 (fun z => by omega)), ((fs3 170 1 rfl rfl).trans tI_lk), (zV0_tr vI_lk (zV0_fr rfl fs3)), (show jgd s3 1 from gn3), (show 0 ≤ (n + 1) ∧ (n + 1) ≤ 40 from by omega)⟩ rfl)
            · exact hQ _ _ ⟨gs3, (zJ_slot (st := s_lk) (v := 1) gI_lk jI_lk (by omega) (fs3 170 13 rfl rfl) (fs3 170 56 rfl rfl) (fs3 170 57 rfl rfl) (fun i => fs3 172 i rfl rfl) (fun i => fs3 176 i rfl rfl) (fun i => fs3 177 i rfl rfl) (fun i => fs3 186 i rfl rfl) (fun i => fs3 187 i rfl rfl) (fun i => fs3 188 i rfl rfl) o3 pp3 (fun z => by omega)), ((fs3 170 1 rfl rfl).trans tI_lk), (zV0_tr vI_lk (zV0_fr rfl fs3))⟩
          · refine ⟨by omega, ?_⟩
            have g7 := g_stepPlace gI_lk ((30 : Int) + k : Int).toNat
            refine ⟨by omega, ?_⟩
            refine ⟨by omega, ?_⟩
            refine ⟨by omega, ?_⟩
            have g8 := g_stepMinutes gI_lk ((30 : Int) + k : Int).toNat
            refine ⟨by omega, ?_⟩
            refine ⟨by omega, ?_⟩
            refine ⟨by omega, ?_⟩
            exact ih_lk _ (show (s_lk 170 68 - (k + 1) : Int).toNat < u_lk from by omega) (k + 1) (zup (zup s_lk 214 (k : Int).toNat (s_lk 203 ((30 : Int) + k : Int).toNat)) 215 (k : Int).toNat (s_lk 204 ((30 : Int) + k : Int).toNat)) ⟨(gInv_up (gInv_up gI_lk (p_wasPlace (by omega))) (p_wasMinutes (by omega))), (zJ_up rfl (zJ_up rfl jI_lk)), tI_lk, (zV0_up (zV0_up vI_lk (by first | decide | rfl)) (by first | decide | rfl)), (show jgd (zup (zup s_lk 214 (k : Int).toNat (s_lk 203 ((30 : Int) + k : Int).toNat)) 215 (k : Int).toNat (s_lk 204 ((30 : Int) + k : Int).toNat)) 1 from (jgd_up rfl (jgd_up rfl gd_lk))), (show 0 ≤ (k + 1) ∧ (k + 1) ≤ s_lk 170 68 ∧ 0 ≤ n ∧ n ≤ 39 from by omega)⟩ rfl
      refine yr1_ok (Rt := Q) (wc := (wcL [(60, k_copies), (59, k_isAhead), (12, k_heatNow), (19, k_passes), (160, k_isAsWas)])) (stp := [8, 31]) hcm hcl [] 80 ?_
      show (170 = 170 ∧ (rq_isAhead n (0) (39) s_lp ∧ (∀ (r9 : Int), en_isAhead n (0) (39) s_lp r9 → ((r9 = (0 : Int) → Q (some (.inl (-1))) s_lp) ∧ (¬ (r9 = (0 : Int)) → ((0 ≤ (1 : Int) ∧ (1 : Int) < 22) ∧ K (rx_find rx_m159 31) [(2, .inl 0), (1, .inl n), (0, .inr (.inr (.inl 170)))] [] (zup s_lp 170 68 (s_lp 202 (1 : Int).toNat))))))))
      refine ⟨rfl, ⟨gI_lp, (show 0 ≤ (0) ∧ (39) ≤ 40 from by omega)⟩, fun r9 q9 => ?_⟩
      have b9 := q9
      change (r9 = 0 ∨ r9 = 1) ∧ (r9 = 1 → (0) ≤ n ∧ n ≤ (39)) at b9
      refine ⟨fun h10 => ?_, fun h10 => ?_⟩
      · exact hQ _ _ ⟨gI_lp, jI_lp, tI_lp, vI_lp⟩
      · have g11 := g_stepMany gI_lp (1 : Int).toNat
        refine ⟨by omega, ?_⟩
        exact lk _ 0 (zup s_lp 170 68 (s_lp 202 (1 : Int).toNat)) ⟨(gInv_up gI_lp (p_wasMany (by omega))), (zJ_up rfl jI_lp), tI_lp, (zV0_up vI_lp (by first | decide | rfl)), (show jgd (zup s_lp 170 68 (s_lp 202 (1 : Int).toNat)) 1 from (jgd_up rfl gd_lp)), (show 0 ≤ (0 : Int) ∧ (0 : Int) ≤ (s_lp 202 (1 : Int).toNat) ∧ 0 ≤ n ∧ n ≤ 39 from by omega)⟩ rfl
  refine yr1_ok (Rt := Q) (wc := (wcL [(60, k_copies), (59, k_isAhead), (12, k_heatNow), (19, k_passes), (160, k_isAsWas)])) (stp := [8, 31]) hcm hcl [] 80 ?_
  show (170 = 170 ∧ (rq_copies (1) (0) st ∧ (∀ (s12 : zS), en_copies (1) (0) st s12 → K (rx_find rx_m159 8) [(1, .inl 0), (0, .inr (.inr (.inl 170)))] [] s12)))
  refine ⟨rfl, ⟨hG, (show 0 ≤ (1) ∧ (1) ≤ 21 ∧ 0 ≤ (0) ∧ (0) ≤ 21 ∧ ¬ (1) = (0) from by omega)⟩, fun s12 q12 => ?_⟩
  obtain ⟨gs12, fs12, c12, o12, m12, pp12⟩ := q12
  change ∀ j : Int, 0 ≤ j → j < 30 → s12 203 (30 * (1) + j).toNat = st 203 (30 * (0) + j).toNat at c12
  change ∀ i : Nat, ¬ (30 * (1) ≤ (i : Int) ∧ (i : Int) < 30 * (1) + 30) → s12 203 i = st 203 i at o12
  change s12 202 ((1) : Int).toNat = st 202 ((0) : Int).toNat at m12
  change ∀ i : Nat, ¬ (i : Int) = (1) → s12 202 i = st 202 i at pp12
  exact lp _ 0 s12 ⟨gs12, (zJ_slot (st := st) (v := 1) hG hJ (by omega) (fs12 170 13 rfl rfl) (fs12 170 56 rfl rfl) (fs12 170 57 rfl rfl) (fun i => fs12 172 i rfl rfl) (fun i => fs12 176 i rfl rfl) (fun i => fs12 177 i rfl rfl) (fun i => fs12 186 i rfl rfl) (fun i => fs12 187 i rfl rfl) (fun i => fs12 188 i rfl rfl) o12 pp12 (fun z => by omega)), (fs12 170 1 rfl rfl), (zV0_tr (zV0_rf _) (zV0_fr rfl fs12)), (show jgd s12 1 from (jgd_cp hG (fs12 170 13 rfl rfl) (fun i => fs12 177 i rfl rfl) hJ.2.1.1 m12 c12)), (show 0 ≤ (0 : Int) ∧ (0 : Int) ≤ 40 from by omega)⟩ rfl
theorem k_held_m (hTb : aTb zSh rx_tb cl) {D : Nat} (hD : 7 ≤ D) : ∀ as st (Q Q' : zQ), (∀ r st', Q r st' → Q' r st') → k_held 159 as st Q → cl D 159 as st Q' := by
  intro as st Q Q' hQ h
  unfold k_held at h
  split at h
  · obtain ⟨rfl, h⟩ := h
    exact c_held hTb hD (ct_held_m hQ h)
  · exact h.elim
set_option maxHeartbeats 40000000 in
set_option maxRecDepth 100000 in
theorem c_years (hTb : aTb zSh rx_tb cl) {D : Nat} (hD : 7 ≤ D) {n : Int} {st : zS} {Q : zQ} (h : ct_years n st Q) : cl D 115 [.inr (.inr (.inl 170)), .inl n] st Q := by
  obtain ⟨d, rfl⟩ : ∃ d, D = d + 1 := ⟨D - 1, by omega⟩
  refine hTb d 115 (rx_m115, 4, 0, 0, 1) rfl _ _ _ (Nat.le_of_ble_eq_true rfl) (fun K hcl hsf hsl => ?_)
  have hcm : zmo (wcL [(59, k_isAhead), (58, k_refuses), (84, k_keeps), (12, k_heatNow), (19, k_passes)]) (cl d) := (wcL_m (wm_cons (k_isAhead_m hTb (by omega)) (wm_cons (k_refuses_m hTb (by omega)) (wm_cons (k_keeps_m hTb (by omega)) (wm_cons (k_heatNow_m hTb (by omega)) (wm_cons (k_passes_m hTb (by omega)) wm_nil))))))
  obtain ⟨hR, hQ⟩ := h
  obtain ⟨hG, hJ⟩ := hR
  have lp : ∀ (u : Nat) (k : Int) (al : Int) (s_lp : zS), gInv zgt s_lp ∧ zJ s_lp ∧ s_lp 170 1 = st 170 1 ∧ zV0 st s_lp ∧ (0 ≤ k ∧ k ≤ n ∧ n ≤ 40) → (n - k).toNat = u → K (rx_find rx_m115 25) [(3, .inl k), (2, .inl al), (0, .inr (.inr (.inl 170))), (1, .inl n)] [] s_lp := by
    intro u_lp
    induction u_lp using Nat.strongRecOn with
    | _ u_lp ih_lp =>
      intro k al s_lp hi hu_lp
      obtain ⟨gI_lp, jI_lp, tI_lp, vI_lp, i_lp⟩ := hi
      refine yr1_ok (Rt := Q) (wc := (wcL [(59, k_isAhead), (58, k_refuses), (84, k_keeps), (12, k_heatNow), (19, k_passes)])) (stp := [25]) hcm hcl [44] 53 ?_
      show ((n ≤ k → Q (some (.inl al)) s_lp) ∧ (¬ (n ≤ k) → (170 = 170 ∧ (rq_heatNow  s_lp ∧ (∀ (r1 : Int), en_heatNow  s_lp r1 → (170 = 170 ∧ (rq_passes (0) r1 s_lp ∧ (∀ (s2 : zS), en_passes (0) r1 s_lp s2 → ((-2147483648 ≤ k + 1 ∧ k + 1 ≤ 2147483647) ∧ K (rx_find rx_m115 25) [(3, .inl (k + 1)), (2, .inl (zw (al + (s2 170 67)))), (0, .inr (.inr (.inl 170))), (1, .inl n)] [] s2)))))))))
      refine ⟨fun h3 => ?_, fun h3 => ?_⟩
      · exact hQ _ _ ⟨gI_lp, jI_lp, tI_lp, vI_lp⟩
      · refine ⟨rfl, gI_lp, fun r1 q1 => ?_⟩
        have e1 := q1
        change -2147483648 ≤ r1 ∧ r1 ≤ 2147483647 at e1
        refine ⟨rfl, ⟨gI_lp, (show jS s_lp from jI_lp.1), (show jC s_lp from jI_lp.2.2), (show jgd s_lp (0) from jI_lp.2.1.1), (show 0 ≤ (0) ∧ (0) ≤ 21 ∧ -2147483648 ≤ r1 ∧ r1 ≤ 2147483647 from by omega)⟩, fun s2 q2 => ?_⟩
        obtain ⟨gs2, fs2, gn2, o2, pp2⟩ := q2
        change jgd s2 (0) at gn2
        change ∀ i : Nat, ¬ (30 * (0) ≤ (i : Int) ∧ (i : Int) < 30 * (0) + 30) → s2 203 i = s_lp 203 i at o2
        change ∀ i : Nat, ¬ (i : Int) = (0) → s2 202 i = s_lp 202 i at pp2
        have g4 := g_time gs2
        refine ⟨by omega, ?_⟩
        exact ih_lp _ (show (n - (k + 1) : Int).toNat < u_lp from by omega) (k + 1) (zw (al + (s2 170 67))) s2 ⟨gs2, (zJ_slot (st := s_lp) (v := 0) gI_lp jI_lp (by omega) (fs2 170 13 rfl rfl) (fs2 170 56 rfl rfl) (fs2 170 57 rfl rfl) (fun i => fs2 172 i rfl rfl) (fun i => fs2 176 i rfl rfl) (fun i => fs2 177 i rfl rfl) (fun i => fs2 186 i rfl rfl) (fun i => fs2 187 i rfl rfl) (fun i => fs2 188 i rfl rfl) o2 pp2 (fun _ => gn2)), ((fs2 170 1 rfl rfl).trans tI_lp), (zV0_tr vI_lp (zV0_fr rfl fs2)), (show 0 ≤ (k + 1) ∧ (k + 1) ≤ n ∧ n ≤ 40 from by omega)⟩ rfl
  refine yr1_ok (Rt := Q) (wc := (wcL [(59, k_isAhead), (58, k_refuses), (84, k_keeps), (12, k_heatNow), (19, k_passes)])) (stp := [25]) hcm hcl [44] 53 ?_
  show (170 = 170 ∧ (rq_isAhead n (1) (40) st ∧ (∀ (r5 : Int), en_isAhead n (1) (40) st r5 → ((¬ r5 = (0 : Int) → (170 = 170 ∧ (rq_keeps  st ∧ (∀ (s6 : zS), en_keeps  st s6 → K (rx_find rx_m115 25) [(3, .inl 0), (2, .inl 0), (0, .inr (.inr (.inl 170))), (1, .inl n)] [] s6)))) ∧ (¬ (¬ r5 = (0 : Int)) → (170 = 170 ∧ (rq_refuses (2) st ∧ (∀ (r7 : Int) (s7 : zS), en_refuses (2) st r7 s7 → Q (some (.inl r7)) s7))))))))
  refine ⟨rfl, ⟨hG, (show 0 ≤ (1) ∧ (40) ≤ 40 from by omega)⟩, fun r5 q5 => ?_⟩
  have b5 := q5
  change (r5 = 0 ∨ r5 = 1) ∧ (r5 = 1 → (1) ≤ n ∧ n ≤ (40)) at b5
  refine ⟨fun h8 => ?_, fun h8 => ?_⟩
  · refine ⟨rfl, ⟨hG, hJ⟩, fun s6 q6 => ?_⟩
    obtain ⟨gs6, fs6, js6, n6, n36⟩ := q6
    change s6 202 (0 : Int).toNat = st 202 (0 : Int).toNat at n6
    change ∀ i : Nat, (i : Int) < 30 → s6 203 i = st 203 i at n36
    exact lp _ 0 0 s6 ⟨gs6, js6, (fs6 170 1 rfl rfl), (zV0_tr (zV0_rf _) (zV0_fr rfl fs6)), (show 0 ≤ (0 : Int) ∧ (0 : Int) ≤ n ∧ n ≤ 40 from by omega)⟩ rfl
  · refine ⟨rfl, ⟨hG, (show 0 ≤ (2) ∧ (2) ≤ 5 from by omega)⟩, fun r7 s7 q7 => ?_⟩
    obtain ⟨gs7, fs7, e7⟩ := q7
    change r7 = -1 at e7
    exact hQ _ _ ⟨gs7, (zJ_fr rfl fs7 hJ), (fs7 170 1 rfl rfl), (zV0_tr (zV0_rf _) (zV0_fr rfl fs7))⟩
theorem k_years_m (hTb : aTb zSh rx_tb cl) {D : Nat} (hD : 7 ≤ D) : ∀ as st (Q Q' : zQ), (∀ r st', Q r st' → Q' r st') → k_years 115 as st Q → cl D 115 as st Q' := by
  intro as st Q Q' hQ h
  unfold k_years at h
  split at h
  · obtain ⟨rfl, h⟩ := h
    exact c_years hTb hD (ct_years_m hQ h)
  · exact h.elim
set_option maxHeartbeats 40000000 in
set_option maxRecDepth 100000 in
theorem c_chance (hTb : aTb zSh rx_tb cl) {D : Nat} (hD : 7 ≤ D) {n : Int} {st : zS} {Q : zQ} (h : ct_chance n st Q) : cl D 117 [.inr (.inr (.inl 170)), .inl n] st Q := by
  obtain ⟨d, rfl⟩ : ∃ d, D = d + 1 := ⟨D - 1, by omega⟩
  refine hTb d 117 (rx_m117, 5, 0, 0, 1) rfl _ _ _ (Nat.le_of_ble_eq_true rfl) (fun K hcl hsf hsl => ?_)
  have hcm : zmo (wcL [(59, k_isAhead), (58, k_refuses), (84, k_keeps), (12, k_heatNow), (40, k_draw), (19, k_passes)]) (cl d) := (wcL_m (wm_cons (k_isAhead_m hTb (by omega)) (wm_cons (k_refuses_m hTb (by omega)) (wm_cons (k_keeps_m hTb (by omega)) (wm_cons (k_heatNow_m hTb (by omega)) (wm_cons (k_draw_m hTb (by omega)) (wm_cons (k_passes_m hTb (by omega)) wm_nil)))))))
  obtain ⟨hR, hQ⟩ := h
  obtain ⟨hG, hJ⟩ := hR
  have lp : ∀ (u : Nat) (k : Int) (ho : Int) (s_lp : zS), gInv zgt s_lp ∧ zJ s_lp ∧ s_lp 170 1 = st 170 1 ∧ zV0 st s_lp ∧ (0 ≤ k ∧ k ≤ n ∧ n ≤ 40 ∧ 0 ≤ ho ∧ ho ≤ k) → (n - k).toNat = u → K (rx_find rx_m117 25) [(3, .inl k), (2, .inl ho), (0, .inr (.inr (.inl 170))), (1, .inl n)] [] s_lp := by
    intro u_lp
    induction u_lp using Nat.strongRecOn with
    | _ u_lp ih_lp =>
      intro k ho s_lp hi hu_lp
      obtain ⟨gI_lp, jI_lp, tI_lp, vI_lp, i_lp⟩ := hi
      refine yr1_ok (Rt := Q) (wc := (wcL [(59, k_isAhead), (58, k_refuses), (84, k_keeps), (12, k_heatNow), (40, k_draw), (19, k_passes)])) (stp := [25]) hcm hcl [] 64 ?_
      show ((n ≤ k → Q (some (.inl ho)) s_lp) ∧ (¬ (n ≤ k) → (170 = 170 ∧ (rq_heatNow  s_lp ∧ (∀ (r1 : Int), en_heatNow  s_lp r1 → (170 = 170 ∧ (rq_draw (100) s_lp ∧ (∀ (r2 : Int) (s2 : zS), en_draw (100) s_lp r2 s2 → ((0 ≤ s2 170 13 ∧ s2 170 13 < 2) ∧ ((s2 185 (s2 170 13 : Int).toNat ≤ r2 → (170 = 170 ∧ (rq_passes (0) r1 s2 ∧ (∀ (s3 : zS), en_passes (0) r1 s2 s3 → ((-2147483648 ≤ k + 1 ∧ k + 1 ≤ 2147483647) ∧ K (rx_find rx_m117 25) [(3, .inl (k + 1)), (4, .inl r1), (2, .inl ho), (0, .inr (.inr (.inl 170))), (1, .inl n)] [] s3))))) ∧ (¬ (s2 185 (s2 170 13 : Int).toNat ≤ r2) → (170 = 170 ∧ (rq_draw (41) s2 ∧ (∀ (r4 : Int) (s4 : zS), en_draw (41) s2 r4 s4 → ((-2147483648 ≤ ho + 1 ∧ ho + 1 ≤ 2147483647) ∧ (170 = 170 ∧ (rq_passes (0) r4 s4 ∧ (∀ (s5 : zS), en_passes (0) r4 s4 s5 → ((-2147483648 ≤ k + 1 ∧ k + 1 ≤ 2147483647) ∧ K (rx_find rx_m117 25) [(3, .inl (k + 1)), (2, .inl (ho + 1)), (4, .inl r4), (0, .inr (.inr (.inl 170))), (1, .inl n)] [] s5)))))))))))))))))))
      refine ⟨fun h6 => ?_, fun h6 => ?_⟩
      · exact hQ _ _ ⟨gI_lp, jI_lp, tI_lp, vI_lp⟩
      · refine ⟨rfl, gI_lp, fun r1 q1 => ?_⟩
        have e1 := q1
        change -2147483648 ≤ r1 ∧ r1 ≤ 2147483647 at e1
        refine ⟨rfl, ⟨gI_lp, (show 1 ≤ (100) ∧ (100) ≤ 2147483647 from by omega)⟩, fun r2 s2 q2 => ?_⟩
        obtain ⟨gs2, fs2, e2⟩ := q2
        change -2147483648 ≤ r2 ∧ r2 ≤ 2147483647 at e2
        have g8 := g_bank gI_lp
        have e7 : s2 170 13 = s_lp 170 13 := fs2 170 13 rfl rfl
        have g10 := g_hotTold gI_lp (s_lp 170 13 : Int).toNat
        have e9 : s2 185 (s2 170 13 : Int).toNat = s_lp 185 (s_lp 170 13 : Int).toNat := (fs2 185 (s2 170 13 : Int).toNat rfl rfl).trans (by rw [e7] <;> rfl)
        refine ⟨by omega, ?_⟩
        refine ⟨fun h11 => ?_, fun h11 => ?_⟩
        · refine ⟨rfl, ⟨gs2, (show jS s2 from (zJ_fr rfl fs2 jI_lp).1), (show jC s2 from (zJ_fr rfl fs2 jI_lp).2.2), (show jgd s2 (0) from (zJ_fr rfl fs2 jI_lp).2.1.1), (show 0 ≤ (0) ∧ (0) ≤ 21 ∧ -2147483648 ≤ r1 ∧ r1 ≤ 2147483647 from by omega)⟩, fun s3 q3 => ?_⟩
          obtain ⟨gs3, fs3, gn3, o3, pp3⟩ := q3
          change jgd s3 (0) at gn3
          change ∀ i : Nat, ¬ (30 * (0) ≤ (i : Int) ∧ (i : Int) < 30 * (0) + 30) → s3 203 i = s2 203 i at o3
          change ∀ i : Nat, ¬ (i : Int) = (0) → s3 202 i = s2 202 i at pp3
          refine ⟨by omega, ?_⟩
          exact hsl _ _ _ _ _ (sb_cons (.head _) (sb_cons (.tail _ (.tail _ (.head _))) (sb_cons (.tail _ (.tail _ (.tail _ (.head _)))) (sb_cons (.tail _ (.tail _ (.tail _ (.tail _ (.head _))))) sb_nil)))) (ih_lp _ (show (n - (k + 1) : Int).toNat < u_lp from by omega) (k + 1) ho s3 ⟨gs3, (zJ_slot (st := s2) (v := 0) gs2 (zJ_fr rfl fs2 jI_lp) (by omega) (fs3 170 13 rfl rfl) (fs3 170 56 rfl rfl) (fs3 170 57 rfl rfl) (fun i => fs3 172 i rfl rfl) (fun i => fs3 176 i rfl rfl) (fun i => fs3 177 i rfl rfl) (fun i => fs3 186 i rfl rfl) (fun i => fs3 187 i rfl rfl) (fun i => fs3 188 i rfl rfl) o3 pp3 (fun _ => gn3)), ((fs3 170 1 rfl rfl).trans ((fs2 170 1 rfl rfl).trans tI_lp)), (zV0_tr (zV0_tr vI_lp (zV0_fr rfl fs2)) (zV0_fr rfl fs3)), (show 0 ≤ (k + 1) ∧ (k + 1) ≤ n ∧ n ≤ 40 ∧ 0 ≤ ho ∧ ho ≤ (k + 1) from by omega)⟩ rfl)
        · refine ⟨rfl, ⟨gs2, (show 1 ≤ (41) ∧ (41) ≤ 2147483647 from by omega)⟩, fun r4 s4 q4 => ?_⟩
          obtain ⟨gs4, fs4, e4⟩ := q4
          change -2147483648 ≤ r4 ∧ r4 ≤ 2147483647 at e4
          refine ⟨by omega, ?_⟩
          refine ⟨rfl, ⟨gs4, (show jS s4 from (zJ_fr rfl fs4 (zJ_fr rfl fs2 jI_lp)).1), (show jC s4 from (zJ_fr rfl fs4 (zJ_fr rfl fs2 jI_lp)).2.2), (show jgd s4 (0) from (zJ_fr rfl fs4 (zJ_fr rfl fs2 jI_lp)).2.1.1), (show 0 ≤ (0) ∧ (0) ≤ 21 ∧ -2147483648 ≤ r4 ∧ r4 ≤ 2147483647 from by omega)⟩, fun s5 q5 => ?_⟩
          obtain ⟨gs5, fs5, gn5, o5, pp5⟩ := q5
          change jgd s5 (0) at gn5
          change ∀ i : Nat, ¬ (30 * (0) ≤ (i : Int) ∧ (i : Int) < 30 * (0) + 30) → s5 203 i = s4 203 i at o5
          change ∀ i : Nat, ¬ (i : Int) = (0) → s5 202 i = s4 202 i at pp5
          refine ⟨by omega, ?_⟩
          exact hsl _ _ _ _ _ (sb_cons (.head _) (sb_cons (.tail _ (.head _)) (sb_cons (.tail _ (.tail _ (.tail _ (.head _)))) (sb_cons (.tail _ (.tail _ (.tail _ (.tail _ (.head _))))) sb_nil)))) (ih_lp _ (show (n - (k + 1) : Int).toNat < u_lp from by omega) (k + 1) (ho + 1) s5 ⟨gs5, (zJ_slot (st := s4) (v := 0) gs4 (zJ_fr rfl fs4 (zJ_fr rfl fs2 jI_lp)) (by omega) (fs5 170 13 rfl rfl) (fs5 170 56 rfl rfl) (fs5 170 57 rfl rfl) (fun i => fs5 172 i rfl rfl) (fun i => fs5 176 i rfl rfl) (fun i => fs5 177 i rfl rfl) (fun i => fs5 186 i rfl rfl) (fun i => fs5 187 i rfl rfl) (fun i => fs5 188 i rfl rfl) o5 pp5 (fun _ => gn5)), ((fs5 170 1 rfl rfl).trans ((fs4 170 1 rfl rfl).trans ((fs2 170 1 rfl rfl).trans tI_lp))), (zV0_tr (zV0_tr (zV0_tr vI_lp (zV0_fr rfl fs2)) (zV0_fr rfl fs4)) (zV0_fr rfl fs5)), (show 0 ≤ (k + 1) ∧ (k + 1) ≤ n ∧ n ≤ 40 ∧ 0 ≤ (ho + 1) ∧ (ho + 1) ≤ (k + 1) from by omega)⟩ rfl)
  refine yr1_ok (Rt := Q) (wc := (wcL [(59, k_isAhead), (58, k_refuses), (84, k_keeps), (12, k_heatNow), (40, k_draw), (19, k_passes)])) (stp := [25]) hcm hcl [] 64 ?_
  show (170 = 170 ∧ (rq_isAhead n (1) (40) st ∧ (∀ (r12 : Int), en_isAhead n (1) (40) st r12 → ((¬ r12 = (0 : Int) → (170 = 170 ∧ (rq_keeps  st ∧ (∀ (s13 : zS), en_keeps  st s13 → K (rx_find rx_m117 25) [(3, .inl 0), (2, .inl 0), (0, .inr (.inr (.inl 170))), (1, .inl n)] [] s13)))) ∧ (¬ (¬ r12 = (0 : Int)) → (170 = 170 ∧ (rq_refuses (2) st ∧ (∀ (r14 : Int) (s14 : zS), en_refuses (2) st r14 s14 → Q (some (.inl r14)) s14))))))))
  refine ⟨rfl, ⟨hG, (show 0 ≤ (1) ∧ (40) ≤ 40 from by omega)⟩, fun r12 q12 => ?_⟩
  have b12 := q12
  change (r12 = 0 ∨ r12 = 1) ∧ (r12 = 1 → (1) ≤ n ∧ n ≤ (40)) at b12
  refine ⟨fun h15 => ?_, fun h15 => ?_⟩
  · refine ⟨rfl, ⟨hG, hJ⟩, fun s13 q13 => ?_⟩
    obtain ⟨gs13, fs13, js13, n13, n313⟩ := q13
    change s13 202 (0 : Int).toNat = st 202 (0 : Int).toNat at n13
    change ∀ i : Nat, (i : Int) < 30 → s13 203 i = st 203 i at n313
    exact lp _ 0 0 s13 ⟨gs13, js13, (fs13 170 1 rfl rfl), (zV0_tr (zV0_rf _) (zV0_fr rfl fs13)), (show 0 ≤ (0 : Int) ∧ (0 : Int) ≤ n ∧ n ≤ 40 ∧ 0 ≤ (0 : Int) ∧ (0 : Int) ≤ (0 : Int) from by omega)⟩ rfl
  · refine ⟨rfl, ⟨hG, (show 0 ≤ (2) ∧ (2) ≤ 5 from by omega)⟩, fun r14 s14 q14 => ?_⟩
    obtain ⟨gs14, fs14, e14⟩ := q14
    change r14 = -1 at e14
    exact hQ _ _ ⟨gs14, (zJ_fr rfl fs14 hJ), (fs14 170 1 rfl rfl), (zV0_tr (zV0_rf _) (zV0_fr rfl fs14))⟩
theorem k_chance_m (hTb : aTb zSh rx_tb cl) {D : Nat} (hD : 7 ≤ D) : ∀ as st (Q Q' : zQ), (∀ r st', Q r st' → Q' r st') → k_chance 117 as st Q → cl D 117 as st Q' := by
  intro as st Q Q' hQ h
  unfold k_chance at h
  split at h
  · obtain ⟨rfl, h⟩ := h
    exact c_chance hTb hD (ct_chance_m hQ h)
  · exact h.elim
end R7j
