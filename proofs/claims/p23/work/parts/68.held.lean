/-! printed by wip/p32/lib3.py: the reference's held operators and frames -/
def en_rank (o : Int) (st : zS) (r : Int) : Prop := (r = rkf o)
def ct_rank (o : Int) (st : zS) (Q : zQ) : Prop := ∀ (r : Int), en_rank o st r → Q (some (.inl r)) st
theorem ct_rank_m {o : Int} {st : zS} {Q Q' : zQ} (hQ : ∀ r st', Q r st' → Q' r st') (h : ct_rank o st Q) : ct_rank o st Q' := fun x0 x1 => hQ _ _ (h x0 x1)
def k_rank : zCall := fun _ as st Q => match as with
  | [.inl o] => ct_rank o st Q
  | _ => False
theorem k_rank_mon : zmon k_rank := by
  intro nu as st Q Q' hQ h
  unfold k_rank at h ⊢
  split at h
  · exact ct_rank_m hQ h
  · exact h.elim
def rq_add (k : Int) (v : Int) (st : zS) : Prop := gInv zgt st ∧ (st 170 34 ≤ 1599)
def ct_add (k : Int) (v : Int) (st : zS) (Q : zQ) : Prop := rq_add k v st ∧ Q none (zup (zup (zup st 188 ((1600 : Int) * (st 170 35) + (st 170 34) : Int).toNat k) 189 ((1600 : Int) * (st 170 35) + (st 170 34) : Int).toNat v) 170 34 ((st 170 34) + 1))
theorem ct_add_m {k v : Int} {st : zS} {Q Q' : zQ} (hQ : ∀ r st', Q r st' → Q' r st') (h : ct_add k v st Q) : ct_add k v st Q' := ⟨h.1, hQ _ _ (h.2)⟩
def k_add : zCall := fun _ as st Q => match as with
  | [.inr (.inr (.inl z_o)), .inl k, .inl v] => z_o = 170 ∧ ct_add k v st Q
  | _ => False
theorem k_add_mon : zmon k_add := by
  intro nu as st Q Q' hQ h
  unfold k_add at h ⊢
  split at h
  · exact ⟨h.1, ct_add_m hQ h.2⟩
  · exact h.elim
def rq_holdsBack (o : Int) (st : zS) : Prop := gInv zgt st ∧ (0 ≤ st 170 45 ∧ st 170 45 ≤ 499)
def ct_holdsBack (o : Int) (st : zS) (Q : zQ) : Prop := rq_holdsBack o st ∧ Q none (zup (zup st 197 (st 170 45 : Int).toNat o) 170 45 ((st 170 45) + 1))
theorem ct_holdsBack_m {o : Int} {st : zS} {Q Q' : zQ} (hQ : ∀ r st', Q r st' → Q' r st') (h : ct_holdsBack o st Q) : ct_holdsBack o st Q' := ⟨h.1, hQ _ _ (h.2)⟩
def k_holdsBack : zCall := fun _ as st Q => match as with
  | [.inr (.inr (.inl z_o)), .inl o] => z_o = 170 ∧ ct_holdsBack o st Q
  | _ => False
theorem k_holdsBack_mon : zmon k_holdsBack := by
  intro nu as st Q Q' hQ h
  unfold k_holdsBack at h ⊢
  split at h
  · exact ⟨h.1, ct_holdsBack_m hQ h.2⟩
  · exact h.elim
def rq_pushes (k : Int) (st : zS) : Prop := gInv zgt st ∧ (0 ≤ st 170 42 ∧ st 170 42 ≤ 19)
def ct_pushes (k : Int) (st : zS) (Q : zQ) : Prop := rq_pushes k st ∧ Q none (zup (zup (zup (zup (zup st 192 (st 170 42 : Int).toNat k) 193 (st 170 42 : Int).toNat 0) 194 (st 170 42 : Int).toNat 1) 196 (st 170 42 : Int).toNat (st 170 45)) 170 42 ((st 170 42) + 1))
theorem ct_pushes_m {k : Int} {st : zS} {Q Q' : zQ} (hQ : ∀ r st', Q r st' → Q' r st') (h : ct_pushes k st Q) : ct_pushes k st Q' := ⟨h.1, hQ _ _ (h.2)⟩
def k_pushes : zCall := fun _ as st Q => match as with
  | [.inr (.inr (.inl z_o)), .inl k] => z_o = 170 ∧ ct_pushes k st Q
  | _ => False
theorem k_pushes_mon : zmon k_pushes := by
  intro nu as st Q Q' hQ h
  unfold k_pushes at h ⊢
  split at h
  · exact ⟨h.1, ct_pushes_m hQ h.2⟩
  · exact h.elim
def m_joins : aM := ([(170, 34), (170, 43), (170, 45)], [188, 189])
def rq_joins (l : Int) (st : zS) : Prop := gInv zgt st ∧ (PF st 1 (st 170 4))
def en_joins (l : Int) (st : zS) (s1 : zS) : Prop := gInv zgt s1 ∧ aFr m_joins st s1 ∧ (PF s1 1 (st 170 4)) ∧ (s1 170 45 = s1 196 (s1 170 42 - 1 : Int).toNat ∨ rkf (s1 197 (s1 170 45 - 1 : Int).toNat) < l) ∧ (∀ i : Nat, (i : Int) < 1600 * st 170 35 + st 170 34 ∨ 1600 * st 170 35 + 1600 ≤ (i : Int) → s1 188 i = st 188 i) ∧ (st 170 34 ≤ s1 170 34 ∧ s1 170 34 + s1 170 45 = st 170 34 + st 170 45)
def ct_joins (l : Int) (st : zS) (Q : zQ) : Prop := rq_joins l st ∧ (∀ (s1 : zS), en_joins l st s1 → Q none s1)
theorem ct_joins_m {l : Int} {st : zS} {Q Q' : zQ} (hQ : ∀ r st', Q r st' → Q' r st') (h : ct_joins l st Q) : ct_joins l st Q' := ⟨h.1, fun x0 x1 => hQ _ _ (h.2 x0 x1)⟩
def k_joins : zCall := fun _ as st Q => match as with
  | [.inr (.inr (.inl z_o)), .inl l] => z_o = 170 ∧ ct_joins l st Q
  | _ => False
theorem k_joins_mon : zmon k_joins := by
  intro nu as st Q Q' hQ h
  unfold k_joins at h ⊢
  split at h
  · exact ⟨h.1, ct_joins_m hQ h.2⟩
  · exact h.elim
def m_opens : aM := ([(170, 3), (170, 4), (170, 5), (170, 6), (170, 7), (170, 8), (170, 9), (170, 12), (170, 42), (170, 43)], [192, 193, 194, 196])
def rq_opens (k : Int) (st : zS) : Prop := gInv zgt st ∧ (st 170 4 ≤ st 170 5 ∧ st 170 5 ≤ st 170 2 ∧ (st 170 3 = 0 ∧ st 170 4 = st 170 2 ∨ 1 ≤ st 170 3 ∧ st 170 4 < st 170 5)) ∧ (st 170 8 = 0 → PF st 0 (st 170 4) ∧ 1 ≤ st 170 3) ∧ (2 ≤ k ∧ k ≤ 6) ∧ (st 194 (st 170 42 - 1 : Int).toNat = 0)
def en_opens (k : Int) (st : zS) (s1 : zS) : Prop := gInv zgt s1 ∧ aFr m_opens st s1 ∧ (s1 170 4 ≤ s1 170 5 ∧ s1 170 5 ≤ s1 170 2 ∧ (s1 170 3 = 0 ∧ s1 170 4 = s1 170 2 ∨ 1 ≤ s1 170 3 ∧ s1 170 4 < s1 170 5) ∧ st 170 4 ≤ s1 170 4 ∧ (s1 170 8 = 0 → st 170 8 = 0 ∧ st 170 5 ≤ s1 170 4 ∧ 1 ≤ st 170 3)) ∧ (s1 170 8 = 0 → PW s1 0 0 (s1 170 4) ∧ s1 192 (s1 170 42 - 1 : Int).toNat = k ∧ PHS s1) ∧ (s1 170 8 = 0 → 2 ≤ s1 170 42 ∧ s1 170 42 ≤ 8)
def ct_opens (k : Int) (st : zS) (Q : zQ) : Prop := rq_opens k st ∧ (∀ (s1 : zS), en_opens k st s1 → Q none s1)
theorem ct_opens_m {k : Int} {st : zS} {Q Q' : zQ} (hQ : ∀ r st', Q r st' → Q' r st') (h : ct_opens k st Q) : ct_opens k st Q' := ⟨h.1, fun x0 x1 => hQ _ _ (h.2 x0 x1)⟩
def k_opens : zCall := fun _ as st Q => match as with
  | [.inr (.inr (.inl z_o)), .inl k] => z_o = 170 ∧ ct_opens k st Q
  | _ => False
theorem k_opens_mon : zmon k_opens := by
  intro nu as st Q Q' hQ h
  unfold k_opens at h ⊢
  split at h
  · exact ⟨h.1, ct_opens_m hQ h.2⟩
  · exact h.elim
section R68
variable {cl : Nat → zCall}
set_option maxRecDepth 100000 in
theorem c_rank (hTb : aTb zSh rx_tb cl) {D : Nat} (hD : 1 ≤ D) {o : Int} {st : zS} {Q : zQ} (h : ct_rank o st Q) : cl D 190 [.inl o] st Q := by
  obtain ⟨d, rfl⟩ : ∃ d, D = d + 1 := ⟨D - 1, by omega⟩
  refine hTb d 190 (rx_m190, 1, 0, 0, 1) rfl _ _ _ (Nat.le_of_ble_eq_true rfl) (fun K hcl hsf hsl => ?_)
  have hcm : zmo (zno) (cl d) := zno_m
  have hQ := h
  refine yr1_ok (Rt := Q) (wc := (zno)) (stp := []) hcm hcl [] 56 ?_
  show ((¬ o = (42 : Int) → ((¬ o = (41 : Int) → ((¬ o = (43 : Int) → ((o = (38 : Int) → Q (some (.inl 4)) st) ∧ (¬ (o = (38 : Int)) → ((o = (39 : Int) → Q (some (.inl 4)) st) ∧ (¬ (o = (39 : Int)) → ((¬ o = (40 : Int) → ((o = (31 : Int) → Q (some (.inl 5)) st) ∧ (¬ (o = (31 : Int)) → ((¬ o = (32 : Int) → Q (some (.inl 6)) st) ∧ (¬ (¬ o = (32 : Int)) → Q (some (.inl 5)) st))))) ∧ (¬ (¬ o = (40 : Int)) → Q (some (.inl 4)) st))))))) ∧ (¬ (¬ o = (43 : Int)) → Q (some (.inl 3)) st))) ∧ (¬ (¬ o = (41 : Int)) → Q (some (.inl 2)) st))) ∧ (¬ (¬ o = (42 : Int)) → Q (some (.inl 1)) st))
  refine ⟨fun h1 => ?_, fun h1 => ?_⟩
  · refine ⟨fun h2 => ?_, fun h2 => ?_⟩
    · refine ⟨fun h3 => ?_, fun h3 => ?_⟩
      · refine ⟨fun h4 => ?_, fun h4 => ?_⟩
        · exact hQ _ (show (4 : Int) = rkf o from (by unfold rkf; (repeat' split) <;> omega))
        · refine ⟨fun h5 => ?_, fun h5 => ?_⟩
          · exact hQ _ (show (4 : Int) = rkf o from (by unfold rkf; (repeat' split) <;> omega))
          · refine ⟨fun h6 => ?_, fun h6 => ?_⟩
            · refine ⟨fun h7 => ?_, fun h7 => ?_⟩
              · exact hQ _ (show (5 : Int) = rkf o from (by unfold rkf; (repeat' split) <;> omega))
              · refine ⟨fun h8 => ?_, fun h8 => ?_⟩
                · exact hQ _ (show (6 : Int) = rkf o from (by unfold rkf; (repeat' split) <;> omega))
                · exact hQ _ (show (5 : Int) = rkf o from (by unfold rkf; (repeat' split) <;> omega))
            · exact hQ _ (show (4 : Int) = rkf o from (by unfold rkf; (repeat' split) <;> omega))
      · exact hQ _ (show (3 : Int) = rkf o from (by unfold rkf; (repeat' split) <;> omega))
    · exact hQ _ (show (2 : Int) = rkf o from (by unfold rkf; (repeat' split) <;> omega))
  · exact hQ _ (show (1 : Int) = rkf o from (by unfold rkf; (repeat' split) <;> omega))
theorem k_rank_m (hTb : aTb zSh rx_tb cl) {D : Nat} (hD : 1 ≤ D) : ∀ as st (Q Q' : zQ), (∀ r st', Q r st' → Q' r st') → k_rank 190 as st Q → cl D 190 as st Q' := by
  intro as st Q Q' hQ h
  unfold k_rank at h
  split at h
  · exact c_rank hTb hD (ct_rank_m hQ h)
  · exact h.elim
set_option maxRecDepth 100000 in
theorem c_add (hTb : aTb zSh rx_tb cl) {D : Nat} (hD : 1 ≤ D) {k v : Int} {st : zS} {Q : zQ} (h : ct_add k v st Q) : cl D 189 [.inr (.inr (.inl 170)), .inl k, .inl v] st Q := by
  obtain ⟨d, rfl⟩ : ∃ d, D = d + 1 := ⟨D - 1, by omega⟩
  refine hTb d 189 (rx_m189, 3, 0, 0, 0) rfl _ _ _ (Nat.le_of_ble_eq_true rfl) (fun K hcl hsf hsl => ?_)
  have hcm : zmo (zno) (cl d) := zno_m
  obtain ⟨hR, hQ⟩ := h
  obtain ⟨hG, hr1⟩ := hR
  change st 170 34 ≤ 1599 at hr1
  have g1 := g_codes hG
  refine yr1_ok (Rt := Q) (wc := (zno)) (stp := []) hcm hcl [] 49 ?_
  show ((-2147483648 ≤ (1600 : Int) * (st 170 35) ∧ (1600 : Int) * (st 170 35) ≤ 2147483647) ∧ ((-2147483648 ≤ ((1600 : Int) * (st 170 35)) + (st 170 34) ∧ ((1600 : Int) * (st 170 35)) + (st 170 34) ≤ 2147483647) ∧ ((0 ≤ ((1600 : Int) * (st 170 35)) + (st 170 34) ∧ ((1600 : Int) * (st 170 35)) + (st 170 34) < 3200) ∧ ((-2147483648 ≤ (1600 : Int) * (st 170 35) ∧ (1600 : Int) * (st 170 35) ≤ 2147483647) ∧ ((-2147483648 ≤ ((1600 : Int) * (st 170 35)) + (st 170 34) ∧ ((1600 : Int) * (st 170 35)) + (st 170 34) ≤ 2147483647) ∧ ((0 ≤ ((1600 : Int) * (st 170 35)) + (st 170 34) ∧ ((1600 : Int) * (st 170 35)) + (st 170 34) < 3200) ∧ ((-2147483648 ≤ (st 170 34) + 1 ∧ (st 170 34) + 1 ≤ 2147483647) ∧ Q none (zup (zup (zup st 188 (((1600 : Int) * (st 170 35)) + (st 170 34) : Int).toNat k) 189 (((1600 : Int) * (st 170 35)) + (st 170 34) : Int).toNat v) 170 34 ((st 170 34) + 1)))))))))
  have g2 := g_in hG
  refine ⟨by omega, ?_⟩
  refine ⟨by omega, ?_⟩
  refine ⟨by omega, ?_⟩
  refine ⟨by omega, ?_⟩
  refine ⟨by omega, ?_⟩
  refine ⟨by omega, ?_⟩
  refine ⟨by omega, ?_⟩
  exact hQ
theorem k_add_m (hTb : aTb zSh rx_tb cl) {D : Nat} (hD : 1 ≤ D) : ∀ as st (Q Q' : zQ), (∀ r st', Q r st' → Q' r st') → k_add 189 as st Q → cl D 189 as st Q' := by
  intro as st Q Q' hQ h
  unfold k_add at h
  split at h
  · obtain ⟨rfl, h⟩ := h
    exact c_add hTb hD (ct_add_m hQ h)
  · exact h.elim
set_option maxRecDepth 100000 in
theorem c_holdsBack (hTb : aTb zSh rx_tb cl) {D : Nat} (hD : 1 ≤ D) {o : Int} {st : zS} {Q : zQ} (h : ct_holdsBack o st Q) : cl D 192 [.inr (.inr (.inl 170)), .inl o] st Q := by
  obtain ⟨d, rfl⟩ : ∃ d, D = d + 1 := ⟨D - 1, by omega⟩
  refine hTb d 192 (rx_m192, 2, 0, 0, 0) rfl _ _ _ (Nat.le_of_ble_eq_true rfl) (fun K hcl hsf hsl => ?_)
  have hcm : zmo (zno) (cl d) := zno_m
  obtain ⟨hR, hQ⟩ := h
  obtain ⟨hG, hr1⟩ := hR
  change 0 ≤ st 170 45 ∧ st 170 45 ≤ 499 at hr1
  have g1 := g_opMany hG
  refine yr1_ok (Rt := Q) (wc := (zno)) (stp := []) hcm hcl [] 33 ?_
  show ((0 ≤ st 170 45 ∧ st 170 45 < 500) ∧ ((-2147483648 ≤ (st 170 45) + 1 ∧ (st 170 45) + 1 ≤ 2147483647) ∧ Q none (zup (zup st 197 (st 170 45 : Int).toNat o) 170 45 ((st 170 45) + 1))))
  refine ⟨by omega, ?_⟩
  refine ⟨by omega, ?_⟩
  exact hQ
theorem k_holdsBack_m (hTb : aTb zSh rx_tb cl) {D : Nat} (hD : 1 ≤ D) : ∀ as st (Q Q' : zQ), (∀ r st', Q r st' → Q' r st') → k_holdsBack 192 as st Q → cl D 192 as st Q' := by
  intro as st Q Q' hQ h
  unfold k_holdsBack at h
  split at h
  · obtain ⟨rfl, h⟩ := h
    exact c_holdsBack hTb hD (ct_holdsBack_m hQ h)
  · exact h.elim
set_option maxRecDepth 100000 in
theorem c_pushes (hTb : aTb zSh rx_tb cl) {D : Nat} (hD : 1 ≤ D) {k : Int} {st : zS} {Q : zQ} (h : ct_pushes k st Q) : cl D 193 [.inr (.inr (.inl 170)), .inl k] st Q := by
  obtain ⟨d, rfl⟩ : ∃ d, D = d + 1 := ⟨D - 1, by omega⟩
  refine hTb d 193 (rx_m193, 2, 0, 0, 0) rfl _ _ _ (Nat.le_of_ble_eq_true rfl) (fun K hcl hsf hsl => ?_)
  have hcm : zmo (zno) (cl d) := zno_m
  obtain ⟨hR, hQ⟩ := h
  obtain ⟨hG, hr1⟩ := hR
  change 0 ≤ st 170 42 ∧ st 170 42 ≤ 19 at hr1
  have g1 := g_deep hG
  refine yr1_ok (Rt := Q) (wc := (zno)) (stp := []) hcm hcl [] 52 ?_
  show ((0 ≤ st 170 42 ∧ st 170 42 < 20) ∧ ((0 ≤ st 170 42 ∧ st 170 42 < 20) ∧ ((0 ≤ st 170 42 ∧ st 170 42 < 20) ∧ ((1 = (0 : Int) ∨ 1 = (1 : Int)) ∧ ((0 ≤ st 170 42 ∧ st 170 42 < 20) ∧ ((-2147483648 ≤ (st 170 42) + 1 ∧ (st 170 42) + 1 ≤ 2147483647) ∧ Q none (zup (zup (zup (zup (zup st 192 (st 170 42 : Int).toNat k) 193 (st 170 42 : Int).toNat 0) 194 (st 170 42 : Int).toNat 1) 196 (st 170 42 : Int).toNat (st 170 45)) 170 42 ((st 170 42) + 1))))))))
  refine ⟨by omega, ?_⟩
  refine ⟨by omega, ?_⟩
  refine ⟨by omega, ?_⟩
  refine ⟨by omega, ?_⟩
  have g2 := g_opMany hG
  refine ⟨by omega, ?_⟩
  refine ⟨by omega, ?_⟩
  exact hQ
theorem k_pushes_m (hTb : aTb zSh rx_tb cl) {D : Nat} (hD : 1 ≤ D) : ∀ as st (Q Q' : zQ), (∀ r st', Q r st' → Q' r st') → k_pushes 193 as st Q → cl D 193 as st Q' := by
  intro as st Q Q' hQ h
  unfold k_pushes at h
  split at h
  · obtain ⟨rfl, h⟩ := h
    exact c_pushes hTb hD (ct_pushes_m hQ h)
  · exact h.elim
set_option maxRecDepth 100000 in
theorem c_joins (hTb : aTb zSh rx_tb cl) {D : Nat} (hD : 2 ≤ D) {l : Int} {st : zS} {Q : zQ} (h : ct_joins l st Q) : cl D 191 [.inr (.inr (.inl 170)), .inl l] st Q := by
  obtain ⟨d, rfl⟩ : ∃ d, D = d + 1 := ⟨D - 1, by omega⟩
  refine hTb d 191 (rx_m191, 2, 0, 0, 0) rfl _ _ _ (Nat.le_of_ble_eq_true rfl) (fun K hcl hsf hsl => ?_)
  have hcm : zmo (wcL [(190, k_rank), (189, k_add)]) (cl d) := (wcL_m (wm_cons (k_rank_m hTb (by omega)) (wm_cons (k_add_m hTb (by omega)) wm_nil)))
  obtain ⟨hR, hQ⟩ := h
  obtain ⟨hG, pf⟩ := hR
  change PF st 1 (st 170 4) at pf
  have lp : ∀ (u : Nat) (s_lp : zS), gInv zgt s_lp ∧ aFr m_joins st s_lp ∧ (PF s_lp 1 (st 170 4)) ∧ (∀ i : Nat, (i : Int) < 1600 * st 170 35 + st 170 34 ∨ 1600 * st 170 35 + 1600 ≤ (i : Int) → s_lp 188 i = st 188 i) ∧ (st 170 34 ≤ s_lp 170 34 ∧ s_lp 170 34 + s_lp 170 45 = st 170 34 + st 170 45) → (s_lp 170 45).toNat = u → K (rx_find rx_m191 0) [(0, .inr (.inr (.inl 170))), (1, .inl l)] [] s_lp := by
    intro u
    induction u using Nat.strongRecOn with
    | _ u ih =>
      intro  s_lp hi hu
      obtain ⟨gI_lp, fI_lp, pf_lp, o_lp, c_lp⟩ := hi
      have PF1 := PF_f pf_lp
      have g1 := g_signAt hG
      have g2 := g_in hG
      have g3 := g_codes hG
      have g4 := g_codes gI_lp
      have g5 := g_opMany gI_lp
      have g6 := g_opMany hG
      have e7 : s_lp 170 35 = st 170 35 := fI_lp 170 35 rfl rfl
      have g9 := g_deep hG
      have e8 : s_lp 170 42 = st 170 42 := fI_lp 170 42 rfl rfl
      have g10 := g_open gI_lp
      have e11 : s_lp 170 4 = st 170 4 := fI_lp 170 4 rfl rfl
      refine yr1_ok (Rt := Q) (wc := (wcL [(190, k_rank), (189, k_add)])) (stp := [0]) hcm hcl [] 69 ?_
      show ((-2147483648 ≤ (s_lp 170 42) - 1 ∧ (s_lp 170 42) - 1 ≤ 2147483647) ∧ ((0 ≤ (s_lp 170 42) - 1 ∧ (s_lp 170 42) - 1 < 20) ∧ ((s_lp 170 45 ≤ s_lp 196 ((s_lp 170 42) - 1 : Int).toNat → Q none s_lp) ∧ (¬ (s_lp 170 45 ≤ s_lp 196 ((s_lp 170 42) - 1 : Int).toNat) → ((-2147483648 ≤ (s_lp 170 45) - 1 ∧ (s_lp 170 45) - 1 ≤ 2147483647) ∧ ((0 ≤ (s_lp 170 45) - 1 ∧ (s_lp 170 45) - 1 < 500) ∧ (∀ (r12 : Int), en_rank (s_lp 197 ((s_lp 170 45) - 1 : Int).toNat) s_lp r12 → ((r12 < l → Q none s_lp) ∧ (¬ (r12 < l) → ((-2147483648 ≤ (s_lp 170 45) - 1 ∧ (s_lp 170 45) - 1 ≤ 2147483647) ∧ ((0 ≤ ((s_lp 170 45) - 1) ∧ ((s_lp 170 45) - 1) < 500) ∧ (170 = 170 ∧ (rq_add (s_lp 197 (((s_lp 170 45) - 1) : Int).toNat) (0) (zup s_lp 170 45 ((s_lp 170 45) - 1)) ∧ (((0 ≤ ((s_lp 170 45) - 1) ∧ ((s_lp 170 45) - 1) < 500) ∧ ((¬ s_lp 197 (((s_lp 170 45) - 1) : Int).toNat = (43 : Int) → K (rx_find rx_m191 0) [(0, .inr (.inr (.inl 170))), (1, .inl l)] [] (zup (zup (zup (zup s_lp 170 45 ((s_lp 170 45) - 1)) 188 ((1600 : Int) * (s_lp 170 35) + (s_lp 170 34) : Int).toNat (s_lp 197 (((s_lp 170 45) - 1) : Int).toNat)) 189 ((1600 : Int) * (s_lp 170 35) + (s_lp 170 34) : Int).toNat (0)) 170 34 ((s_lp 170 34) + 1))) ∧ (¬ (¬ s_lp 197 (((s_lp 170 45) - 1) : Int).toNat = (43 : Int)) → ((-2147483648 ≤ (s_lp 170 43) - 1 ∧ (s_lp 170 43) - 1 ≤ 2147483647) ∧ K (rx_find rx_m191 0) [(0, .inr (.inr (.inl 170))), (1, .inl l)] [] (zup (zup (zup (zup (zup s_lp 170 45 ((s_lp 170 45) - 1)) 188 ((1600 : Int) * (s_lp 170 35) + (s_lp 170 34) : Int).toNat (s_lp 197 (((s_lp 170 45) - 1) : Int).toNat)) 189 ((1600 : Int) * (s_lp 170 35) + (s_lp 170 34) : Int).toNat (0)) 170 34 ((s_lp 170 34) + 1)) 170 43 ((s_lp 170 43) - 1))))))))))))))))))))
      refine ⟨by omega, ?_⟩
      have g15 := g_base hG ((st 170 42) - 1 : Int).toNat
      have e14 : s_lp 196 ((s_lp 170 42) - 1 : Int).toNat = st 196 ((st 170 42) - 1 : Int).toNat := (fI_lp 196 ((s_lp 170 42) - 1 : Int).toNat rfl rfl).trans (by rw [e8] <;> rfl)
      refine ⟨by omega, ?_⟩
      refine ⟨fun h16 => ?_, fun h16 => ?_⟩
      · have g18 := g_base hG (st 170 42 - 1 : Int).toNat
        have e17 : s_lp 196 (s_lp 170 42 - 1 : Int).toNat = st 196 (st 170 42 - 1 : Int).toNat := (fI_lp 196 (s_lp 170 42 - 1 : Int).toNat rfl rfl).trans (by rw [e8] <;> rfl)
        have g20 := g_ops hG (s_lp 170 45 - 1 : Int).toNat
        have e19 : s_lp 197 (s_lp 170 45 - 1 : Int).toNat = st 197 (s_lp 170 45 - 1 : Int).toNat := fI_lp 197 (s_lp 170 45 - 1 : Int).toNat rfl rfl
        exact hQ _ ⟨gI_lp, fI_lp, (show PF s_lp 1 (st 170 4) from by omega), (show s_lp 170 45 = s_lp 196 (s_lp 170 42 - 1 : Int).toNat ∨ rkf (s_lp 197 (s_lp 170 45 - 1 : Int).toNat) < l from by omega), (show ∀ i : Nat, (i : Int) < 1600 * st 170 35 + st 170 34 ∨ 1600 * st 170 35 + 1600 ≤ (i : Int) → s_lp 188 i = st 188 i from by omega), (show st 170 34 ≤ s_lp 170 34 ∧ s_lp 170 34 + s_lp 170 45 = st 170 34 + st 170 45 from by omega)⟩
      · refine ⟨by omega, ?_⟩
        have g22 := g_ops hG ((s_lp 170 45) - 1 : Int).toNat
        have e21 : s_lp 197 ((s_lp 170 45) - 1 : Int).toNat = st 197 ((s_lp 170 45) - 1 : Int).toNat := fI_lp 197 ((s_lp 170 45) - 1 : Int).toNat rfl rfl
        refine ⟨by omega, ?_⟩
        refine fun r12 q12 => ?_
        have e12 := q12
        change r12 = rkf (s_lp 197 ((s_lp 170 45) - 1 : Int).toNat) at e12
        refine ⟨fun h23 => ?_, fun h23 => ?_⟩
        · have g25 := g_base hG (st 170 42 - 1 : Int).toNat
          have e24 : s_lp 196 (s_lp 170 42 - 1 : Int).toNat = st 196 (st 170 42 - 1 : Int).toNat := (fI_lp 196 (s_lp 170 42 - 1 : Int).toNat rfl rfl).trans (by rw [e8] <;> rfl)
          have g27 := g_ops hG (s_lp 170 45 - 1 : Int).toNat
          have e26 : s_lp 197 (s_lp 170 45 - 1 : Int).toNat = st 197 (s_lp 170 45 - 1 : Int).toNat := fI_lp 197 (s_lp 170 45 - 1 : Int).toNat rfl rfl
          exact hQ _ ⟨gI_lp, fI_lp, (show PF s_lp 1 (st 170 4) from by omega), (show s_lp 170 45 = s_lp 196 (s_lp 170 42 - 1 : Int).toNat ∨ rkf (s_lp 197 (s_lp 170 45 - 1 : Int).toNat) < l from by omega), (show ∀ i : Nat, (i : Int) < 1600 * st 170 35 + st 170 34 ∨ 1600 * st 170 35 + 1600 ≤ (i : Int) → s_lp 188 i = st 188 i from by omega), (show st 170 34 ≤ s_lp 170 34 ∧ s_lp 170 34 + s_lp 170 45 = st 170 34 + st 170 45 from by omega)⟩
        · refine ⟨by omega, ?_⟩
          have g29 := g_ops hG (((s_lp 170 45) - 1) : Int).toNat
          have e28 : s_lp 197 (((s_lp 170 45) - 1) : Int).toNat = st 197 (((s_lp 170 45) - 1) : Int).toNat := fI_lp 197 (((s_lp 170 45) - 1) : Int).toNat rfl rfl
          refine ⟨by omega, ?_⟩
          refine ⟨rfl, ⟨(gInv_up gI_lp (p_opMany (by omega))), (show s_lp 170 34 ≤ 1599 from by omega)⟩, ?_⟩
          refine ⟨by omega, ?_⟩
          refine ⟨fun h30 => ?_, fun h30 => ?_⟩
          · exact ih _ (show (((s_lp 170 45) - 1) : Int).toNat < u from by omega) (zup (zup (zup (zup s_lp 170 45 ((s_lp 170 45) - 1)) 188 ((1600 : Int) * (s_lp 170 35) + (s_lp 170 34) : Int).toNat (s_lp 197 (((s_lp 170 45) - 1) : Int).toNat)) 189 ((1600 : Int) * (s_lp 170 35) + (s_lp 170 34) : Int).toNat (0)) 170 34 ((s_lp 170 34) + 1)) ⟨(gInv_up (gInv_up (gInv_up (gInv_up gI_lp (p_opMany (by omega))) (p_codeSort (by omega))) (p_codeValue (by omega))) (p_codes (by omega))), (fr_f (fr_a (fr_a (fr_f fI_lp rfl) rfl) rfl) rfl), (show PF (zup (zup (zup (zup s_lp 170 45 ((s_lp 170 45) - 1)) 188 ((1600 : Int) * (s_lp 170 35) + (s_lp 170 34) : Int).toNat (s_lp 197 (((s_lp 170 45) - 1) : Int).toNat)) 189 ((1600 : Int) * (s_lp 170 35) + (s_lp 170 34) : Int).toNat (0)) 170 34 ((s_lp 170 34) + 1)) 1 (st 170 4) from ⟨show PI (s_lp 170 35) (((s_lp 170 34) + 1)) (((s_lp 170 45) - 1)) (s_lp 170 42) (s_lp 170 43) 1 (pa (s_lp 192 (s_lp 170 42 - 1 : Int).toNat) (s_lp 195 (s_lp 170 42 - 1 : Int).toNat)) (st 170 4) (s_lp 197) (s_lp 196) (s_lp 192) (s_lp 195) (s_lp 194) (up1 (s_lp 188) ((1600 : Int) * (s_lp 170 35) + (s_lp 170 34) : Int).toNat (s_lp 197 (((s_lp 170 45) - 1) : Int).toNat)) (f0s s_lp) from PI_pop pf_lp.1 (by omega) (by unfold wt; split <;> omega), pf_lp.2.1, PH_pop pf_lp.2.2⟩), (show ∀ i : Nat, (i : Int) < 1600 * st 170 35 + st 170 34 ∨ 1600 * st 170 35 + 1600 ≤ (i : Int) → (zup (zup (zup (zup s_lp 170 45 ((s_lp 170 45) - 1)) 188 ((1600 : Int) * (s_lp 170 35) + (s_lp 170 34) : Int).toNat (s_lp 197 (((s_lp 170 45) - 1) : Int).toNat)) 189 ((1600 : Int) * (s_lp 170 35) + (s_lp 170 34) : Int).toNat (0)) 170 34 ((s_lp 170 34) + 1)) 188 i = st 188 i from fun i hi => by
            refine Eq.trans ?_ (o_lp i hi)
            exact up1_n (s_lp 188) _ (by omega)), (show st 170 34 ≤ ((s_lp 170 34) + 1) ∧ ((s_lp 170 34) + 1) + ((s_lp 170 45) - 1) = st 170 34 + st 170 45 from by omega)⟩ rfl
          · refine ⟨by omega, ?_⟩
            exact ih _ (show (((s_lp 170 45) - 1) : Int).toNat < u from by omega) (zup (zup (zup (zup (zup s_lp 170 45 ((s_lp 170 45) - 1)) 188 ((1600 : Int) * (s_lp 170 35) + (s_lp 170 34) : Int).toNat (s_lp 197 (((s_lp 170 45) - 1) : Int).toNat)) 189 ((1600 : Int) * (s_lp 170 35) + (s_lp 170 34) : Int).toNat (0)) 170 34 ((s_lp 170 34) + 1)) 170 43 ((s_lp 170 43) - 1)) ⟨(gInv_up (gInv_up (gInv_up (gInv_up (gInv_up gI_lp (p_opMany (by omega))) (p_codeSort (by omega))) (p_codeValue (by omega))) (p_codes (by omega))) (p_open (by omega))), (fr_f (fr_f (fr_a (fr_a (fr_f fI_lp rfl) rfl) rfl) rfl) rfl), (show PF (zup (zup (zup (zup (zup s_lp 170 45 ((s_lp 170 45) - 1)) 188 ((1600 : Int) * (s_lp 170 35) + (s_lp 170 34) : Int).toNat (s_lp 197 (((s_lp 170 45) - 1) : Int).toNat)) 189 ((1600 : Int) * (s_lp 170 35) + (s_lp 170 34) : Int).toNat (0)) 170 34 ((s_lp 170 34) + 1)) 170 43 ((s_lp 170 43) - 1)) 1 (st 170 4) from ⟨show PI (s_lp 170 35) (((s_lp 170 34) + 1)) (((s_lp 170 45) - 1)) (s_lp 170 42) (((s_lp 170 43) - 1)) 1 (pa (s_lp 192 (s_lp 170 42 - 1 : Int).toNat) (s_lp 195 (s_lp 170 42 - 1 : Int).toNat)) (st 170 4) (s_lp 197) (s_lp 196) (s_lp 192) (s_lp 195) (s_lp 194) (up1 (s_lp 188) ((1600 : Int) * (s_lp 170 35) + (s_lp 170 34) : Int).toNat (s_lp 197 (((s_lp 170 45) - 1) : Int).toNat)) (f0s s_lp) from PI_pop pf_lp.1 (by omega) (by unfold wt; split <;> omega), pf_lp.2.1, PH_pop pf_lp.2.2⟩), (show ∀ i : Nat, (i : Int) < 1600 * st 170 35 + st 170 34 ∨ 1600 * st 170 35 + 1600 ≤ (i : Int) → (zup (zup (zup (zup (zup s_lp 170 45 ((s_lp 170 45) - 1)) 188 ((1600 : Int) * (s_lp 170 35) + (s_lp 170 34) : Int).toNat (s_lp 197 (((s_lp 170 45) - 1) : Int).toNat)) 189 ((1600 : Int) * (s_lp 170 35) + (s_lp 170 34) : Int).toNat (0)) 170 34 ((s_lp 170 34) + 1)) 170 43 ((s_lp 170 43) - 1)) 188 i = st 188 i from fun i hi => by
            refine Eq.trans ?_ (o_lp i hi)
            exact up1_n (s_lp 188) _ (by omega)), (show st 170 34 ≤ ((s_lp 170 34) + 1) ∧ ((s_lp 170 34) + 1) + ((s_lp 170 45) - 1) = st 170 34 + st 170 45 from by omega)⟩ rfl
  have g31 := g_signAt hG
  show K (rx_find rx_m191 0) [(0, .inr (.inr (.inl 170))), (1, .inl l)] [] st
  have g32 := g_in hG
  have g33 := g_codes hG
  have g34 := g_opMany hG
  exact lp _ st ⟨hG, (fr_rf _ _), (show PF st 1 (st 170 4) from pf), (show ∀ i : Nat, (i : Int) < 1600 * st 170 35 + st 170 34 ∨ 1600 * st 170 35 + 1600 ≤ (i : Int) → st 188 i = st 188 i from fun _ _ => rfl), (show st 170 34 ≤ st 170 34 ∧ st 170 34 + st 170 45 = st 170 34 + st 170 45 from by omega)⟩ rfl
theorem k_joins_m (hTb : aTb zSh rx_tb cl) {D : Nat} (hD : 2 ≤ D) : ∀ as st (Q Q' : zQ), (∀ r st', Q r st' → Q' r st') → k_joins 191 as st Q → cl D 191 as st Q' := by
  intro as st Q Q' hQ h
  unfold k_joins at h
  split at h
  · obtain ⟨rfl, h⟩ := h
    exact c_joins hTb hD (ct_joins_m hQ h)
  · exact h.elim
end R68
