/-! printed by wip/p32/lib7.py: the reference's statements -/
def m_placing : aM := ([(170, 3), (170, 4), (170, 5), (170, 6), (170, 7), (170, 8), (170, 9), (170, 12), (170, 34), (170, 36), (170, 42), (170, 43), (170, 45), (170, 46)], [172, 173, 174, 175, 176, 177, 178, 179, 180, 181, 182, 183, 184, 185, 186, 187, 188, 189, 190, 191, 192, 193, 194, 195, 196, 197])
def rq_placing  (st : zS) : Prop := gInv zgt st ∧ (st 170 4 ≤ st 170 5 ∧ st 170 5 ≤ st 170 2 ∧ (st 170 3 = 0 ∧ st 170 4 = st 170 2 ∨ 1 ≤ st 170 3 ∧ st 170 4 < st 170 5)) ∧ (TS st) ∧ (st 170 8 = 0 ∧ st 170 34 ≤ st 170 4 ∧ 1 ≤ st 170 3) ∧ (st 170 35 = 1 - st 170 13)
def en_placing  (st : zS) (s1 : zS) : Prop := gInv zgt s1 ∧ aFr m_placing st s1 ∧ (s1 170 4 ≤ s1 170 5 ∧ s1 170 5 ≤ s1 170 2 ∧ (s1 170 3 = 0 ∧ s1 170 4 = s1 170 2 ∨ 1 ≤ s1 170 3 ∧ s1 170 4 < s1 170 5) ∧ st 170 4 ≤ s1 170 4) ∧ (jR st s1) ∧ (s1 170 8 = 0 → TS s1 ∧ s1 170 34 ≤ s1 170 4)
def ct_placing  (st : zS) (Q : zQ) : Prop := rq_placing  st ∧ (∀ (s1 : zS), en_placing  st s1 → Q none s1)
theorem ct_placing_m {st : zS} {Q Q' : zQ} (hQ : ∀ r st', Q r st' → Q' r st') (h : ct_placing  st Q) : ct_placing  st Q' := ⟨h.1, fun x0 x1 => hQ _ _ (h.2 x0 x1)⟩
def k_placing : zCall := fun _ as st Q => match as with
  | [.inr (.inr (.inl z_o))] => z_o = 170 ∧ ct_placing  st Q
  | _ => False
theorem k_placing_mon : zmon k_placing := by
  intro nu as st Q Q' hQ h
  unfold k_placing at h ⊢
  split at h
  · exact ⟨h.1, ct_placing_m hQ h.2⟩
  · exact h.elim
def m_thinging : aM := ([(170, 3), (170, 4), (170, 5), (170, 6), (170, 7), (170, 8), (170, 9), (170, 12), (170, 34), (170, 36), (170, 42), (170, 43), (170, 45), (170, 46)], [172, 173, 174, 175, 176, 177, 178, 179, 180, 181, 182, 183, 184, 185, 186, 187, 188, 189, 190, 191, 192, 193, 194, 195, 196, 197])
def rq_thinging  (st : zS) : Prop := gInv zgt st ∧ (st 170 4 ≤ st 170 5 ∧ st 170 5 ≤ st 170 2 ∧ (st 170 3 = 0 ∧ st 170 4 = st 170 2 ∨ 1 ≤ st 170 3 ∧ st 170 4 < st 170 5)) ∧ (TS st) ∧ (st 170 8 = 0 ∧ st 170 34 ≤ st 170 4 ∧ 1 ≤ st 170 3) ∧ (st 170 35 = 1 - st 170 13)
def en_thinging  (st : zS) (s1 : zS) : Prop := gInv zgt s1 ∧ aFr m_thinging st s1 ∧ (s1 170 4 ≤ s1 170 5 ∧ s1 170 5 ≤ s1 170 2 ∧ (s1 170 3 = 0 ∧ s1 170 4 = s1 170 2 ∨ 1 ≤ s1 170 3 ∧ s1 170 4 < s1 170 5) ∧ st 170 4 ≤ s1 170 4) ∧ (jR st s1) ∧ (s1 170 8 = 0 → TS s1 ∧ s1 170 34 ≤ s1 170 4)
def ct_thinging  (st : zS) (Q : zQ) : Prop := rq_thinging  st ∧ (∀ (s1 : zS), en_thinging  st s1 → Q none s1)
theorem ct_thinging_m {st : zS} {Q Q' : zQ} (hQ : ∀ r st', Q r st' → Q' r st') (h : ct_thinging  st Q) : ct_thinging  st Q' := ⟨h.1, fun x0 x1 => hQ _ _ (h.2 x0 x1)⟩
def k_thinging : zCall := fun _ as st Q => match as with
  | [.inr (.inr (.inl z_o))] => z_o = 170 ∧ ct_thinging  st Q
  | _ => False
theorem k_thinging_mon : zmon k_thinging := by
  intro nu as st Q Q' hQ h
  unfold k_thinging at h ⊢
  split at h
  · exact ⟨h.1, ct_thinging_m hQ h.2⟩
  · exact h.elim
def m_heating : aM := ([(170, 3), (170, 4), (170, 5), (170, 6), (170, 7), (170, 8), (170, 9), (170, 12), (170, 34), (170, 36), (170, 42), (170, 43), (170, 45), (170, 46)], [172, 173, 174, 175, 176, 177, 178, 179, 180, 181, 182, 183, 184, 185, 186, 187, 188, 189, 190, 191, 192, 193, 194, 195, 196, 197])
def rq_heating (v : Int) (st : zS) : Prop := gInv zgt st ∧ (st 170 4 ≤ st 170 5 ∧ st 170 5 ≤ st 170 2 ∧ (st 170 3 = 0 ∧ st 170 4 = st 170 2 ∨ 1 ≤ st 170 3 ∧ st 170 4 < st 170 5)) ∧ (TS st) ∧ (st 170 8 = 0 ∧ st 170 34 ≤ st 170 4 ∧ 1 ≤ st 170 3) ∧ (st 170 35 = 1 - st 170 13) ∧ (v = 0 ∨ v = 1)
def en_heating (v : Int) (st : zS) (s1 : zS) : Prop := gInv zgt s1 ∧ aFr m_heating st s1 ∧ (s1 170 4 ≤ s1 170 5 ∧ s1 170 5 ≤ s1 170 2 ∧ (s1 170 3 = 0 ∧ s1 170 4 = s1 170 2 ∨ 1 ≤ s1 170 3 ∧ s1 170 4 < s1 170 5) ∧ st 170 4 ≤ s1 170 4) ∧ (jR st s1) ∧ (s1 170 8 = 0 → TS s1 ∧ s1 170 34 ≤ s1 170 4)
def ct_heating (v : Int) (st : zS) (Q : zQ) : Prop := rq_heating v st ∧ (∀ (s1 : zS), en_heating v st s1 → Q none s1)
theorem ct_heating_m {v : Int} {st : zS} {Q Q' : zQ} (hQ : ∀ r st', Q r st' → Q' r st') (h : ct_heating v st Q) : ct_heating v st Q' := ⟨h.1, fun x0 x1 => hQ _ _ (h.2 x0 x1)⟩
def k_heating : zCall := fun _ as st Q => match as with
  | [.inr (.inr (.inl z_o)), .inl v] => z_o = 170 ∧ ct_heating v st Q
  | _ => False
theorem k_heating_mon : zmon k_heating := by
  intro nu as st Q Q' hQ h
  unfold k_heating at h ⊢
  split at h
  · exact ⟨h.1, ct_heating_m hQ h.2⟩
  · exact h.elim
def m_streeting : aM := ([(170, 3), (170, 4), (170, 5), (170, 6), (170, 7), (170, 8), (170, 9), (170, 12), (170, 34), (170, 36), (170, 42), (170, 43), (170, 45), (170, 46)], [172, 173, 174, 175, 176, 177, 178, 179, 180, 181, 182, 183, 184, 185, 186, 187, 188, 189, 190, 191, 192, 193, 194, 195, 196, 197])
def rq_streeting  (st : zS) : Prop := gInv zgt st ∧ (st 170 4 ≤ st 170 5 ∧ st 170 5 ≤ st 170 2 ∧ (st 170 3 = 0 ∧ st 170 4 = st 170 2 ∨ 1 ≤ st 170 3 ∧ st 170 4 < st 170 5)) ∧ (TS st) ∧ (st 170 8 = 0 ∧ st 170 34 ≤ st 170 4 ∧ 1 ≤ st 170 3) ∧ (st 170 35 = 1 - st 170 13)
def en_streeting  (st : zS) (s1 : zS) : Prop := gInv zgt s1 ∧ aFr m_streeting st s1 ∧ (s1 170 4 ≤ s1 170 5 ∧ s1 170 5 ≤ s1 170 2 ∧ (s1 170 3 = 0 ∧ s1 170 4 = s1 170 2 ∨ 1 ≤ s1 170 3 ∧ s1 170 4 < s1 170 5) ∧ st 170 4 ≤ s1 170 4) ∧ (jR st s1) ∧ (s1 170 8 = 0 → TS s1 ∧ s1 170 34 ≤ s1 170 4)
def ct_streeting  (st : zS) (Q : zQ) : Prop := rq_streeting  st ∧ (∀ (s1 : zS), en_streeting  st s1 → Q none s1)
theorem ct_streeting_m {st : zS} {Q Q' : zQ} (hQ : ∀ r st', Q r st' → Q' r st') (h : ct_streeting  st Q) : ct_streeting  st Q' := ⟨h.1, fun x0 x1 => hQ _ _ (h.2 x0 x1)⟩
def k_streeting : zCall := fun _ as st Q => match as with
  | [.inr (.inr (.inl z_o))] => z_o = 170 ∧ ct_streeting  st Q
  | _ => False
theorem k_streeting_mon : zmon k_streeting := by
  intro nu as st Q Q' hQ h
  unfold k_streeting at h ⊢
  split at h
  · exact ⟨h.1, ct_streeting_m hQ h.2⟩
  · exact h.elim
def m_stepping : aM := ([(170, 3), (170, 4), (170, 5), (170, 6), (170, 7), (170, 8), (170, 9), (170, 12), (170, 34), (170, 36), (170, 42), (170, 43), (170, 45), (170, 46)], [172, 173, 174, 175, 176, 177, 178, 179, 180, 181, 182, 183, 184, 185, 186, 187, 188, 189, 190, 191, 192, 193, 194, 195, 196, 197])
def rq_stepping  (st : zS) : Prop := gInv zgt st ∧ (st 170 4 ≤ st 170 5 ∧ st 170 5 ≤ st 170 2 ∧ (st 170 3 = 0 ∧ st 170 4 = st 170 2 ∨ 1 ≤ st 170 3 ∧ st 170 4 < st 170 5)) ∧ (TS st) ∧ (st 170 8 = 0 ∧ st 170 34 ≤ st 170 4 ∧ 1 ≤ st 170 3) ∧ (st 170 35 = 1 - st 170 13)
def en_stepping  (st : zS) (s1 : zS) : Prop := gInv zgt s1 ∧ aFr m_stepping st s1 ∧ (s1 170 4 ≤ s1 170 5 ∧ s1 170 5 ≤ s1 170 2 ∧ (s1 170 3 = 0 ∧ s1 170 4 = s1 170 2 ∨ 1 ≤ s1 170 3 ∧ s1 170 4 < s1 170 5) ∧ st 170 4 ≤ s1 170 4) ∧ (jR st s1) ∧ (s1 170 8 = 0 → TS s1 ∧ s1 170 34 ≤ s1 170 4)
def ct_stepping  (st : zS) (Q : zQ) : Prop := rq_stepping  st ∧ (∀ (s1 : zS), en_stepping  st s1 → Q none s1)
theorem ct_stepping_m {st : zS} {Q Q' : zQ} (hQ : ∀ r st', Q r st' → Q' r st') (h : ct_stepping  st Q) : ct_stepping  st Q' := ⟨h.1, fun x0 x1 => hQ _ _ (h.2 x0 x1)⟩
def k_stepping : zCall := fun _ as st Q => match as with
  | [.inr (.inr (.inl z_o))] => z_o = 170 ∧ ct_stepping  st Q
  | _ => False
theorem k_stepping_mon : zmon k_stepping := by
  intro nu as st Q Q' hQ h
  unfold k_stepping at h ⊢
  split at h
  · exact ⟨h.1, ct_stepping_m hQ h.2⟩
  · exact h.elim
def m_reading : aM := ([(170, 3), (170, 4), (170, 5), (170, 6), (170, 7), (170, 8), (170, 9), (170, 12), (170, 34), (170, 36), (170, 42), (170, 43), (170, 45), (170, 46)], [172, 173, 174, 175, 176, 177, 178, 179, 180, 181, 182, 183, 184, 185, 186, 187, 188, 189, 190, 191, 192, 193, 194, 195, 196, 197])
def rq_reading (k : Int) (st : zS) : Prop := gInv zgt st ∧ (st 170 4 ≤ st 170 5 ∧ st 170 5 ≤ st 170 2 ∧ (st 170 3 = 0 ∧ st 170 4 = st 170 2 ∨ 1 ≤ st 170 3 ∧ st 170 4 < st 170 5)) ∧ (TS st) ∧ (st 170 8 = 0 ∧ st 170 34 ≤ st 170 4 ∧ 1 ≤ st 170 3) ∧ (st 170 35 = 1 - st 170 13) ∧ (k = 0 ∨ k = 1)
def en_reading (k : Int) (st : zS) (s1 : zS) : Prop := gInv zgt s1 ∧ aFr m_reading st s1 ∧ (s1 170 4 ≤ s1 170 5 ∧ s1 170 5 ≤ s1 170 2 ∧ (s1 170 3 = 0 ∧ s1 170 4 = s1 170 2 ∨ 1 ≤ s1 170 3 ∧ s1 170 4 < s1 170 5) ∧ st 170 4 ≤ s1 170 4) ∧ (jR st s1) ∧ (s1 170 8 = 0 → TS s1 ∧ s1 170 34 ≤ s1 170 4)
def ct_reading (k : Int) (st : zS) (Q : zQ) : Prop := rq_reading k st ∧ (∀ (s1 : zS), en_reading k st s1 → Q none s1)
theorem ct_reading_m {k : Int} {st : zS} {Q Q' : zQ} (hQ : ∀ r st', Q r st' → Q' r st') (h : ct_reading k st Q) : ct_reading k st Q' := ⟨h.1, fun x0 x1 => hQ _ _ (h.2 x0 x1)⟩
def k_reading : zCall := fun _ as st Q => match as with
  | [.inr (.inr (.inl z_o)), .inl k] => z_o = 170 ∧ ct_reading k st Q
  | _ => False
theorem k_reading_mon : zmon k_reading := by
  intro nu as st Q Q' hQ h
  unfold k_reading at h ⊢
  split at h
  · exact ⟨h.1, ct_reading_m hQ h.2⟩
  · exact h.elim
section R6e
variable {cl : Nat → zCall}
set_option maxHeartbeats 40000000 in
set_option maxRecDepth 100000 in
theorem c_placing (hTb : aTb zSh rx_tb cl) {D : Nat} (hD : 4 ≤ D) {st : zS} {Q : zQ} (h : ct_placing  st Q) : cl D 204 [.inr (.inr (.inl 170))] st Q := by
  obtain ⟨d, rfl⟩ : ∃ d, D = d + 1 := ⟨D - 1, by omega⟩
  refine hTb d 204 (rx_m204, 1, 0, 0, 0) rfl _ _ _ (Nat.le_of_ble_eq_true rfl) (fun K hcl hsf hsl => ?_)
  have hcm : zmo (wcL [(199, k_counts), (202, k_fresh)]) (cl d) := (wcL_m (wm_cons (k_counts_m hTb (by omega)) (wm_cons (k_fresh_m hTb (by omega)) wm_nil)))
  obtain ⟨hR, hQ⟩ := h
  obtain ⟨hG, lx, ts, q, bk⟩ := hR
  change st 170 4 ≤ st 170 5 ∧ st 170 5 ≤ st 170 2 ∧ (st 170 3 = 0 ∧ st 170 4 = st 170 2 ∨ 1 ≤ st 170 3 ∧ st 170 4 < st 170 5) at lx
  change TS st at ts
  change st 170 8 = 0 ∧ st 170 34 ≤ st 170 4 ∧ 1 ≤ st 170 3 at q
  change st 170 35 = 1 - st 170 13 at bk
  have m20 : ∀ (x : Int), ((x = 0 ∨ x = 1) ∧ (x = 0 → st 172 (st 170 35 : Int).toNat < 8)) → K (rx_find rx_m204 20) [(0, .inr (.inr (.inl 170)))] [.inl x, .inr (.inr (.inl 170))] st := by
    intro x hi
    have fl_m20 := hi
    have g1 := g_in hG
    have g2 := g_places hG (st 170 35 : Int).toNat
    have g3 := g_codes hG
    have g4 := g_bank hG
    have g5 := g_faultKind hG
    have g6 := g_signAt hG
    have g7 := g_signEnd hG
    have g8 := g_size hG
    have g9 := g_sign hG
    refine yr1_ok (Rt := Q) (wc := (wcL [(199, k_counts), (202, k_fresh)])) (stp := [20]) hcm hcl [] 62 ?_
    show (170 = 170 ∧ (rq_counts x st ∧ (∀ (r10 : Int) (s10 : zS), en_counts x st r10 s10 → ((¬ r10 = (0 : Int) → ((-2147483648 ≤ (8 : Int) * (s10 170 35) ∧ (8 : Int) * (s10 170 35) ≤ 2147483647) ∧ ((0 ≤ s10 170 35 ∧ s10 170 35 < 2) ∧ ((-2147483648 ≤ ((8 : Int) * (s10 170 35)) + (s10 172 (s10 170 35 : Int).toNat) ∧ ((8 : Int) * (s10 170 35)) + (s10 172 (s10 170 35 : Int).toNat) ≤ 2147483647) ∧ (170 = 170 ∧ (rq_fresh  s10 ∧ (∀ (r11 : Int) (s11 : zS), en_fresh  s10 r11 s11 → ((0 ≤ ((8 : Int) * (s10 170 35)) + (s10 172 (s10 170 35 : Int).toNat) ∧ ((8 : Int) * (s10 170 35)) + (s10 172 (s10 170 35 : Int).toNat) < 16) ∧ ((¬ s11 170 8 = (0 : Int) → Q none (zup s11 190 (((8 : Int) * (s10 170 35)) + (s10 172 (s10 170 35 : Int).toNat) : Int).toNat r11)) ∧ (¬ (¬ s11 170 8 = (0 : Int)) → ((0 ≤ s11 170 35 ∧ s11 170 35 < 2) ∧ ((-2147483648 ≤ (s11 172 (s11 170 35 : Int).toNat) + 1 ∧ (s11 172 (s11 170 35 : Int).toNat) + 1 ≤ 2147483647) ∧ ((0 ≤ s11 170 35 ∧ s11 170 35 < 2) ∧ Q none (zup (zup s11 190 (((8 : Int) * (s10 170 35)) + (s10 172 (s10 170 35 : Int).toNat) : Int).toNat r11) 172 (s11 170 35 : Int).toNat ((s11 172 (s11 170 35 : Int).toNat) + 1))))))))))))))) ∧ (¬ (¬ r10 = (0 : Int)) → Q none s10)))))
    refine ⟨rfl, ⟨hG, (show st 170 4 ≤ st 170 5 ∧ st 170 5 ≤ st 170 2 ∧ (st 170 3 = 0 ∧ st 170 4 = st 170 2 ∨ 1 ≤ st 170 3 ∧ st 170 4 < st 170 5) from by omega)⟩, fun r10 s10 q10 => ?_⟩
    obtain ⟨gs10, fs10, p10, v10⟩ := q10
    change s10 170 4 ≤ s10 170 5 ∧ s10 170 5 ≤ s10 170 2 ∧ (s10 170 3 = 0 ∧ s10 170 4 = s10 170 2 ∨ 1 ≤ s10 170 3 ∧ s10 170 4 < s10 170 5) ∧ st 170 4 ≤ s10 170 4 ∧ (s10 170 8 = 0 → st 170 8 = 0 ∧ st 170 5 ≤ s10 170 4 ∧ x = 0) at p10
    have g12 := g_signAt gs10
    have g13 := g_signEnd gs10
    have e14 : s10 170 2 = st 170 2 := fs10 170 2 rfl rfl
    have g15 := g_sign gs10
    have g16 := g_faultKind gs10
    change (r10 = 0 ∨ r10 = 1) ∧ (r10 = 1 ↔ s10 170 8 = 0) at v10
    refine ⟨fun h17 => ?_, fun h17 => ?_⟩
    · have e18 : s10 170 35 = st 170 35 := fs10 170 35 rfl rfl
      refine ⟨by omega, ?_⟩
      have e19 : s10 172 (s10 170 35 : Int).toNat = st 172 (st 170 35 : Int).toNat := (fs10 172 (s10 170 35 : Int).toNat rfl rfl).trans (by rw [e18] <;> rfl)
      refine ⟨by omega, ?_⟩
      refine ⟨by omega, ?_⟩
      refine ⟨rfl, ⟨gs10, (show s10 170 4 ≤ s10 170 5 ∧ s10 170 5 ≤ s10 170 2 ∧ (s10 170 3 = 0 ∧ s10 170 4 = s10 170 2 ∨ 1 ≤ s10 170 3 ∧ s10 170 4 < s10 170 5) from by omega)⟩, fun r11 s11 q11 => ?_⟩
      obtain ⟨gs11, fs11, p11, v11⟩ := q11
      change s11 170 4 ≤ s11 170 5 ∧ s11 170 5 ≤ s11 170 2 ∧ (s11 170 3 = 0 ∧ s11 170 4 = s11 170 2 ∨ 1 ≤ s11 170 3 ∧ s11 170 4 < s11 170 5) ∧ s10 170 4 ≤ s11 170 4 ∧ (s11 170 8 = 0 → s10 170 8 = 0 ∧ s10 170 5 ≤ s11 170 4 ∧ 1 ≤ s10 170 3) at p11
      have g20 := g_signAt gs11
      have g21 := g_signEnd gs11
      have e22 : s11 170 2 = s10 170 2 := fs11 170 2 rfl rfl
      have g23 := g_sign gs11
      have g24 := g_faultKind gs11
      change -9223372036854775808 ≤ r11 ∧ r11 ≤ 9223372036854775807 at v11
      refine ⟨by omega, ?_⟩
      refine ⟨fun h25 => ?_, fun h25 => ?_⟩
      · have e27 : s10 170 34 = st 170 34 := fs10 170 34 rfl rfl
        have e26 : s11 170 34 = s10 170 34 := fs11 170 34 rfl rfl
        exact hQ _ ⟨(gInv_up gs11 (p_placeName (by omega))), (fr_a (fr_tr (fr_tr (fr_rf _ _) fs10 rfl) fs11 rfl) rfl), (show s11 170 4 ≤ s11 170 5 ∧ s11 170 5 ≤ s11 170 2 ∧ (s11 170 3 = 0 ∧ s11 170 4 = s11 170 2 ∨ 1 ≤ s11 170 3 ∧ s11 170 4 < s11 170 5) ∧ st 170 4 ≤ s11 170 4 from by omega), (show jR st (zup s11 190 (((8 : Int) * (s10 170 35)) + (s10 172 (s10 170 35 : Int).toNat) : Int).toNat r11) from (jR_up (jR_tr (s1 := s10) (jR_tr (s1 := st) (jR_rf _) (jR_fr rfl fs10)) (jR_fr rfl fs11)) (by unfold jrel; omega))), (show s11 170 8 = 0 → TS (zup s11 190 (((8 : Int) * (s10 170 35)) + (s10 172 (s10 170 35 : Int).toNat) : Int).toNat r11) ∧ s11 170 34 ≤ s11 170 4 from fun z => absurd z (by omega))⟩
      · have e28 : s11 170 35 = s10 170 35 := fs11 170 35 rfl rfl
        have e30 : s10 172 (st 170 35 : Int).toNat = st 172 (st 170 35 : Int).toNat := fs10 172 (st 170 35 : Int).toNat rfl rfl
        have e29 : s11 172 (s11 170 35 : Int).toNat = s10 172 (st 170 35 : Int).toNat := (fs11 172 (s11 170 35 : Int).toNat rfl rfl).trans (by rw [e28, e18] <;> rfl)
        refine ⟨by omega, ?_⟩
        refine ⟨by omega, ?_⟩
        refine ⟨by omega, ?_⟩
        have e32 : s10 170 34 = st 170 34 := fs10 170 34 rfl rfl
        have e31 : s11 170 34 = s10 170 34 := fs11 170 34 rfl rfl
        exact hQ _ ⟨(gInv_up (gInv_up gs11 (p_placeName (by omega))) (p_places (by omega))), (fr_a (fr_a (fr_tr (fr_tr (fr_rf _ _) fs10 rfl) fs11 rfl) rfl) rfl), (show s11 170 4 ≤ s11 170 5 ∧ s11 170 5 ≤ s11 170 2 ∧ (s11 170 3 = 0 ∧ s11 170 4 = s11 170 2 ∨ 1 ≤ s11 170 3 ∧ s11 170 4 < s11 170 5) ∧ st 170 4 ≤ s11 170 4 from by omega), (show jR st (zup (zup s11 190 (((8 : Int) * (s10 170 35)) + (s10 172 (s10 170 35 : Int).toNat) : Int).toNat r11) 172 (s11 170 35 : Int).toNat ((s11 172 (s11 170 35 : Int).toNat) + 1)) from (jR_up (jR_up (jR_tr (s1 := s10) (jR_tr (s1 := st) (jR_rf _) (jR_fr rfl fs10)) (jR_fr rfl fs11)) (by unfold jrel; omega)) (by unfold jrel; omega))), (show s11 170 8 = 0 → TS (zup (zup s11 190 (((8 : Int) * (s10 170 35)) + (s10 172 (s10 170 35 : Int).toNat) : Int).toNat r11) 172 (s11 170 35 : Int).toNat ((s11 172 (s11 170 35 : Int).toNat) + 1)) ∧ s11 170 34 ≤ s11 170 4 from fun z => ⟨show TS1 (s11 170 35) ((zup (zup s11 190 (((8 : Int) * (s10 170 35)) + (s10 172 (s10 170 35 : Int).toNat) : Int).toNat r11) 172 (s11 170 35 : Int).toNat ((s11 172 (s11 170 35 : Int).toNat) + 1)) 172 (s11 170 35 : Int).toNat) (s11 173 (s11 170 35 : Int).toNat) (s11 177) (s11 176) ∧ TS2 (s11 170 35) (s11 178 (s11 170 35 : Int).toNat) (s11 177) (s11 179) ∧ TS3 (s11 170 35) (s11 170 34) (s11 186) (s11 187) (s11 188) from ⟨TS1_pl (TS_fr rfl fs11 (TS_fr rfl fs10 ts)).1 (by have z1 : (zup (zup s11 190 (((8 : Int) * (s10 170 35)) + (s10 172 (s10 170 35 : Int).toNat) : Int).toNat r11) 172 (s11 170 35 : Int).toNat ((s11 172 (s11 170 35 : Int).toNat) + 1)) 172 (s11 170 35 : Int).toNat = s11 172 (s11 170 35 : Int).toNat + 1 := zup_eq _ _ _ _; omega), (TS_fr rfl fs11 (TS_fr rfl fs10 ts)).2⟩, by omega⟩)⟩
    · have e33 : s10 170 34 = st 170 34 := fs10 170 34 rfl rfl
      exact hQ _ ⟨gs10, (fr_tr (fr_rf _ _) fs10 rfl), (show s10 170 4 ≤ s10 170 5 ∧ s10 170 5 ≤ s10 170 2 ∧ (s10 170 3 = 0 ∧ s10 170 4 = s10 170 2 ∨ 1 ≤ s10 170 3 ∧ s10 170 4 < s10 170 5) ∧ st 170 4 ≤ s10 170 4 from by omega), (show jR st s10 from (jR_tr (s1 := st) (jR_rf _) (jR_fr rfl fs10))), (show s10 170 8 = 0 → TS s10 ∧ s10 170 34 ≤ s10 170 4 from fun z => absurd z (by omega))⟩
  have g34 := g_signAt hG
  have g35 := g_signEnd hG
  have g36 := g_size hG
  have g37 := g_sign hG
  have g38 := g_faultKind hG
  have g39 := g_codes hG
  have g40 := g_in hG
  have g41 := g_bank hG
  refine yr1_ok (Rt := Q) (wc := (wcL [(199, k_counts), (202, k_fresh)])) (stp := [20]) hcm hcl [] 62 ?_
  show ((0 ≤ st 170 35 ∧ st 170 35 < 2) ∧ ((¬ st 172 (st 170 35 : Int).toNat = (8 : Int) → K (rx_find rx_m204 20) [(0, .inr (.inr (.inl 170)))] [.inl 0, .inr (.inr (.inl 170))] st) ∧ (¬ (¬ st 172 (st 170 35 : Int).toNat = (8 : Int)) → K (rx_find rx_m204 20) [(0, .inr (.inr (.inl 170)))] [.inl 1, .inr (.inr (.inl 170))] st)))
  have g42 := g_places hG (st 170 35 : Int).toNat
  refine ⟨by omega, ?_⟩
  refine ⟨fun h43 => ?_, fun h43 => ?_⟩
  · exact m20 0 (show ((0 : Int) = 0 ∨ (0 : Int) = 1) ∧ ((0 : Int) = 0 → st 172 (st 170 35 : Int).toNat < 8) from by omega)
  · exact m20 1 (show ((1 : Int) = 0 ∨ (1 : Int) = 1) ∧ ((1 : Int) = 0 → st 172 (st 170 35 : Int).toNat < 8) from by omega)
theorem k_placing_m (hTb : aTb zSh rx_tb cl) {D : Nat} (hD : 4 ≤ D) : ∀ as st (Q Q' : zQ), (∀ r st', Q r st' → Q' r st') → k_placing 204 as st Q → cl D 204 as st Q' := by
  intro as st Q Q' hQ h
  unfold k_placing at h
  split at h
  · obtain ⟨rfl, h⟩ := h
    exact c_placing hTb hD (ct_placing_m hQ h)
  · exact h.elim
set_option maxHeartbeats 40000000 in
set_option maxRecDepth 100000 in
theorem c_thinging (hTb : aTb zSh rx_tb cl) {D : Nat} (hD : 4 ≤ D) {st : zS} {Q : zQ} (h : ct_thinging  st Q) : cl D 207 [.inr (.inr (.inl 170))] st Q := by
  obtain ⟨d, rfl⟩ : ∃ d, D = d + 1 := ⟨D - 1, by omega⟩
  refine hTb d 207 (rx_m207, 2, 0, 0, 0) rfl _ _ _ (Nat.le_of_ble_eq_true rfl) (fun K hcl hsf hsl => ?_)
  have hcm : zmo (wcL [(199, k_counts), (202, k_fresh), (200, k_mustJ), (203, k_knownBut), (188, k_number)]) (cl d) := (wcL_m (wm_cons (k_counts_m hTb (by omega)) (wm_cons (k_fresh_m hTb (by omega)) (wm_cons (k_mustJ_m hTb (by omega)) (wm_cons (k_knownBut_m hTb (by omega)) (wm_cons (k_number_m hTb (by omega)) wm_nil))))))
  obtain ⟨hR, hQ⟩ := h
  obtain ⟨hG, lx, ts, q, bk⟩ := hR
  change st 170 4 ≤ st 170 5 ∧ st 170 5 ≤ st 170 2 ∧ (st 170 3 = 0 ∧ st 170 4 = st 170 2 ∨ 1 ≤ st 170 3 ∧ st 170 4 < st 170 5) at lx
  change TS st at ts
  change st 170 8 = 0 ∧ st 170 34 ≤ st 170 4 ∧ 1 ≤ st 170 3 at q
  change st 170 35 = 1 - st 170 13 at bk
  have m20 : ∀ (x : Int), ((x = 0 ∨ x = 1) ∧ (x = 0 → st 181 (st 170 35 : Int).toNat < 8)) → K (rx_find rx_m207 20) [(0, .inr (.inr (.inl 170)))] [.inl x, .inr (.inr (.inl 170))] st := by
    intro x hi
    have fl_m20 := hi
    have g1 := g_in hG
    have g2 := g_things hG (st 170 35 : Int).toNat
    have g3 := g_codes hG
    have g4 := g_bank hG
    have g5 := g_faultKind hG
    have g6 := g_signAt hG
    have g7 := g_signEnd hG
    have g8 := g_size hG
    have g9 := g_sign hG
    refine yr1_ok (Rt := Q) (wc := (wcL [(199, k_counts), (202, k_fresh), (200, k_mustJ), (203, k_knownBut), (188, k_number)])) (stp := [20]) hcm hcl [] 85 ?_
    show (170 = 170 ∧ (rq_counts x st ∧ (∀ (r10 : Int) (s10 : zS), en_counts x st r10 s10 → ((¬ r10 = (0 : Int) → ((-2147483648 ≤ (8 : Int) * (s10 170 35) ∧ (8 : Int) * (s10 170 35) ≤ 2147483647) ∧ ((0 ≤ s10 170 35 ∧ s10 170 35 < 2) ∧ ((-2147483648 ≤ ((8 : Int) * (s10 170 35)) + (s10 181 (s10 170 35 : Int).toNat) ∧ ((8 : Int) * (s10 170 35)) + (s10 181 (s10 170 35 : Int).toNat) ≤ 2147483647) ∧ (170 = 170 ∧ (rq_fresh  s10 ∧ (∀ (r11 : Int) (s11 : zS), en_fresh  s10 r11 s11 → ((0 ≤ ((8 : Int) * (s10 170 35)) + (s10 181 (s10 170 35 : Int).toNat) ∧ ((8 : Int) * (s10 170 35)) + (s10 181 (s10 170 35 : Int).toNat) < 16) ∧ (170 = 170 ∧ (rq_mustJ (24948) (zup s11 191 (((8 : Int) * (s10 170 35)) + (s10 181 (s10 170 35 : Int).toNat) : Int).toNat r11) ∧ (∀ (s12 : zS), en_mustJ (24948) (zup s11 191 (((8 : Int) * (s10 170 35)) + (s10 181 (s10 170 35 : Int).toNat) : Int).toNat r11) s12 → (170 = 170 ∧ (rq_knownBut (0) s12 ∧ (∀ (r13 : Int) (s13 : zS), en_knownBut (0) s12 r13 s13 → ((0 ≤ ((8 : Int) * (s10 170 35)) + (s10 181 (s10 170 35 : Int).toNat) ∧ ((8 : Int) * (s10 170 35)) + (s10 181 (s10 170 35 : Int).toNat) < 16) ∧ (170 = 170 ∧ (rq_mustJ (1886743660) (zup s13 182 (((8 : Int) * (s10 170 35)) + (s10 181 (s10 170 35 : Int).toNat) : Int).toNat r13) ∧ (∀ (s14 : zS), en_mustJ (1886743660) (zup s13 182 (((8 : Int) * (s10 170 35)) + (s10 181 (s10 170 35 : Int).toNat) : Int).toNat r13) s14 → (170 = 170 ∧ (rq_number (0) (9) s14 ∧ (∀ (r15 : Int) (s15 : zS), en_number (0) (9) s14 r15 s15 → ((0 ≤ ((8 : Int) * (s10 170 35)) + (s10 181 (s10 170 35 : Int).toNat) ∧ ((8 : Int) * (s10 170 35)) + (s10 181 (s10 170 35 : Int).toNat) < 16) ∧ ((¬ s15 170 8 = (0 : Int) → Q none (zup s15 183 (((8 : Int) * (s10 170 35)) + (s10 181 (s10 170 35 : Int).toNat) : Int).toNat r15)) ∧ (¬ (¬ s15 170 8 = (0 : Int)) → ((0 ≤ s15 170 35 ∧ s15 170 35 < 2) ∧ ((-2147483648 ≤ (s15 181 (s15 170 35 : Int).toNat) + 1 ∧ (s15 181 (s15 170 35 : Int).toNat) + 1 ≤ 2147483647) ∧ ((0 ≤ s15 170 35 ∧ s15 170 35 < 2) ∧ Q none (zup (zup s15 183 (((8 : Int) * (s10 170 35)) + (s10 181 (s10 170 35 : Int).toNat) : Int).toNat r15) 181 (s15 170 35 : Int).toNat ((s15 181 (s15 170 35 : Int).toNat) + 1))))))))))))))))))))))))))))) ∧ (¬ (¬ r10 = (0 : Int)) → Q none s10)))))
    refine ⟨rfl, ⟨hG, (show st 170 4 ≤ st 170 5 ∧ st 170 5 ≤ st 170 2 ∧ (st 170 3 = 0 ∧ st 170 4 = st 170 2 ∨ 1 ≤ st 170 3 ∧ st 170 4 < st 170 5) from by omega)⟩, fun r10 s10 q10 => ?_⟩
    obtain ⟨gs10, fs10, p10, v10⟩ := q10
    change s10 170 4 ≤ s10 170 5 ∧ s10 170 5 ≤ s10 170 2 ∧ (s10 170 3 = 0 ∧ s10 170 4 = s10 170 2 ∨ 1 ≤ s10 170 3 ∧ s10 170 4 < s10 170 5) ∧ st 170 4 ≤ s10 170 4 ∧ (s10 170 8 = 0 → st 170 8 = 0 ∧ st 170 5 ≤ s10 170 4 ∧ x = 0) at p10
    have g16 := g_signAt gs10
    have g17 := g_signEnd gs10
    have e18 : s10 170 2 = st 170 2 := fs10 170 2 rfl rfl
    have g19 := g_sign gs10
    have g20 := g_faultKind gs10
    change (r10 = 0 ∨ r10 = 1) ∧ (r10 = 1 ↔ s10 170 8 = 0) at v10
    refine ⟨fun h21 => ?_, fun h21 => ?_⟩
    · have e22 : s10 170 35 = st 170 35 := fs10 170 35 rfl rfl
      refine ⟨by omega, ?_⟩
      have e23 : s10 181 (s10 170 35 : Int).toNat = st 181 (st 170 35 : Int).toNat := (fs10 181 (s10 170 35 : Int).toNat rfl rfl).trans (by rw [e22] <;> rfl)
      refine ⟨by omega, ?_⟩
      refine ⟨by omega, ?_⟩
      refine ⟨rfl, ⟨gs10, (show s10 170 4 ≤ s10 170 5 ∧ s10 170 5 ≤ s10 170 2 ∧ (s10 170 3 = 0 ∧ s10 170 4 = s10 170 2 ∨ 1 ≤ s10 170 3 ∧ s10 170 4 < s10 170 5) from by omega)⟩, fun r11 s11 q11 => ?_⟩
      obtain ⟨gs11, fs11, p11, v11⟩ := q11
      change s11 170 4 ≤ s11 170 5 ∧ s11 170 5 ≤ s11 170 2 ∧ (s11 170 3 = 0 ∧ s11 170 4 = s11 170 2 ∨ 1 ≤ s11 170 3 ∧ s11 170 4 < s11 170 5) ∧ s10 170 4 ≤ s11 170 4 ∧ (s11 170 8 = 0 → s10 170 8 = 0 ∧ s10 170 5 ≤ s11 170 4 ∧ 1 ≤ s10 170 3) at p11
      have g24 := g_signAt gs11
      have g25 := g_signEnd gs11
      have e26 : s11 170 2 = s10 170 2 := fs11 170 2 rfl rfl
      have g27 := g_sign gs11
      have g28 := g_faultKind gs11
      change -9223372036854775808 ≤ r11 ∧ r11 ≤ 9223372036854775807 at v11
      refine ⟨by omega, ?_⟩
      refine ⟨rfl, ⟨(gInv_up gs11 (p_thingName (by omega))), (show s11 170 4 ≤ s11 170 5 ∧ s11 170 5 ≤ s11 170 2 ∧ (s11 170 3 = 0 ∧ s11 170 4 = s11 170 2 ∨ 1 ≤ s11 170 3 ∧ s11 170 4 < s11 170 5) from by omega)⟩, fun s12 q12 => ?_⟩
      obtain ⟨gs12, fs12, p12⟩ := q12
      change s12 170 4 ≤ s12 170 5 ∧ s12 170 5 ≤ s12 170 2 ∧ (s12 170 3 = 0 ∧ s12 170 4 = s12 170 2 ∨ 1 ≤ s12 170 3 ∧ s12 170 4 < s12 170 5) ∧ s11 170 4 ≤ s12 170 4 ∧ (s12 170 8 = 0 → s11 170 8 = 0 ∧ s11 170 5 ≤ s12 170 4 ∧ 1 ≤ s11 170 3) at p12
      have g29 := g_signAt gs12
      have g30 := g_signEnd gs12
      have e31 : s12 170 2 = s11 170 2 := fs12 170 2 rfl rfl
      have g32 := g_sign gs12
      have g33 := g_faultKind gs12
      refine ⟨rfl, ⟨gs12, (show s12 170 4 ≤ s12 170 5 ∧ s12 170 5 ≤ s12 170 2 ∧ (s12 170 3 = 0 ∧ s12 170 4 = s12 170 2 ∨ 1 ≤ s12 170 3 ∧ s12 170 4 < s12 170 5) from by omega)⟩, fun r13 s13 q13 => ?_⟩
      obtain ⟨gs13, fs13, p13, v13⟩ := q13
      change s13 170 4 ≤ s13 170 5 ∧ s13 170 5 ≤ s13 170 2 ∧ (s13 170 3 = 0 ∧ s13 170 4 = s13 170 2 ∨ 1 ≤ s13 170 3 ∧ s13 170 4 < s13 170 5) ∧ s12 170 4 ≤ s13 170 4 ∧ (s13 170 8 = 0 → s12 170 8 = 0 ∧ s12 170 5 ≤ s13 170 4 ∧ 1 ≤ s12 170 3) at p13
      have g34 := g_signAt gs13
      have g35 := g_signEnd gs13
      have e36 : s13 170 2 = s12 170 2 := fs13 170 2 rfl rfl
      have g37 := g_sign gs13
      have g38 := g_faultKind gs13
      change 0 ≤ r13 ∧ r13 ≤ 7 ∧ (s13 170 8 = 0 → r13 < s13 172 (s13 170 35 : Int).toNat ∧ hb (0) r13 = 0) at v13
      have e41 : s11 170 35 = s10 170 35 := fs11 170 35 rfl rfl
      have e40 : s12 170 35 = s11 170 35 := fs12 170 35 rfl rfl
      have e39 : s13 170 35 = s12 170 35 := fs13 170 35 rfl rfl
      have g46 := g_places hG (st 170 35 : Int).toNat
      have e45 : s10 172 (st 170 35 : Int).toNat = st 172 (st 170 35 : Int).toNat := fs10 172 (st 170 35 : Int).toNat rfl rfl
      have e44 : s11 172 (st 170 35 : Int).toNat = s10 172 (st 170 35 : Int).toNat := fs11 172 (st 170 35 : Int).toNat rfl rfl
      have e43 : s12 172 (st 170 35 : Int).toNat = s11 172 (st 170 35 : Int).toNat := fs12 172 (st 170 35 : Int).toNat rfl rfl
      have e42 : s13 172 (s13 170 35 : Int).toNat = s12 172 (st 170 35 : Int).toNat := (fs13 172 (s13 170 35 : Int).toNat rfl rfl).trans (by rw [e39, e40, e41, e22] <;> rfl)
      refine ⟨by omega, ?_⟩
      refine ⟨rfl, ⟨(gInv_up gs13 (p_thingTold (by omega))), (show s13 170 4 ≤ s13 170 5 ∧ s13 170 5 ≤ s13 170 2 ∧ (s13 170 3 = 0 ∧ s13 170 4 = s13 170 2 ∨ 1 ≤ s13 170 3 ∧ s13 170 4 < s13 170 5) from by omega)⟩, fun s14 q14 => ?_⟩
      obtain ⟨gs14, fs14, p14⟩ := q14
      change s14 170 4 ≤ s14 170 5 ∧ s14 170 5 ≤ s14 170 2 ∧ (s14 170 3 = 0 ∧ s14 170 4 = s14 170 2 ∨ 1 ≤ s14 170 3 ∧ s14 170 4 < s14 170 5) ∧ s13 170 4 ≤ s14 170 4 ∧ (s14 170 8 = 0 → s13 170 8 = 0 ∧ s13 170 5 ≤ s14 170 4 ∧ 1 ≤ s13 170 3) at p14
      have g47 := g_signAt gs14
      have g48 := g_signEnd gs14
      have e49 : s14 170 2 = s13 170 2 := fs14 170 2 rfl rfl
      have g50 := g_sign gs14
      have g51 := g_faultKind gs14
      refine ⟨rfl, ⟨gs14, (show s14 170 4 ≤ s14 170 5 ∧ s14 170 5 ≤ s14 170 2 ∧ (s14 170 3 = 0 ∧ s14 170 4 = s14 170 2 ∨ 1 ≤ s14 170 3 ∧ s14 170 4 < s14 170 5) from by omega)⟩, fun r15 s15 q15 => ?_⟩
      obtain ⟨gs15, fs15, p15, v15⟩ := q15
      change s15 170 4 ≤ s15 170 5 ∧ s15 170 5 ≤ s15 170 2 ∧ (s15 170 3 = 0 ∧ s15 170 4 = s15 170 2 ∨ 1 ≤ s15 170 3 ∧ s15 170 4 < s15 170 5) ∧ s14 170 4 ≤ s15 170 4 ∧ (s15 170 8 = 0 → s14 170 8 = 0 ∧ s14 170 5 ≤ s15 170 4 ∧ 1 ≤ s14 170 3) at p15
      have g52 := g_signAt gs15
      have g53 := g_signEnd gs15
      have e54 : s15 170 2 = s14 170 2 := fs15 170 2 rfl rfl
      have g55 := g_sign gs15
      have g56 := g_faultKind gs15
      change -2147483648 ≤ r15 ∧ r15 ≤ 2147483647 ∧ (s15 170 8 = 0 → (0) ≤ r15 ∧ r15 ≤ (9)) at v15
      refine ⟨by omega, ?_⟩
      refine ⟨fun h57 => ?_, fun h57 => ?_⟩
      · have e63 : s10 170 34 = st 170 34 := fs10 170 34 rfl rfl
        have e62 : s11 170 34 = s10 170 34 := fs11 170 34 rfl rfl
        have e61 : s12 170 34 = s11 170 34 := fs12 170 34 rfl rfl
        have e60 : s13 170 34 = s12 170 34 := fs13 170 34 rfl rfl
        have e59 : s14 170 34 = s13 170 34 := fs14 170 34 rfl rfl
        have e58 : s15 170 34 = s14 170 34 := fs15 170 34 rfl rfl
        exact hQ _ ⟨(gInv_up gs15 (p_pullOf (by omega))), (fr_a (fr_tr (fr_tr (fr_a (fr_tr (fr_tr (fr_a (fr_tr (fr_tr (fr_rf _ _) fs10 rfl) fs11 rfl) rfl) fs12 rfl) fs13 rfl) rfl) fs14 rfl) fs15 rfl) rfl), (show s15 170 4 ≤ s15 170 5 ∧ s15 170 5 ≤ s15 170 2 ∧ (s15 170 3 = 0 ∧ s15 170 4 = s15 170 2 ∨ 1 ≤ s15 170 3 ∧ s15 170 4 < s15 170 5) ∧ st 170 4 ≤ s15 170 4 from by omega), (show jR st (zup s15 183 (((8 : Int) * (s10 170 35)) + (s10 181 (s10 170 35 : Int).toNat) : Int).toNat r15) from (jR_up (jR_tr (s1 := s14) (jR_tr (s1 := (zup s13 182 (((8 : Int) * (s10 170 35)) + (s10 181 (s10 170 35 : Int).toNat) : Int).toNat r13)) (jR_up (jR_tr (s1 := s12) (jR_tr (s1 := (zup s11 191 (((8 : Int) * (s10 170 35)) + (s10 181 (s10 170 35 : Int).toNat) : Int).toNat r11)) (jR_up (jR_tr (s1 := s10) (jR_tr (s1 := st) (jR_rf _) (jR_fr rfl fs10)) (jR_fr rfl fs11)) (by unfold jrel; omega)) (jR_fr rfl fs12)) (jR_fr rfl fs13)) (by unfold jrel; omega)) (jR_fr rfl fs14)) (jR_fr rfl fs15)) (by unfold jrel; omega))), (show s15 170 8 = 0 → TS (zup s15 183 (((8 : Int) * (s10 170 35)) + (s10 181 (s10 170 35 : Int).toNat) : Int).toNat r15) ∧ s15 170 34 ≤ s15 170 4 from fun z => absurd z (by omega))⟩
      · have e65 : s14 170 35 = s13 170 35 := fs14 170 35 rfl rfl
        have e64 : s15 170 35 = s14 170 35 := fs15 170 35 rfl rfl
        have e71 : s10 181 (st 170 35 : Int).toNat = st 181 (st 170 35 : Int).toNat := fs10 181 (st 170 35 : Int).toNat rfl rfl
        have e70 : s11 181 (st 170 35 : Int).toNat = s10 181 (st 170 35 : Int).toNat := fs11 181 (st 170 35 : Int).toNat rfl rfl
        have e69 : s12 181 (st 170 35 : Int).toNat = s11 181 (st 170 35 : Int).toNat := fs12 181 (st 170 35 : Int).toNat rfl rfl
        have e68 : s13 181 (st 170 35 : Int).toNat = s12 181 (st 170 35 : Int).toNat := fs13 181 (st 170 35 : Int).toNat rfl rfl
        have e67 : s14 181 (st 170 35 : Int).toNat = s13 181 (st 170 35 : Int).toNat := fs14 181 (st 170 35 : Int).toNat rfl rfl
        have e66 : s15 181 (s15 170 35 : Int).toNat = s14 181 (st 170 35 : Int).toNat := (fs15 181 (s15 170 35 : Int).toNat rfl rfl).trans (by rw [e64, e65, e39, e40, e41, e22] <;> rfl)
        refine ⟨by omega, ?_⟩
        refine ⟨by omega, ?_⟩
        refine ⟨by omega, ?_⟩
        have e77 : s10 170 34 = st 170 34 := fs10 170 34 rfl rfl
        have e76 : s11 170 34 = s10 170 34 := fs11 170 34 rfl rfl
        have e75 : s12 170 34 = s11 170 34 := fs12 170 34 rfl rfl
        have e74 : s13 170 34 = s12 170 34 := fs13 170 34 rfl rfl
        have e73 : s14 170 34 = s13 170 34 := fs14 170 34 rfl rfl
        have e72 : s15 170 34 = s14 170 34 := fs15 170 34 rfl rfl
        exact hQ _ ⟨(gInv_up (gInv_up gs15 (p_pullOf (by omega))) (p_things (by omega))), (fr_a (fr_a (fr_tr (fr_tr (fr_a (fr_tr (fr_tr (fr_a (fr_tr (fr_tr (fr_rf _ _) fs10 rfl) fs11 rfl) rfl) fs12 rfl) fs13 rfl) rfl) fs14 rfl) fs15 rfl) rfl) rfl), (show s15 170 4 ≤ s15 170 5 ∧ s15 170 5 ≤ s15 170 2 ∧ (s15 170 3 = 0 ∧ s15 170 4 = s15 170 2 ∨ 1 ≤ s15 170 3 ∧ s15 170 4 < s15 170 5) ∧ st 170 4 ≤ s15 170 4 from by omega), (show jR st (zup (zup s15 183 (((8 : Int) * (s10 170 35)) + (s10 181 (s10 170 35 : Int).toNat) : Int).toNat r15) 181 (s15 170 35 : Int).toNat ((s15 181 (s15 170 35 : Int).toNat) + 1)) from (jR_up (jR_up (jR_tr (s1 := s14) (jR_tr (s1 := (zup s13 182 (((8 : Int) * (s10 170 35)) + (s10 181 (s10 170 35 : Int).toNat) : Int).toNat r13)) (jR_up (jR_tr (s1 := s12) (jR_tr (s1 := (zup s11 191 (((8 : Int) * (s10 170 35)) + (s10 181 (s10 170 35 : Int).toNat) : Int).toNat r11)) (jR_up (jR_tr (s1 := s10) (jR_tr (s1 := st) (jR_rf _) (jR_fr rfl fs10)) (jR_fr rfl fs11)) (by unfold jrel; omega)) (jR_fr rfl fs12)) (jR_fr rfl fs13)) (by unfold jrel; omega)) (jR_fr rfl fs14)) (jR_fr rfl fs15)) (by unfold jrel; omega)) (by unfold jrel; omega))), (show s15 170 8 = 0 → TS (zup (zup s15 183 (((8 : Int) * (s10 170 35)) + (s10 181 (s10 170 35 : Int).toNat) : Int).toNat r15) 181 (s15 170 35 : Int).toNat ((s15 181 (s15 170 35 : Int).toNat) + 1)) ∧ s15 170 34 ≤ s15 170 4 from fun z => ⟨(TS_up rfl (TS_up rfl (TS_fr rfl fs15 (TS_fr rfl fs14 (TS_up rfl (TS_fr rfl fs13 (TS_fr rfl fs12 (TS_up rfl (TS_fr rfl fs11 (TS_fr rfl fs10 ts)))))))))), by omega⟩)⟩
    · have e78 : s10 170 34 = st 170 34 := fs10 170 34 rfl rfl
      exact hQ _ ⟨gs10, (fr_tr (fr_rf _ _) fs10 rfl), (show s10 170 4 ≤ s10 170 5 ∧ s10 170 5 ≤ s10 170 2 ∧ (s10 170 3 = 0 ∧ s10 170 4 = s10 170 2 ∨ 1 ≤ s10 170 3 ∧ s10 170 4 < s10 170 5) ∧ st 170 4 ≤ s10 170 4 from by omega), (show jR st s10 from (jR_tr (s1 := st) (jR_rf _) (jR_fr rfl fs10))), (show s10 170 8 = 0 → TS s10 ∧ s10 170 34 ≤ s10 170 4 from fun z => absurd z (by omega))⟩
  have g79 := g_signAt hG
  have g80 := g_signEnd hG
  have g81 := g_size hG
  have g82 := g_sign hG
  have g83 := g_faultKind hG
  have g84 := g_codes hG
  have g85 := g_in hG
  have g86 := g_bank hG
  refine yr1_ok (Rt := Q) (wc := (wcL [(199, k_counts), (202, k_fresh), (200, k_mustJ), (203, k_knownBut), (188, k_number)])) (stp := [20]) hcm hcl [] 85 ?_
  show ((0 ≤ st 170 35 ∧ st 170 35 < 2) ∧ ((¬ st 181 (st 170 35 : Int).toNat = (8 : Int) → K (rx_find rx_m207 20) [(0, .inr (.inr (.inl 170)))] [.inl 0, .inr (.inr (.inl 170))] st) ∧ (¬ (¬ st 181 (st 170 35 : Int).toNat = (8 : Int)) → K (rx_find rx_m207 20) [(0, .inr (.inr (.inl 170)))] [.inl 1, .inr (.inr (.inl 170))] st)))
  have g87 := g_things hG (st 170 35 : Int).toNat
  refine ⟨by omega, ?_⟩
  refine ⟨fun h88 => ?_, fun h88 => ?_⟩
  · exact m20 0 (show ((0 : Int) = 0 ∨ (0 : Int) = 1) ∧ ((0 : Int) = 0 → st 181 (st 170 35 : Int).toNat < 8) from by omega)
  · exact m20 1 (show ((1 : Int) = 0 ∨ (1 : Int) = 1) ∧ ((1 : Int) = 0 → st 181 (st 170 35 : Int).toNat < 8) from by omega)
theorem k_thinging_m (hTb : aTb zSh rx_tb cl) {D : Nat} (hD : 4 ≤ D) : ∀ as st (Q Q' : zQ), (∀ r st', Q r st' → Q' r st') → k_thinging 207 as st Q → cl D 207 as st Q' := by
  intro as st Q Q' hQ h
  unfold k_thinging at h
  split at h
  · obtain ⟨rfl, h⟩ := h
    exact c_thinging hTb hD (ct_thinging_m hQ h)
  · exact h.elim
set_option maxHeartbeats 40000000 in
set_option maxRecDepth 100000 in
theorem c_heating (hTb : aTb zSh rx_tb cl) {D : Nat} (hD : 4 ≤ D) {v : Int} {st : zS} {Q : zQ} (h : ct_heating v st Q) : cl D 209 [.inr (.inr (.inl 170)), .inl v] st Q := by
  obtain ⟨d, rfl⟩ : ∃ d, D = d + 1 := ⟨D - 1, by omega⟩
  refine hTb d 209 (rx_m209, 3, 0, 0, 0) rfl _ _ _ (Nat.le_of_ble_eq_true rfl) (fun K hcl hsf hsl => ?_)
  have hcm : zmo (wcL [(199, k_counts), (188, k_number)]) (cl d) := (wcL_m (wm_cons (k_counts_m hTb (by omega)) (wm_cons (k_number_m hTb (by omega)) wm_nil)))
  obtain ⟨hR, hQ⟩ := h
  obtain ⟨hG, lx, ts, q, bk, hh⟩ := hR
  change st 170 4 ≤ st 170 5 ∧ st 170 5 ≤ st 170 2 ∧ (st 170 3 = 0 ∧ st 170 4 = st 170 2 ∨ 1 ≤ st 170 3 ∧ st 170 4 < st 170 5) at lx
  change TS st at ts
  change st 170 8 = 0 ∧ st 170 34 ≤ st 170 4 ∧ 1 ≤ st 170 3 at q
  change st 170 35 = 1 - st 170 13 at bk
  change v = 0 ∨ v = 1 at hh
  have g1 := g_signAt hG
  have g2 := g_signEnd hG
  have g3 := g_size hG
  have g4 := g_sign hG
  have g5 := g_faultKind hG
  have g6 := g_codes hG
  have g7 := g_in hG
  have g8 := g_bank hG
  refine yr1_ok (Rt := Q) (wc := (wcL [(199, k_counts), (188, k_number)])) (stp := []) hcm hcl [] 54 ?_
  show (170 = 170 ∧ (rq_counts (0) st ∧ (∀ (r9 : Int) (s9 : zS), en_counts (0) st r9 s9 → ((¬ r9 = (0 : Int) → ((v = (0 : Int) → (170 = 170 ∧ (rq_number (0) (40) s9 ∧ (∀ (r10 : Int) (s10 : zS), en_number (0) (40) s9 r10 s10 → ((s10 170 8 ≤ (0 : Int) → ((v = (0 : Int) → ((0 ≤ s10 170 35 ∧ s10 170 35 < 2) ∧ Q none (zup s10 184 (s10 170 35 : Int).toNat r10))) ∧ (¬ (v = (0 : Int)) → ((0 ≤ s10 170 35 ∧ s10 170 35 < 2) ∧ Q none (zup s10 185 (s10 170 35 : Int).toNat r10))))) ∧ (¬ (s10 170 8 ≤ (0 : Int)) → Q none s10)))))) ∧ (¬ (v = (0 : Int)) → (170 = 170 ∧ (rq_number (0) (100) s9 ∧ (∀ (r11 : Int) (s11 : zS), en_number (0) (100) s9 r11 s11 → ((s11 170 8 ≤ (0 : Int) → ((v = (0 : Int) → ((0 ≤ s11 170 35 ∧ s11 170 35 < 2) ∧ Q none (zup s11 184 (s11 170 35 : Int).toNat r11))) ∧ (¬ (v = (0 : Int)) → ((0 ≤ s11 170 35 ∧ s11 170 35 < 2) ∧ Q none (zup s11 185 (s11 170 35 : Int).toNat r11))))) ∧ (¬ (s11 170 8 ≤ (0 : Int)) → Q none s11)))))))) ∧ (¬ (¬ r9 = (0 : Int)) → Q none s9)))))
  refine ⟨rfl, ⟨hG, (show st 170 4 ≤ st 170 5 ∧ st 170 5 ≤ st 170 2 ∧ (st 170 3 = 0 ∧ st 170 4 = st 170 2 ∨ 1 ≤ st 170 3 ∧ st 170 4 < st 170 5) from by omega)⟩, fun r9 s9 q9 => ?_⟩
  obtain ⟨gs9, fs9, p9, v9⟩ := q9
  change s9 170 4 ≤ s9 170 5 ∧ s9 170 5 ≤ s9 170 2 ∧ (s9 170 3 = 0 ∧ s9 170 4 = s9 170 2 ∨ 1 ≤ s9 170 3 ∧ s9 170 4 < s9 170 5) ∧ st 170 4 ≤ s9 170 4 ∧ (s9 170 8 = 0 → st 170 8 = 0 ∧ st 170 5 ≤ s9 170 4 ∧ (0) = 0) at p9
  have g12 := g_signAt gs9
  have g13 := g_signEnd gs9
  have e14 : s9 170 2 = st 170 2 := fs9 170 2 rfl rfl
  have g15 := g_sign gs9
  have g16 := g_faultKind gs9
  change (r9 = 0 ∨ r9 = 1) ∧ (r9 = 1 ↔ s9 170 8 = 0) at v9
  refine ⟨fun h17 => ?_, fun h17 => ?_⟩
  · refine ⟨fun h18 => ?_, fun h18 => ?_⟩
    · refine ⟨rfl, ⟨gs9, (show s9 170 4 ≤ s9 170 5 ∧ s9 170 5 ≤ s9 170 2 ∧ (s9 170 3 = 0 ∧ s9 170 4 = s9 170 2 ∨ 1 ≤ s9 170 3 ∧ s9 170 4 < s9 170 5) from by omega)⟩, fun r10 s10 q10 => ?_⟩
      obtain ⟨gs10, fs10, p10, v10⟩ := q10
      change s10 170 4 ≤ s10 170 5 ∧ s10 170 5 ≤ s10 170 2 ∧ (s10 170 3 = 0 ∧ s10 170 4 = s10 170 2 ∨ 1 ≤ s10 170 3 ∧ s10 170 4 < s10 170 5) ∧ s9 170 4 ≤ s10 170 4 ∧ (s10 170 8 = 0 → s9 170 8 = 0 ∧ s9 170 5 ≤ s10 170 4 ∧ 1 ≤ s9 170 3) at p10
      have g19 := g_signAt gs10
      have g20 := g_signEnd gs10
      have e21 : s10 170 2 = s9 170 2 := fs10 170 2 rfl rfl
      have g22 := g_sign gs10
      have g23 := g_faultKind gs10
      change -2147483648 ≤ r10 ∧ r10 ≤ 2147483647 ∧ (s10 170 8 = 0 → (0) ≤ r10 ∧ r10 ≤ (40)) at v10
      refine ⟨fun h24 => ?_, fun h24 => ?_⟩
      · refine ⟨fun h25 => ?_, fun h25 => ?_⟩
        · have e27 : s9 170 35 = st 170 35 := fs9 170 35 rfl rfl
          have e26 : s10 170 35 = s9 170 35 := fs10 170 35 rfl rfl
          refine ⟨by omega, ?_⟩
          have e29 : s9 170 34 = st 170 34 := fs9 170 34 rfl rfl
          have e28 : s10 170 34 = s9 170 34 := fs10 170 34 rfl rfl
          exact hQ _ ⟨(gInv_up gs10 (p_heatTold (by omega))), (fr_a (fr_tr (fr_tr (fr_rf _ _) fs9 rfl) fs10 rfl) rfl), (show s10 170 4 ≤ s10 170 5 ∧ s10 170 5 ≤ s10 170 2 ∧ (s10 170 3 = 0 ∧ s10 170 4 = s10 170 2 ∨ 1 ≤ s10 170 3 ∧ s10 170 4 < s10 170 5) ∧ st 170 4 ≤ s10 170 4 from by omega), (show jR st (zup s10 184 (s10 170 35 : Int).toNat r10) from (jR_up (jR_tr (s1 := s9) (jR_tr (s1 := st) (jR_rf _) (jR_fr rfl fs9)) (jR_fr rfl fs10)) (by unfold jrel; omega))), (show s10 170 8 = 0 → TS (zup s10 184 (s10 170 35 : Int).toNat r10) ∧ s10 170 34 ≤ s10 170 4 from fun z => ⟨(TS_up rfl (TS_fr rfl fs10 (TS_fr rfl fs9 ts))), by omega⟩)⟩
        · have e31 : s9 170 35 = st 170 35 := fs9 170 35 rfl rfl
          have e30 : s10 170 35 = s9 170 35 := fs10 170 35 rfl rfl
          refine ⟨by omega, ?_⟩
          have e33 : s9 170 34 = st 170 34 := fs9 170 34 rfl rfl
          have e32 : s10 170 34 = s9 170 34 := fs10 170 34 rfl rfl
          exact hQ _ ⟨(gInv_up gs10 (p_hotTold (by omega))), (fr_a (fr_tr (fr_tr (fr_rf _ _) fs9 rfl) fs10 rfl) rfl), (show s10 170 4 ≤ s10 170 5 ∧ s10 170 5 ≤ s10 170 2 ∧ (s10 170 3 = 0 ∧ s10 170 4 = s10 170 2 ∨ 1 ≤ s10 170 3 ∧ s10 170 4 < s10 170 5) ∧ st 170 4 ≤ s10 170 4 from by omega), (show jR st (zup s10 185 (s10 170 35 : Int).toNat r10) from (jR_up (jR_tr (s1 := s9) (jR_tr (s1 := st) (jR_rf _) (jR_fr rfl fs9)) (jR_fr rfl fs10)) (by unfold jrel; omega))), (show s10 170 8 = 0 → TS (zup s10 185 (s10 170 35 : Int).toNat r10) ∧ s10 170 34 ≤ s10 170 4 from fun z => ⟨(TS_up rfl (TS_fr rfl fs10 (TS_fr rfl fs9 ts))), by omega⟩)⟩
      · have e35 : s9 170 34 = st 170 34 := fs9 170 34 rfl rfl
        have e34 : s10 170 34 = s9 170 34 := fs10 170 34 rfl rfl
        exact hQ _ ⟨gs10, (fr_tr (fr_tr (fr_rf _ _) fs9 rfl) fs10 rfl), (show s10 170 4 ≤ s10 170 5 ∧ s10 170 5 ≤ s10 170 2 ∧ (s10 170 3 = 0 ∧ s10 170 4 = s10 170 2 ∨ 1 ≤ s10 170 3 ∧ s10 170 4 < s10 170 5) ∧ st 170 4 ≤ s10 170 4 from by omega), (show jR st s10 from (jR_tr (s1 := s9) (jR_tr (s1 := st) (jR_rf _) (jR_fr rfl fs9)) (jR_fr rfl fs10))), (show s10 170 8 = 0 → TS s10 ∧ s10 170 34 ≤ s10 170 4 from fun z => absurd z (by omega))⟩
    · refine ⟨rfl, ⟨gs9, (show s9 170 4 ≤ s9 170 5 ∧ s9 170 5 ≤ s9 170 2 ∧ (s9 170 3 = 0 ∧ s9 170 4 = s9 170 2 ∨ 1 ≤ s9 170 3 ∧ s9 170 4 < s9 170 5) from by omega)⟩, fun r11 s11 q11 => ?_⟩
      obtain ⟨gs11, fs11, p11, v11⟩ := q11
      change s11 170 4 ≤ s11 170 5 ∧ s11 170 5 ≤ s11 170 2 ∧ (s11 170 3 = 0 ∧ s11 170 4 = s11 170 2 ∨ 1 ≤ s11 170 3 ∧ s11 170 4 < s11 170 5) ∧ s9 170 4 ≤ s11 170 4 ∧ (s11 170 8 = 0 → s9 170 8 = 0 ∧ s9 170 5 ≤ s11 170 4 ∧ 1 ≤ s9 170 3) at p11
      have g36 := g_signAt gs11
      have g37 := g_signEnd gs11
      have e38 : s11 170 2 = s9 170 2 := fs11 170 2 rfl rfl
      have g39 := g_sign gs11
      have g40 := g_faultKind gs11
      change -2147483648 ≤ r11 ∧ r11 ≤ 2147483647 ∧ (s11 170 8 = 0 → (0) ≤ r11 ∧ r11 ≤ (100)) at v11
      refine ⟨fun h41 => ?_, fun h41 => ?_⟩
      · refine ⟨fun h42 => ?_, fun h42 => ?_⟩
        · have e44 : s9 170 35 = st 170 35 := fs9 170 35 rfl rfl
          have e43 : s11 170 35 = s9 170 35 := fs11 170 35 rfl rfl
          refine ⟨by omega, ?_⟩
          have e46 : s9 170 34 = st 170 34 := fs9 170 34 rfl rfl
          have e45 : s11 170 34 = s9 170 34 := fs11 170 34 rfl rfl
          exact hQ _ ⟨(gInv_up gs11 (p_heatTold (by omega))), (fr_a (fr_tr (fr_tr (fr_rf _ _) fs9 rfl) fs11 rfl) rfl), (show s11 170 4 ≤ s11 170 5 ∧ s11 170 5 ≤ s11 170 2 ∧ (s11 170 3 = 0 ∧ s11 170 4 = s11 170 2 ∨ 1 ≤ s11 170 3 ∧ s11 170 4 < s11 170 5) ∧ st 170 4 ≤ s11 170 4 from by omega), (show jR st (zup s11 184 (s11 170 35 : Int).toNat r11) from (jR_up (jR_tr (s1 := s9) (jR_tr (s1 := st) (jR_rf _) (jR_fr rfl fs9)) (jR_fr rfl fs11)) (by unfold jrel; omega))), (show s11 170 8 = 0 → TS (zup s11 184 (s11 170 35 : Int).toNat r11) ∧ s11 170 34 ≤ s11 170 4 from fun z => ⟨(TS_up rfl (TS_fr rfl fs11 (TS_fr rfl fs9 ts))), by omega⟩)⟩
        · have e48 : s9 170 35 = st 170 35 := fs9 170 35 rfl rfl
          have e47 : s11 170 35 = s9 170 35 := fs11 170 35 rfl rfl
          refine ⟨by omega, ?_⟩
          have e50 : s9 170 34 = st 170 34 := fs9 170 34 rfl rfl
          have e49 : s11 170 34 = s9 170 34 := fs11 170 34 rfl rfl
          exact hQ _ ⟨(gInv_up gs11 (p_hotTold (by omega))), (fr_a (fr_tr (fr_tr (fr_rf _ _) fs9 rfl) fs11 rfl) rfl), (show s11 170 4 ≤ s11 170 5 ∧ s11 170 5 ≤ s11 170 2 ∧ (s11 170 3 = 0 ∧ s11 170 4 = s11 170 2 ∨ 1 ≤ s11 170 3 ∧ s11 170 4 < s11 170 5) ∧ st 170 4 ≤ s11 170 4 from by omega), (show jR st (zup s11 185 (s11 170 35 : Int).toNat r11) from (jR_up (jR_tr (s1 := s9) (jR_tr (s1 := st) (jR_rf _) (jR_fr rfl fs9)) (jR_fr rfl fs11)) (by unfold jrel; omega))), (show s11 170 8 = 0 → TS (zup s11 185 (s11 170 35 : Int).toNat r11) ∧ s11 170 34 ≤ s11 170 4 from fun z => ⟨(TS_up rfl (TS_fr rfl fs11 (TS_fr rfl fs9 ts))), by omega⟩)⟩
      · have e52 : s9 170 34 = st 170 34 := fs9 170 34 rfl rfl
        have e51 : s11 170 34 = s9 170 34 := fs11 170 34 rfl rfl
        exact hQ _ ⟨gs11, (fr_tr (fr_tr (fr_rf _ _) fs9 rfl) fs11 rfl), (show s11 170 4 ≤ s11 170 5 ∧ s11 170 5 ≤ s11 170 2 ∧ (s11 170 3 = 0 ∧ s11 170 4 = s11 170 2 ∨ 1 ≤ s11 170 3 ∧ s11 170 4 < s11 170 5) ∧ st 170 4 ≤ s11 170 4 from by omega), (show jR st s11 from (jR_tr (s1 := s9) (jR_tr (s1 := st) (jR_rf _) (jR_fr rfl fs9)) (jR_fr rfl fs11))), (show s11 170 8 = 0 → TS s11 ∧ s11 170 34 ≤ s11 170 4 from fun z => absurd z (by omega))⟩
  · have e53 : s9 170 34 = st 170 34 := fs9 170 34 rfl rfl
    exact hQ _ ⟨gs9, (fr_tr (fr_rf _ _) fs9 rfl), (show s9 170 4 ≤ s9 170 5 ∧ s9 170 5 ≤ s9 170 2 ∧ (s9 170 3 = 0 ∧ s9 170 4 = s9 170 2 ∨ 1 ≤ s9 170 3 ∧ s9 170 4 < s9 170 5) ∧ st 170 4 ≤ s9 170 4 from by omega), (show jR st s9 from (jR_tr (s1 := st) (jR_rf _) (jR_fr rfl fs9))), (show s9 170 8 = 0 → TS s9 ∧ s9 170 34 ≤ s9 170 4 from fun z => absurd z (by omega))⟩
theorem k_heating_m (hTb : aTb zSh rx_tb cl) {D : Nat} (hD : 4 ≤ D) : ∀ as st (Q Q' : zQ), (∀ r st', Q r st' → Q' r st') → k_heating 209 as st Q → cl D 209 as st Q' := by
  intro as st Q Q' hQ h
  unfold k_heating at h
  split at h
  · obtain ⟨rfl, h⟩ := h
    exact c_heating hTb hD (ct_heating_m hQ h)
  · exact h.elim
set_option maxHeartbeats 40000000 in
set_option maxRecDepth 100000 in
theorem c_streeting (hTb : aTb zSh rx_tb cl) {D : Nat} (hD : 4 ≤ D) {st : zS} {Q : zQ} (h : ct_streeting  st Q) : cl D 205 [.inr (.inr (.inl 170))] st Q := by
  obtain ⟨d, rfl⟩ : ∃ d, D = d + 1 := ⟨D - 1, by omega⟩
  refine hTb d 205 (rx_m205, 6, 0, 0, 0) rfl _ _ _ (Nat.le_of_ble_eq_true rfl) (fun K hcl hsf hsl => ?_)
  have hcm : zmo (wcL [(199, k_counts), (203, k_knownBut), (200, k_mustJ), (0, k_between), (188, k_number)]) (cl d) := (wcL_m (wm_cons (k_counts_m hTb (by omega)) (wm_cons (k_knownBut_m hTb (by omega)) (wm_cons (k_mustJ_m hTb (by omega)) (wm_cons (k_between_m hTb (by omega)) (wm_cons (k_number_m hTb (by omega)) wm_nil))))))
  obtain ⟨hR, hQ⟩ := h
  obtain ⟨hG, lx, ts, q, bk⟩ := hR
  change st 170 4 ≤ st 170 5 ∧ st 170 5 ≤ st 170 2 ∧ (st 170 3 = 0 ∧ st 170 4 = st 170 2 ∨ 1 ≤ st 170 3 ∧ st 170 4 < st 170 5) at lx
  change TS st at ts
  change st 170 8 = 0 ∧ st 170 34 ≤ st 170 4 ∧ 1 ≤ st 170 3 at q
  change st 170 35 = 1 - st 170 13 at bk
  have m81 : ∀ (c : Int) (bt : Int) (a : Int) (s_m81 : zS), gInv zgt s_m81 ∧ aFr m_streeting st s_m81 ∧ (s_m81 170 4 ≤ s_m81 170 5 ∧ s_m81 170 5 ≤ s_m81 170 2 ∧ (s_m81 170 3 = 0 ∧ s_m81 170 4 = s_m81 170 2 ∨ 1 ≤ s_m81 170 3 ∧ s_m81 170 4 < s_m81 170 5)) ∧ (st 170 4 ≤ s_m81 170 4) ∧ (TS s_m81) ∧ (jR st s_m81) ∧ (0 ≤ a ∧ a ≤ 7 ∧ s_m81 170 35 = st 170 35 ∧ s_m81 170 13 = st 170 13 ∧ s_m81 173 (s_m81 170 35 : Int).toNat < 14 ∧ s_m81 170 34 = st 170 34 ∧ (s_m81 170 8 = 0 → s_m81 170 34 ≤ s_m81 170 4 ∧ a < s_m81 172 (s_m81 170 35 : Int).toNat)) ∧ ((0 ≤ bt ∧ bt < 256) ∧ hb bt a = 1) → K (rx_find rx_m205 81) [(3, .inl c), (2, .inl bt), (1, .inl a), (0, .inr (.inr (.inl 170)))] [] s_m81 := by
    intro c bt a s_m81 hi
    obtain ⟨gI_m81, fI_m81, lx_m81, p_m81, ts_m81, R_m81, d_m81, bb_m81⟩ := hi
    have g1 := g_signAt gI_m81
    have g2 := g_signEnd gI_m81
    have g4 := g_size hG
    have e3 : s_m81 170 2 = st 170 2 := fI_m81 170 2 rfl rfl
    have g5 := g_sign gI_m81
    have g6 := g_signAt hG
    have g8 := g_in hG
    have e7 : s_m81 170 35 = st 170 35 := fI_m81 170 35 rfl rfl
    have g10 := g_bank hG
    have e9 : s_m81 170 13 = st 170 13 := fI_m81 170 13 rfl rfl
    have g11 := g_streets gI_m81 (s_m81 170 35 : Int).toNat
    have e12 : s_m81 173 (s_m81 170 35 : Int).toNat = s_m81 173 (st 170 35 : Int).toNat := by rw [e7]
    have g13 := g_streets gI_m81 (st 170 35 : Int).toNat
    have g14 := g_codes gI_m81
    have g15 := g_codes hG
    have g16 := g_faultKind gI_m81
    have g17 := g_places gI_m81 (s_m81 170 35 : Int).toNat
    have e18 : s_m81 172 (s_m81 170 35 : Int).toNat = s_m81 172 (st 170 35 : Int).toNat := by rw [e7]
    have g19 := g_places gI_m81 (st 170 35 : Int).toNat
    refine yr1_ok (Rt := Q) (wc := (wcL [(199, k_counts), (203, k_knownBut), (200, k_mustJ), (0, k_between), (188, k_number)])) (stp := [81]) hcm hcl [] 155 ?_
    show (170 = 170 ∧ (rq_knownBut bt s_m81 ∧ (∀ (r20 : Int) (s20 : zS), en_knownBut bt s_m81 r20 s20 → (170 = 170 ∧ (rq_mustJ (482670241139) s20 ∧ (∀ (s21 : zS), en_mustJ (482670241139) s20 s21 → (170 = 170 ∧ (rq_number (1) (99) s21 ∧ (∀ (r22 : Int) (s22 : zS), en_number (1) (99) s21 r22 s22 → ((s22 170 8 ≤ (0 : Int) → ((-2147483648 ≤ (14 : Int) * (s22 170 35) ∧ (14 : Int) * (s22 170 35) ≤ 2147483647) ∧ ((0 ≤ s22 170 35 ∧ s22 170 35 < 2) ∧ ((-2147483648 ≤ ((14 : Int) * (s22 170 35)) + (s22 173 (s22 170 35 : Int).toNat) ∧ ((14 : Int) * (s22 170 35)) + (s22 173 (s22 170 35 : Int).toNat) ≤ 2147483647) ∧ ((0 ≤ ((14 : Int) * (s22 170 35)) + (s22 173 (s22 170 35 : Int).toNat) ∧ ((14 : Int) * (s22 170 35)) + (s22 173 (s22 170 35 : Int).toNat) < 28) ∧ ((0 ≤ ((14 : Int) * (s22 170 35)) + (s22 173 (s22 170 35 : Int).toNat) ∧ ((14 : Int) * (s22 170 35)) + (s22 173 (s22 170 35 : Int).toNat) < 28) ∧ ((0 ≤ ((14 : Int) * (s22 170 35)) + (s22 173 (s22 170 35 : Int).toNat) ∧ ((14 : Int) * (s22 170 35)) + (s22 173 (s22 170 35 : Int).toNat) < 28) ∧ ((0 ≤ s22 170 35 ∧ s22 170 35 < 2) ∧ ((-2147483648 ≤ (s22 173 (s22 170 35 : Int).toNat) + 1 ∧ (s22 173 (s22 170 35 : Int).toNat) + 1 ≤ 2147483647) ∧ ((0 ≤ s22 170 35 ∧ s22 170 35 < 2) ∧ ((-2147483648 ≤ (64 : Int) * (s22 170 35) ∧ (64 : Int) * (s22 170 35) ≤ 2147483647) ∧ ((-2147483648 ≤ (8 : Int) * a ∧ (8 : Int) * a ≤ 2147483647) ∧ ((-2147483648 ≤ ((64 : Int) * (s22 170 35)) + ((8 : Int) * a) ∧ ((64 : Int) * (s22 170 35)) + ((8 : Int) * a) ≤ 2147483647) ∧ ((-2147483648 ≤ (((64 : Int) * (s22 170 35)) + ((8 : Int) * a)) + r20 ∧ (((64 : Int) * (s22 170 35)) + ((8 : Int) * a)) + r20 ≤ 2147483647) ∧ ((0 ≤ s22 170 35 ∧ s22 170 35 < 2) ∧ ((0 ≤ (((64 : Int) * (s22 170 35)) + ((8 : Int) * a)) + r20 ∧ (((64 : Int) * (s22 170 35)) + ((8 : Int) * a)) + r20 < 128) ∧ ((-2147483648 ≤ (64 : Int) * (s22 170 35) ∧ (64 : Int) * (s22 170 35) ≤ 2147483647) ∧ ((-2147483648 ≤ (8 : Int) * r20 ∧ (8 : Int) * r20 ≤ 2147483647) ∧ ((-2147483648 ≤ ((64 : Int) * (s22 170 35)) + ((8 : Int) * r20) ∧ ((64 : Int) * (s22 170 35)) + ((8 : Int) * r20) ≤ 2147483647) ∧ ((-2147483648 ≤ (((64 : Int) * (s22 170 35)) + ((8 : Int) * r20)) + a ∧ (((64 : Int) * (s22 170 35)) + ((8 : Int) * r20)) + a ≤ 2147483647) ∧ ((0 ≤ s22 170 35 ∧ s22 170 35 < 2) ∧ ((0 ≤ (((64 : Int) * (s22 170 35)) + ((8 : Int) * r20)) + a ∧ (((64 : Int) * (s22 170 35)) + ((8 : Int) * r20)) + a < 128) ∧ Q none (zup (zup (zup (zup (zup (zup s22 174 (((14 : Int) * (s22 170 35)) + (s22 173 (s22 170 35 : Int).toNat) : Int).toNat a) 175 (((14 : Int) * (s22 170 35)) + (s22 173 (s22 170 35 : Int).toNat) : Int).toNat r20) 176 (((14 : Int) * (s22 170 35)) + (s22 173 (s22 170 35 : Int).toNat) : Int).toNat r22) 173 (s22 170 35 : Int).toNat ((s22 173 (s22 170 35 : Int).toNat) + 1)) 177 ((((64 : Int) * (s22 170 35)) + ((8 : Int) * a)) + r20 : Int).toNat ((zup (zup (zup (zup s22 174 (((14 : Int) * (s22 170 35)) + (s22 173 (s22 170 35 : Int).toNat) : Int).toNat a) 175 (((14 : Int) * (s22 170 35)) + (s22 173 (s22 170 35 : Int).toNat) : Int).toNat r20) 176 (((14 : Int) * (s22 170 35)) + (s22 173 (s22 170 35 : Int).toNat) : Int).toNat r22) 173 (s22 170 35 : Int).toNat ((s22 173 (s22 170 35 : Int).toNat) + 1)) 173 (s22 170 35 : Int).toNat)) 177 ((((64 : Int) * (s22 170 35)) + ((8 : Int) * r20)) + a : Int).toNat ((zup (zup (zup (zup s22 174 (((14 : Int) * (s22 170 35)) + (s22 173 (s22 170 35 : Int).toNat) : Int).toNat a) 175 (((14 : Int) * (s22 170 35)) + (s22 173 (s22 170 35 : Int).toNat) : Int).toNat r20) 176 (((14 : Int) * (s22 170 35)) + (s22 173 (s22 170 35 : Int).toNat) : Int).toNat r22) 173 (s22 170 35 : Int).toNat ((s22 173 (s22 170 35 : Int).toNat) + 1)) 173 (s22 170 35 : Int).toNat)))))))))))))))))))))))) ∧ (¬ (s22 170 8 ≤ (0 : Int)) → Q none s22)))))))))))
    refine ⟨rfl, ⟨gI_m81, (show s_m81 170 4 ≤ s_m81 170 5 ∧ s_m81 170 5 ≤ s_m81 170 2 ∧ (s_m81 170 3 = 0 ∧ s_m81 170 4 = s_m81 170 2 ∨ 1 ≤ s_m81 170 3 ∧ s_m81 170 4 < s_m81 170 5) from by omega)⟩, fun r20 s20 q20 => ?_⟩
    obtain ⟨gs20, fs20, p20, v20⟩ := q20
    change s20 170 4 ≤ s20 170 5 ∧ s20 170 5 ≤ s20 170 2 ∧ (s20 170 3 = 0 ∧ s20 170 4 = s20 170 2 ∨ 1 ≤ s20 170 3 ∧ s20 170 4 < s20 170 5) ∧ s_m81 170 4 ≤ s20 170 4 ∧ (s20 170 8 = 0 → s_m81 170 8 = 0 ∧ s_m81 170 5 ≤ s20 170 4 ∧ 1 ≤ s_m81 170 3) at p20
    have g23 := g_signAt gs20
    have g24 := g_signEnd gs20
    have e25 : s20 170 2 = s_m81 170 2 := fs20 170 2 rfl rfl
    have g26 := g_sign gs20
    have g27 := g_faultKind gs20
    change 0 ≤ r20 ∧ r20 ≤ 7 ∧ (s20 170 8 = 0 → r20 < s20 172 (s20 170 35 : Int).toNat ∧ hb bt r20 = 0) at v20
    have e28 : s20 170 35 = s_m81 170 35 := fs20 170 35 rfl rfl
    have e29 : s20 172 (s20 170 35 : Int).toNat = s_m81 172 (st 170 35 : Int).toNat := (fs20 172 (s20 170 35 : Int).toNat rfl rfl).trans (by rw [e28, e7] <;> rfl)
    refine ⟨rfl, ⟨gs20, (show s20 170 4 ≤ s20 170 5 ∧ s20 170 5 ≤ s20 170 2 ∧ (s20 170 3 = 0 ∧ s20 170 4 = s20 170 2 ∨ 1 ≤ s20 170 3 ∧ s20 170 4 < s20 170 5) from by omega)⟩, fun s21 q21 => ?_⟩
    obtain ⟨gs21, fs21, p21⟩ := q21
    change s21 170 4 ≤ s21 170 5 ∧ s21 170 5 ≤ s21 170 2 ∧ (s21 170 3 = 0 ∧ s21 170 4 = s21 170 2 ∨ 1 ≤ s21 170 3 ∧ s21 170 4 < s21 170 5) ∧ s20 170 4 ≤ s21 170 4 ∧ (s21 170 8 = 0 → s20 170 8 = 0 ∧ s20 170 5 ≤ s21 170 4 ∧ 1 ≤ s20 170 3) at p21
    have g30 := g_signAt gs21
    have g31 := g_signEnd gs21
    have e32 : s21 170 2 = s20 170 2 := fs21 170 2 rfl rfl
    have g33 := g_sign gs21
    have g34 := g_faultKind gs21
    refine ⟨rfl, ⟨gs21, (show s21 170 4 ≤ s21 170 5 ∧ s21 170 5 ≤ s21 170 2 ∧ (s21 170 3 = 0 ∧ s21 170 4 = s21 170 2 ∨ 1 ≤ s21 170 3 ∧ s21 170 4 < s21 170 5) from by omega)⟩, fun r22 s22 q22 => ?_⟩
    obtain ⟨gs22, fs22, p22, v22⟩ := q22
    change s22 170 4 ≤ s22 170 5 ∧ s22 170 5 ≤ s22 170 2 ∧ (s22 170 3 = 0 ∧ s22 170 4 = s22 170 2 ∨ 1 ≤ s22 170 3 ∧ s22 170 4 < s22 170 5) ∧ s21 170 4 ≤ s22 170 4 ∧ (s22 170 8 = 0 → s21 170 8 = 0 ∧ s21 170 5 ≤ s22 170 4 ∧ 1 ≤ s21 170 3) at p22
    have g35 := g_signAt gs22
    have g36 := g_signEnd gs22
    have e37 : s22 170 2 = s21 170 2 := fs22 170 2 rfl rfl
    have g38 := g_sign gs22
    have g39 := g_faultKind gs22
    change -2147483648 ≤ r22 ∧ r22 ≤ 2147483647 ∧ (s22 170 8 = 0 → (1) ≤ r22 ∧ r22 ≤ (99)) at v22
    refine ⟨fun h40 => ?_, fun h40 => ?_⟩
    · have e42 : s21 170 35 = s20 170 35 := fs21 170 35 rfl rfl
      have e41 : s22 170 35 = s21 170 35 := fs22 170 35 rfl rfl
      refine ⟨by omega, ?_⟩
      have e45 : s20 173 (st 170 35 : Int).toNat = s_m81 173 (st 170 35 : Int).toNat := fs20 173 (st 170 35 : Int).toNat rfl rfl
      have e44 : s21 173 (st 170 35 : Int).toNat = s20 173 (st 170 35 : Int).toNat := fs21 173 (st 170 35 : Int).toNat rfl rfl
      have e43 : s22 173 (s22 170 35 : Int).toNat = s21 173 (st 170 35 : Int).toNat := (fs22 173 (s22 170 35 : Int).toNat rfl rfl).trans (by rw [e41, e42, e28, e7] <;> rfl)
      refine ⟨by omega, ?_⟩
      refine ⟨by omega, ?_⟩
      refine ⟨by omega, ?_⟩
      refine ⟨by omega, ?_⟩
      refine ⟨by omega, ?_⟩
      refine ⟨by omega, ?_⟩
      refine ⟨by omega, ?_⟩
      refine ⟨by omega, ?_⟩
      refine ⟨by omega, ?_⟩
      refine ⟨by omega, ?_⟩
      refine ⟨by omega, ?_⟩
      refine ⟨by omega, ?_⟩
      have u46 : (zup (zup (zup (zup s22 174 (((14 : Int) * (s22 170 35)) + (s22 173 (s22 170 35 : Int).toNat) : Int).toNat a) 175 (((14 : Int) * (s22 170 35)) + (s22 173 (s22 170 35 : Int).toNat) : Int).toNat r20) 176 (((14 : Int) * (s22 170 35)) + (s22 173 (s22 170 35 : Int).toNat) : Int).toNat r22) 173 (s22 170 35 : Int).toNat ((s22 173 (s22 170 35 : Int).toNat) + 1)) 173 (s22 170 35 : Int).toNat = ((s22 173 (s22 170 35 : Int).toNat) + 1) := zup_eq _ _ _ _
      refine ⟨by omega, ?_⟩
      refine ⟨by omega, ?_⟩
      refine ⟨by omega, ?_⟩
      refine ⟨by omega, ?_⟩
      refine ⟨by omega, ?_⟩
      refine ⟨by omega, ?_⟩
      refine ⟨by omega, ?_⟩
      refine ⟨by omega, ?_⟩
      have e50 : s20 170 34 = s_m81 170 34 := fs20 170 34 rfl rfl
      have e49 : s21 170 34 = s20 170 34 := fs21 170 34 rfl rfl
      have e48 : s22 170 34 = s21 170 34 := fs22 170 34 rfl rfl
      have e53 : s20 172 (st 170 35 : Int).toNat = s_m81 172 (st 170 35 : Int).toNat := fs20 172 (st 170 35 : Int).toNat rfl rfl
      have e52 : s21 172 (st 170 35 : Int).toNat = s20 172 (st 170 35 : Int).toNat := fs21 172 (st 170 35 : Int).toNat rfl rfl
      have e51 : s22 172 (s22 170 35 : Int).toNat = s21 172 (st 170 35 : Int).toNat := (fs22 172 (s22 170 35 : Int).toNat rfl rfl).trans (by rw [e41, e42, e28, e7] <;> rfl)
      exact hQ _ ⟨(gInv_up (gInv_up (gInv_up (gInv_up (gInv_up (gInv_up gs22 (p_fromOf (by omega))) (p_toOf (by omega))) (p_pacesOf (by omega))) (p_streets (by omega))) (p_streetAt (by omega))) (p_streetAt (by omega))), (fr_a (fr_a (fr_a (fr_a (fr_a (fr_a (fr_tr (fr_tr (fr_tr fI_m81 fs20 rfl) fs21 rfl) fs22 rfl) rfl) rfl) rfl) rfl) rfl) rfl), (show s22 170 4 ≤ s22 170 5 ∧ s22 170 5 ≤ s22 170 2 ∧ (s22 170 3 = 0 ∧ s22 170 4 = s22 170 2 ∨ 1 ≤ s22 170 3 ∧ s22 170 4 < s22 170 5) ∧ st 170 4 ≤ s22 170 4 from by omega), (show jR st (zup (zup (zup (zup (zup (zup s22 174 (((14 : Int) * (s22 170 35)) + (s22 173 (s22 170 35 : Int).toNat) : Int).toNat a) 175 (((14 : Int) * (s22 170 35)) + (s22 173 (s22 170 35 : Int).toNat) : Int).toNat r20) 176 (((14 : Int) * (s22 170 35)) + (s22 173 (s22 170 35 : Int).toNat) : Int).toNat r22) 173 (s22 170 35 : Int).toNat ((s22 173 (s22 170 35 : Int).toNat) + 1)) 177 ((((64 : Int) * (s22 170 35)) + ((8 : Int) * a)) + r20 : Int).toNat ((zup (zup (zup (zup s22 174 (((14 : Int) * (s22 170 35)) + (s22 173 (s22 170 35 : Int).toNat) : Int).toNat a) 175 (((14 : Int) * (s22 170 35)) + (s22 173 (s22 170 35 : Int).toNat) : Int).toNat r20) 176 (((14 : Int) * (s22 170 35)) + (s22 173 (s22 170 35 : Int).toNat) : Int).toNat r22) 173 (s22 170 35 : Int).toNat ((s22 173 (s22 170 35 : Int).toNat) + 1)) 173 (s22 170 35 : Int).toNat)) 177 ((((64 : Int) * (s22 170 35)) + ((8 : Int) * r20)) + a : Int).toNat ((zup (zup (zup (zup s22 174 (((14 : Int) * (s22 170 35)) + (s22 173 (s22 170 35 : Int).toNat) : Int).toNat a) 175 (((14 : Int) * (s22 170 35)) + (s22 173 (s22 170 35 : Int).toNat) : Int).toNat r20) 176 (((14 : Int) * (s22 170 35)) + (s22 173 (s22 170 35 : Int).toNat) : Int).toNat r22) 173 (s22 170 35 : Int).toNat ((s22 173 (s22 170 35 : Int).toNat) + 1)) 173 (s22 170 35 : Int).toNat)) from (jR_up (jR_up (jR_up (jR_up (jR_up (jR_up (jR_tr (s1 := s21) (jR_tr (s1 := s20) (jR_tr (s1 := s_m81) R_m81 (jR_fr rfl fs20)) (jR_fr rfl fs21)) (jR_fr rfl fs22)) (by unfold jrel; omega)) (by unfold jrel; omega)) (by unfold jrel; omega)) (by unfold jrel; omega)) (by unfold jrel; omega)) (by unfold jrel; omega))), (show s22 170 8 = 0 → TS (zup (zup (zup (zup (zup (zup s22 174 (((14 : Int) * (s22 170 35)) + (s22 173 (s22 170 35 : Int).toNat) : Int).toNat a) 175 (((14 : Int) * (s22 170 35)) + (s22 173 (s22 170 35 : Int).toNat) : Int).toNat r20) 176 (((14 : Int) * (s22 170 35)) + (s22 173 (s22 170 35 : Int).toNat) : Int).toNat r22) 173 (s22 170 35 : Int).toNat ((s22 173 (s22 170 35 : Int).toNat) + 1)) 177 ((((64 : Int) * (s22 170 35)) + ((8 : Int) * a)) + r20 : Int).toNat ((zup (zup (zup (zup s22 174 (((14 : Int) * (s22 170 35)) + (s22 173 (s22 170 35 : Int).toNat) : Int).toNat a) 175 (((14 : Int) * (s22 170 35)) + (s22 173 (s22 170 35 : Int).toNat) : Int).toNat r20) 176 (((14 : Int) * (s22 170 35)) + (s22 173 (s22 170 35 : Int).toNat) : Int).toNat r22) 173 (s22 170 35 : Int).toNat ((s22 173 (s22 170 35 : Int).toNat) + 1)) 173 (s22 170 35 : Int).toNat)) 177 ((((64 : Int) * (s22 170 35)) + ((8 : Int) * r20)) + a : Int).toNat ((zup (zup (zup (zup s22 174 (((14 : Int) * (s22 170 35)) + (s22 173 (s22 170 35 : Int).toNat) : Int).toNat a) 175 (((14 : Int) * (s22 170 35)) + (s22 173 (s22 170 35 : Int).toNat) : Int).toNat r20) 176 (((14 : Int) * (s22 170 35)) + (s22 173 (s22 170 35 : Int).toNat) : Int).toNat r22) 173 (s22 170 35 : Int).toNat ((s22 173 (s22 170 35 : Int).toNat) + 1)) 173 (s22 170 35 : Int).toNat)) ∧ s22 170 34 ≤ s22 170 4 from fun z => ⟨by
          have z1 : (zup (zup (zup (zup s22 174 (((14 : Int) * (s22 170 35)) + (s22 173 (s22 170 35 : Int).toNat) : Int).toNat a) 175 (((14 : Int) * (s22 170 35)) + (s22 173 (s22 170 35 : Int).toNat) : Int).toNat r20) 176 (((14 : Int) * (s22 170 35)) + (s22 173 (s22 170 35 : Int).toNat) : Int).toNat r22) 173 (s22 170 35 : Int).toNat ((s22 173 (s22 170 35 : Int).toNat) + 1)) 173 (s22 170 35 : Int).toNat = s22 173 (s22 170 35 : Int).toNat + 1 := zup_eq _ _ _ _
          show TS1 (s22 170 35) (s22 172 (s22 170 35 : Int).toNat) ((zup (zup (zup (zup s22 174 (((14 : Int) * (s22 170 35)) + (s22 173 (s22 170 35 : Int).toNat) : Int).toNat a) 175 (((14 : Int) * (s22 170 35)) + (s22 173 (s22 170 35 : Int).toNat) : Int).toNat r20) 176 (((14 : Int) * (s22 170 35)) + (s22 173 (s22 170 35 : Int).toNat) : Int).toNat r22) 173 (s22 170 35 : Int).toNat ((s22 173 (s22 170 35 : Int).toNat) + 1)) 173 (s22 170 35 : Int).toNat) (up1 (up1 (s22 177) ((((64 : Int) * (s22 170 35)) + ((8 : Int) * a)) + r20 : Int).toNat ((zup (zup (zup (zup s22 174 (((14 : Int) * (s22 170 35)) + (s22 173 (s22 170 35 : Int).toNat) : Int).toNat a) 175 (((14 : Int) * (s22 170 35)) + (s22 173 (s22 170 35 : Int).toNat) : Int).toNat r20) 176 (((14 : Int) * (s22 170 35)) + (s22 173 (s22 170 35 : Int).toNat) : Int).toNat r22) 173 (s22 170 35 : Int).toNat ((s22 173 (s22 170 35 : Int).toNat) + 1)) 173 (s22 170 35 : Int).toNat)) ((((64 : Int) * (s22 170 35)) + ((8 : Int) * r20)) + a : Int).toNat ((zup (zup (zup (zup s22 174 (((14 : Int) * (s22 170 35)) + (s22 173 (s22 170 35 : Int).toNat) : Int).toNat a) 175 (((14 : Int) * (s22 170 35)) + (s22 173 (s22 170 35 : Int).toNat) : Int).toNat r20) 176 (((14 : Int) * (s22 170 35)) + (s22 173 (s22 170 35 : Int).toNat) : Int).toNat r22) 173 (s22 170 35 : Int).toNat ((s22 173 (s22 170 35 : Int).toNat) + 1)) 173 (s22 170 35 : Int).toNat)) (up1 (s22 176) (((14 : Int) * (s22 170 35)) + (s22 173 (s22 170 35 : Int).toNat) : Int).toNat r22) ∧ TS2 (s22 170 35) (s22 178 (s22 170 35 : Int).toNat) (up1 (up1 (s22 177) ((((64 : Int) * (s22 170 35)) + ((8 : Int) * a)) + r20 : Int).toNat ((zup (zup (zup (zup s22 174 (((14 : Int) * (s22 170 35)) + (s22 173 (s22 170 35 : Int).toNat) : Int).toNat a) 175 (((14 : Int) * (s22 170 35)) + (s22 173 (s22 170 35 : Int).toNat) : Int).toNat r20) 176 (((14 : Int) * (s22 170 35)) + (s22 173 (s22 170 35 : Int).toNat) : Int).toNat r22) 173 (s22 170 35 : Int).toNat ((s22 173 (s22 170 35 : Int).toNat) + 1)) 173 (s22 170 35 : Int).toNat)) ((((64 : Int) * (s22 170 35)) + ((8 : Int) * r20)) + a : Int).toNat ((zup (zup (zup (zup s22 174 (((14 : Int) * (s22 170 35)) + (s22 173 (s22 170 35 : Int).toNat) : Int).toNat a) 175 (((14 : Int) * (s22 170 35)) + (s22 173 (s22 170 35 : Int).toNat) : Int).toNat r20) 176 (((14 : Int) * (s22 170 35)) + (s22 173 (s22 170 35 : Int).toNat) : Int).toNat r22) 173 (s22 170 35 : Int).toNat ((s22 173 (s22 170 35 : Int).toNat) + 1)) 173 (s22 170 35 : Int).toNat)) (s22 179) ∧ TS3 (s22 170 35) (s22 170 34) (s22 186) (s22 187) (s22 188)
          simp only [z1]
          exact ⟨TS1_st (TS_fr rfl fs22 (TS_fr rfl fs21 (TS_fr rfl fs20 ts_m81))).1 (by omega) (by omega) (by omega) (by omega) (by omega) (fun z1 => by have z2 := (v20.2.2 (by omega)).2; rw [← z1] at z2; omega) rfl rfl rfl, TS2_st (TS_fr rfl fs22 (TS_fr rfl fs21 (TS_fr rfl fs20 ts_m81))).2.1 (by omega), (TS_fr rfl fs22 (TS_fr rfl fs21 (TS_fr rfl fs20 ts_m81))).2.2⟩, by omega⟩)⟩
    · have e56 : s20 170 34 = s_m81 170 34 := fs20 170 34 rfl rfl
      have e55 : s21 170 34 = s20 170 34 := fs21 170 34 rfl rfl
      have e54 : s22 170 34 = s21 170 34 := fs22 170 34 rfl rfl
      exact hQ _ ⟨gs22, (fr_tr (fr_tr (fr_tr fI_m81 fs20 rfl) fs21 rfl) fs22 rfl), (show s22 170 4 ≤ s22 170 5 ∧ s22 170 5 ≤ s22 170 2 ∧ (s22 170 3 = 0 ∧ s22 170 4 = s22 170 2 ∨ 1 ≤ s22 170 3 ∧ s22 170 4 < s22 170 5) ∧ st 170 4 ≤ s22 170 4 from by omega), (show jR st s22 from (jR_tr (s1 := s21) (jR_tr (s1 := s20) (jR_tr (s1 := s_m81) R_m81 (jR_fr rfl fs20)) (jR_fr rfl fs21)) (jR_fr rfl fs22))), (show s22 170 8 = 0 → TS s22 ∧ s22 170 34 ≤ s22 170 4 from fun z => absurd z (by omega))⟩
  have lp : ∀ (u : Nat) (c : Int) (bt : Int) (a : Int) (s_lp : zS), gInv zgt s_lp ∧ aFr m_streeting st s_lp ∧ (s_lp 170 4 ≤ s_lp 170 5 ∧ s_lp 170 5 ≤ s_lp 170 2 ∧ (s_lp 170 3 = 0 ∧ s_lp 170 4 = s_lp 170 2 ∨ 1 ≤ s_lp 170 3 ∧ s_lp 170 4 < s_lp 170 5)) ∧ (st 170 4 ≤ s_lp 170 4) ∧ (TS s_lp) ∧ (jR st s_lp) ∧ (0 ≤ a ∧ a ≤ 7 ∧ s_lp 170 35 = st 170 35 ∧ s_lp 170 13 = st 170 13 ∧ s_lp 173 (s_lp 170 35 : Int).toNat < 14 ∧ s_lp 170 34 = st 170 34 ∧ (s_lp 170 8 = 0 → s_lp 170 34 ≤ s_lp 170 4 ∧ a < s_lp 172 (s_lp 170 35 : Int).toNat)) ∧ ((0 ≤ bt ∧ bt < 256) ∧ hb bt a = 1) ∧ (0 ≤ c ∧ c ≤ 8) → (8 - c).toNat = u → K (rx_find rx_m205 46) [(3, .inl c), (2, .inl bt), (1, .inl a), (0, .inr (.inr (.inl 170)))] [] s_lp := by
    intro u
    induction u using Nat.strongRecOn with
    | _ u ih =>
      intro c bt a s_lp hi hu
      obtain ⟨gI_lp, fI_lp, lx_lp, p_lp, ts_lp, R_lp, d_lp, bb_lp, i_lp⟩ := hi
      have g57 := g_signAt gI_lp
      have g58 := g_signEnd gI_lp
      have g60 := g_size hG
      have e59 : s_lp 170 2 = st 170 2 := fI_lp 170 2 rfl rfl
      have g61 := g_sign gI_lp
      have g62 := g_signAt hG
      have g64 := g_in hG
      have e63 : s_lp 170 35 = st 170 35 := fI_lp 170 35 rfl rfl
      have g66 := g_bank hG
      have e65 : s_lp 170 13 = st 170 13 := fI_lp 170 13 rfl rfl
      have g67 := g_streets gI_lp (s_lp 170 35 : Int).toNat
      have e68 : s_lp 173 (s_lp 170 35 : Int).toNat = s_lp 173 (st 170 35 : Int).toNat := by rw [e63]
      have g69 := g_streets gI_lp (st 170 35 : Int).toNat
      have g70 := g_codes gI_lp
      have g71 := g_codes hG
      have g72 := g_faultKind gI_lp
      have g73 := g_places gI_lp (s_lp 170 35 : Int).toNat
      have e74 : s_lp 172 (s_lp 170 35 : Int).toNat = s_lp 172 (st 170 35 : Int).toNat := by rw [e63]
      have g75 := g_places gI_lp (st 170 35 : Int).toNat
      refine yr1_ok (Rt := Q) (wc := (wcL [(199, k_counts), (203, k_knownBut), (200, k_mustJ), (0, k_between), (188, k_number)])) (stp := [46, 81]) hcm hcl [] 155 ?_
      show (((8 : Int) ≤ c → K (rx_find rx_m205 81) [(3, .inl c), (2, .inl bt), (1, .inl a), (0, .inr (.inr (.inl 170)))] [] s_lp) ∧ (¬ ((8 : Int) ≤ c) → (170 = 170 ∧ (rq_between (s_lp 170 35) a c s_lp ∧ (∀ (r76 : Int), en_between (s_lp 170 35) a c s_lp r76 → ((r76 ≤ (0 : Int) → ((-2147483648 ≤ c + 1 ∧ c + 1 ≤ 2147483647) ∧ K (rx_find rx_m205 46) [(3, .inl (c + 1)), (2, .inl (zd (Nat.lor (zi bt) (zi 0)))), (1, .inl a), (0, .inr (.inr (.inl 170)))] [] s_lp)) ∧ (¬ (r76 ≤ (0 : Int)) → ((-2147483648 ≤ c + 1 ∧ c + 1 ≤ 2147483647) ∧ K (rx_find rx_m205 46) [(3, .inl (c + 1)), (2, .inl (zd (Nat.lor (zi bt) (zi (zd ((zi 1 * 2 ^ (zi c % 32)) % 4294967296)))))), (1, .inl a), (0, .inr (.inr (.inl 170)))] [] s_lp))))))))
      refine ⟨fun h77 => ?_, fun h77 => ?_⟩
      · exact m81 c bt a s_lp ⟨gI_lp, fI_lp, (show s_lp 170 4 ≤ s_lp 170 5 ∧ s_lp 170 5 ≤ s_lp 170 2 ∧ (s_lp 170 3 = 0 ∧ s_lp 170 4 = s_lp 170 2 ∨ 1 ≤ s_lp 170 3 ∧ s_lp 170 4 < s_lp 170 5) from by omega), (show st 170 4 ≤ s_lp 170 4 from by omega), (show TS s_lp from ts_lp), (show jR st s_lp from R_lp), (show 0 ≤ a ∧ a ≤ 7 ∧ s_lp 170 35 = st 170 35 ∧ s_lp 170 13 = st 170 13 ∧ s_lp 173 (s_lp 170 35 : Int).toNat < 14 ∧ s_lp 170 34 = st 170 34 ∧ (s_lp 170 8 = 0 → s_lp 170 34 ≤ s_lp 170 4 ∧ a < s_lp 172 (s_lp 170 35 : Int).toNat) from by omega), (show (0 ≤ bt ∧ bt < 256) ∧ hb bt a = 1 from bb_lp)⟩
      · refine ⟨rfl, (show 0 ≤ (s_lp 170 35) ∧ (s_lp 170 35) ≤ 1 ∧ 0 ≤ a ∧ a < 8 ∧ 0 ≤ c ∧ c < 8 from by omega), fun r76 q76 => ?_⟩
        have e76 := q76
        change r76 = s_lp 177 (64 * (s_lp 170 35) + 8 * a + c : Int).toNat at e76
        have g78 := g_streetAt gI_lp (64 * (s_lp 170 35) + 8 * a + c : Int).toNat
        have e79 : s_lp 177 (64 * (s_lp 170 35) + 8 * a + c : Int).toNat = s_lp 177 (64 * (st 170 35) + 8 * a + c : Int).toNat := by rw [e63]
        have g80 := g_streetAt gI_lp (64 * (st 170 35) + 8 * a + c : Int).toNat
        refine ⟨fun h81 => ?_, fun h81 => ?_⟩
        · refine ⟨by omega, ?_⟩
          exact ih _ (show (8 - (c + 1) : Int).toNat < u from by omega) (c + 1) (zd (Nat.lor (zi bt) (zi 0))) a s_lp ⟨gI_lp, fI_lp, (show s_lp 170 4 ≤ s_lp 170 5 ∧ s_lp 170 5 ≤ s_lp 170 2 ∧ (s_lp 170 3 = 0 ∧ s_lp 170 4 = s_lp 170 2 ∨ 1 ≤ s_lp 170 3 ∧ s_lp 170 4 < s_lp 170 5) from by omega), (show st 170 4 ≤ s_lp 170 4 from by omega), (show TS s_lp from ts_lp), (show jR st s_lp from R_lp), (show 0 ≤ a ∧ a ≤ 7 ∧ s_lp 170 35 = st 170 35 ∧ s_lp 170 13 = st 170 13 ∧ s_lp 173 (s_lp 170 35 : Int).toNat < 14 ∧ s_lp 170 34 = st 170 34 ∧ (s_lp 170 8 = 0 → s_lp 170 34 ≤ s_lp 170 4 ∧ a < s_lp 172 (s_lp 170 35 : Int).toNat) from by omega), (show (0 ≤ (zd (Nat.lor (zi bt) (zi 0))) ∧ (zd (Nat.lor (zi bt) (zi 0))) < 256) ∧ hb (zd (Nat.lor (zi bt) (zi 0))) a = 1 from by rw [lor_z (by omega)]; exact bb_lp), (show 0 ≤ (c + 1) ∧ (c + 1) ≤ 8 from by omega)⟩ rfl
        · refine ⟨by omega, ?_⟩
          exact ih _ (show (8 - (c + 1) : Int).toNat < u from by omega) (c + 1) (zd (Nat.lor (zi bt) (zi (zd ((zi 1 * 2 ^ (zi c % 32)) % 4294967296))))) a s_lp ⟨gI_lp, fI_lp, (show s_lp 170 4 ≤ s_lp 170 5 ∧ s_lp 170 5 ≤ s_lp 170 2 ∧ (s_lp 170 3 = 0 ∧ s_lp 170 4 = s_lp 170 2 ∨ 1 ≤ s_lp 170 3 ∧ s_lp 170 4 < s_lp 170 5) from by omega), (show st 170 4 ≤ s_lp 170 4 from by omega), (show TS s_lp from ts_lp), (show jR st s_lp from R_lp), (show 0 ≤ a ∧ a ≤ 7 ∧ s_lp 170 35 = st 170 35 ∧ s_lp 170 13 = st 170 13 ∧ s_lp 173 (s_lp 170 35 : Int).toNat < 14 ∧ s_lp 170 34 = st 170 34 ∧ (s_lp 170 8 = 0 → s_lp 170 34 ≤ s_lp 170 4 ∧ a < s_lp 172 (s_lp 170 35 : Int).toNat) from by omega), (show (0 ≤ (zd (Nat.lor (zi bt) (zi (zd ((zi 1 * 2 ^ (zi c % 32)) % 4294967296))))) ∧ (zd (Nat.lor (zi bt) (zi (zd ((zi 1 * 2 ^ (zi c % 32)) % 4294967296))))) < 256) ∧ hb (zd (Nat.lor (zi bt) (zi (zd ((zi 1 * 2 ^ (zi c % 32)) % 4294967296))))) a = 1 from by have z5 := lor_bit (s := bt) (c := c) (j := a) (by omega) (by omega) (by omega); refine ⟨z5.1, ?_⟩; by_cases z6 : a = c; exact z5.2.1 z6; rw [z5.2.2 z6]; exact bb_lp.2), (show 0 ≤ (c + 1) ∧ (c + 1) ≤ 8 from by omega)⟩ rfl
  have m20 : ∀ (x : Int), ((x = 0 ∨ x = 1) ∧ (x = 0 → st 173 (st 170 35 : Int).toNat < 14)) → K (rx_find rx_m205 20) [(0, .inr (.inr (.inl 170)))] [.inl x, .inr (.inr (.inl 170))] st := by
    intro x hi
    have fl_m20 := hi
    have g82 := g_in hG
    have g83 := g_streets hG (st 170 35 : Int).toNat
    have g84 := g_codes hG
    have g85 := g_bank hG
    have g86 := g_faultKind hG
    have g87 := g_signAt hG
    have g88 := g_signEnd hG
    have g89 := g_size hG
    have g90 := g_sign hG
    refine yr1_ok (Rt := Q) (wc := (wcL [(199, k_counts), (203, k_knownBut), (200, k_mustJ), (0, k_between), (188, k_number)])) (stp := [20, 46, 81]) hcm hcl [] 155 ?_
    show (170 = 170 ∧ (rq_counts x st ∧ (∀ (r91 : Int) (s91 : zS), en_counts x st r91 s91 → ((¬ r91 = (0 : Int) → (170 = 170 ∧ (rq_knownBut (0) s91 ∧ (∀ (r92 : Int) (s92 : zS), en_knownBut (0) s91 r92 s92 → (170 = 170 ∧ (rq_mustJ (29807) s92 ∧ (∀ (s93 : zS), en_mustJ (29807) s92 s93 → K (rx_find rx_m205 46) [(3, .inl 0), (2, .inl (zd ((zi 1 * 2 ^ (zi r92 % 32)) % 4294967296))), (1, .inl r92), (0, .inr (.inr (.inl 170)))] [] s93))))))) ∧ (¬ (¬ r91 = (0 : Int)) → Q none s91)))))
    refine ⟨rfl, ⟨hG, (show st 170 4 ≤ st 170 5 ∧ st 170 5 ≤ st 170 2 ∧ (st 170 3 = 0 ∧ st 170 4 = st 170 2 ∨ 1 ≤ st 170 3 ∧ st 170 4 < st 170 5) from by omega)⟩, fun r91 s91 q91 => ?_⟩
    obtain ⟨gs91, fs91, p91, v91⟩ := q91
    change s91 170 4 ≤ s91 170 5 ∧ s91 170 5 ≤ s91 170 2 ∧ (s91 170 3 = 0 ∧ s91 170 4 = s91 170 2 ∨ 1 ≤ s91 170 3 ∧ s91 170 4 < s91 170 5) ∧ st 170 4 ≤ s91 170 4 ∧ (s91 170 8 = 0 → st 170 8 = 0 ∧ st 170 5 ≤ s91 170 4 ∧ x = 0) at p91
    have g94 := g_signAt gs91
    have g95 := g_signEnd gs91
    have e96 : s91 170 2 = st 170 2 := fs91 170 2 rfl rfl
    have g97 := g_sign gs91
    have g98 := g_faultKind gs91
    change (r91 = 0 ∨ r91 = 1) ∧ (r91 = 1 ↔ s91 170 8 = 0) at v91
    refine ⟨fun h99 => ?_, fun h99 => ?_⟩
    · refine ⟨rfl, ⟨gs91, (show s91 170 4 ≤ s91 170 5 ∧ s91 170 5 ≤ s91 170 2 ∧ (s91 170 3 = 0 ∧ s91 170 4 = s91 170 2 ∨ 1 ≤ s91 170 3 ∧ s91 170 4 < s91 170 5) from by omega)⟩, fun r92 s92 q92 => ?_⟩
      obtain ⟨gs92, fs92, p92, v92⟩ := q92
      change s92 170 4 ≤ s92 170 5 ∧ s92 170 5 ≤ s92 170 2 ∧ (s92 170 3 = 0 ∧ s92 170 4 = s92 170 2 ∨ 1 ≤ s92 170 3 ∧ s92 170 4 < s92 170 5) ∧ s91 170 4 ≤ s92 170 4 ∧ (s92 170 8 = 0 → s91 170 8 = 0 ∧ s91 170 5 ≤ s92 170 4 ∧ 1 ≤ s91 170 3) at p92
      have g100 := g_signAt gs92
      have g101 := g_signEnd gs92
      have e102 : s92 170 2 = s91 170 2 := fs92 170 2 rfl rfl
      have g103 := g_sign gs92
      have g104 := g_faultKind gs92
      change 0 ≤ r92 ∧ r92 ≤ 7 ∧ (s92 170 8 = 0 → r92 < s92 172 (s92 170 35 : Int).toNat ∧ hb (0) r92 = 0) at v92
      have e106 : s91 170 35 = st 170 35 := fs91 170 35 rfl rfl
      have e105 : s92 170 35 = s91 170 35 := fs92 170 35 rfl rfl
      have g109 := g_places hG (st 170 35 : Int).toNat
      have e108 : s91 172 (st 170 35 : Int).toNat = st 172 (st 170 35 : Int).toNat := fs91 172 (st 170 35 : Int).toNat rfl rfl
      have e107 : s92 172 (s92 170 35 : Int).toNat = s91 172 (st 170 35 : Int).toNat := (fs92 172 (s92 170 35 : Int).toNat rfl rfl).trans (by rw [e105, e106] <;> rfl)
      refine ⟨rfl, ⟨gs92, (show s92 170 4 ≤ s92 170 5 ∧ s92 170 5 ≤ s92 170 2 ∧ (s92 170 3 = 0 ∧ s92 170 4 = s92 170 2 ∨ 1 ≤ s92 170 3 ∧ s92 170 4 < s92 170 5) from by omega)⟩, fun s93 q93 => ?_⟩
      obtain ⟨gs93, fs93, p93⟩ := q93
      change s93 170 4 ≤ s93 170 5 ∧ s93 170 5 ≤ s93 170 2 ∧ (s93 170 3 = 0 ∧ s93 170 4 = s93 170 2 ∨ 1 ≤ s93 170 3 ∧ s93 170 4 < s93 170 5) ∧ s92 170 4 ≤ s93 170 4 ∧ (s93 170 8 = 0 → s92 170 8 = 0 ∧ s92 170 5 ≤ s93 170 4 ∧ 1 ≤ s92 170 3) at p93
      have g110 := g_signAt gs93
      have g111 := g_signEnd gs93
      have e112 : s93 170 2 = s92 170 2 := fs93 170 2 rfl rfl
      have g113 := g_sign gs93
      have g114 := g_faultKind gs93
      have e115 : s93 170 35 = s92 170 35 := fs93 170 35 rfl rfl
      have e118 : s91 170 13 = st 170 13 := fs91 170 13 rfl rfl
      have e117 : s92 170 13 = s91 170 13 := fs92 170 13 rfl rfl
      have e116 : s93 170 13 = s92 170 13 := fs93 170 13 rfl rfl
      have e121 : s91 173 (st 170 35 : Int).toNat = st 173 (st 170 35 : Int).toNat := fs91 173 (st 170 35 : Int).toNat rfl rfl
      have e120 : s92 173 (st 170 35 : Int).toNat = s91 173 (st 170 35 : Int).toNat := fs92 173 (st 170 35 : Int).toNat rfl rfl
      have e119 : s93 173 (s93 170 35 : Int).toNat = s92 173 (st 170 35 : Int).toNat := (fs93 173 (s93 170 35 : Int).toNat rfl rfl).trans (by rw [e115, e105, e106] <;> rfl)
      have e124 : s91 170 34 = st 170 34 := fs91 170 34 rfl rfl
      have e123 : s92 170 34 = s91 170 34 := fs92 170 34 rfl rfl
      have e122 : s93 170 34 = s92 170 34 := fs93 170 34 rfl rfl
      have e126 : s92 172 (st 170 35 : Int).toNat = s91 172 (st 170 35 : Int).toNat := fs92 172 (st 170 35 : Int).toNat rfl rfl
      have e125 : s93 172 (s93 170 35 : Int).toNat = s92 172 (st 170 35 : Int).toNat := (fs93 172 (s93 170 35 : Int).toNat rfl rfl).trans (by rw [e115, e105, e106] <;> rfl)
      exact lp _ 0 (zd ((zi 1 * 2 ^ (zi r92 % 32)) % 4294967296)) r92 s93 ⟨gs93, (fr_tr (fr_tr (fr_tr (fr_rf _ _) fs91 rfl) fs92 rfl) fs93 rfl), (show s93 170 4 ≤ s93 170 5 ∧ s93 170 5 ≤ s93 170 2 ∧ (s93 170 3 = 0 ∧ s93 170 4 = s93 170 2 ∨ 1 ≤ s93 170 3 ∧ s93 170 4 < s93 170 5) from by omega), (show st 170 4 ≤ s93 170 4 from by omega), (show TS s93 from (TS_fr rfl fs93 (TS_fr rfl fs92 (TS_fr rfl fs91 ts)))), (show jR st s93 from (jR_tr (s1 := s92) (jR_tr (s1 := s91) (jR_tr (s1 := st) (jR_rf _) (jR_fr rfl fs91)) (jR_fr rfl fs92)) (jR_fr rfl fs93))), (show 0 ≤ r92 ∧ r92 ≤ 7 ∧ s93 170 35 = st 170 35 ∧ s93 170 13 = st 170 13 ∧ s93 173 (s93 170 35 : Int).toNat < 14 ∧ s93 170 34 = st 170 34 ∧ (s93 170 8 = 0 → s93 170 34 ≤ s93 170 4 ∧ r92 < s93 172 (s93 170 35 : Int).toNat) from by omega), (show (0 ≤ (zd ((zi 1 * 2 ^ (zi r92 % 32)) % 4294967296)) ∧ (zd ((zi 1 * 2 ^ (zi r92 % 32)) % 4294967296)) < 256) ∧ hb (zd ((zi 1 * 2 ^ (zi r92 % 32)) % 4294967296)) r92 = 1 from shl_bit (by omega)), (show 0 ≤ (0 : Int) ∧ (0 : Int) ≤ 8 from by omega)⟩ rfl
    · have e127 : s91 170 34 = st 170 34 := fs91 170 34 rfl rfl
      exact hQ _ ⟨gs91, (fr_tr (fr_rf _ _) fs91 rfl), (show s91 170 4 ≤ s91 170 5 ∧ s91 170 5 ≤ s91 170 2 ∧ (s91 170 3 = 0 ∧ s91 170 4 = s91 170 2 ∨ 1 ≤ s91 170 3 ∧ s91 170 4 < s91 170 5) ∧ st 170 4 ≤ s91 170 4 from by omega), (show jR st s91 from (jR_tr (s1 := st) (jR_rf _) (jR_fr rfl fs91))), (show s91 170 8 = 0 → TS s91 ∧ s91 170 34 ≤ s91 170 4 from fun z => absurd z (by omega))⟩
  have g128 := g_signAt hG
  have g129 := g_signEnd hG
  have g130 := g_size hG
  have g131 := g_sign hG
  have g132 := g_faultKind hG
  have g133 := g_codes hG
  have g134 := g_in hG
  have g135 := g_bank hG
  refine yr1_ok (Rt := Q) (wc := (wcL [(199, k_counts), (203, k_knownBut), (200, k_mustJ), (0, k_between), (188, k_number)])) (stp := [20, 46, 81]) hcm hcl [] 155 ?_
  show ((0 ≤ st 170 35 ∧ st 170 35 < 2) ∧ ((¬ st 173 (st 170 35 : Int).toNat = (14 : Int) → K (rx_find rx_m205 20) [(0, .inr (.inr (.inl 170)))] [.inl 0, .inr (.inr (.inl 170))] st) ∧ (¬ (¬ st 173 (st 170 35 : Int).toNat = (14 : Int)) → K (rx_find rx_m205 20) [(0, .inr (.inr (.inl 170)))] [.inl 1, .inr (.inr (.inl 170))] st)))
  have g136 := g_streets hG (st 170 35 : Int).toNat
  refine ⟨by omega, ?_⟩
  refine ⟨fun h137 => ?_, fun h137 => ?_⟩
  · exact m20 0 (show ((0 : Int) = 0 ∨ (0 : Int) = 1) ∧ ((0 : Int) = 0 → st 173 (st 170 35 : Int).toNat < 14) from by omega)
  · exact m20 1 (show ((1 : Int) = 0 ∨ (1 : Int) = 1) ∧ ((1 : Int) = 0 → st 173 (st 170 35 : Int).toNat < 14) from by omega)
theorem k_streeting_m (hTb : aTb zSh rx_tb cl) {D : Nat} (hD : 4 ≤ D) : ∀ as st (Q Q' : zQ), (∀ r st', Q r st' → Q' r st') → k_streeting 205 as st Q → cl D 205 as st Q' := by
  intro as st Q Q' hQ h
  unfold k_streeting at h
  split at h
  · obtain ⟨rfl, h⟩ := h
    exact c_streeting hTb hD (ct_streeting_m hQ h)
  · exact h.elim
end R6e
