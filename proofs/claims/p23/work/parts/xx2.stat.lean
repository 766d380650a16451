/-! printed by wip/p32/lib7.py: the reference's statements -/
def m_xplacing : aM := ([(170, 3), (170, 4), (170, 5), (170, 6), (170, 7), (170, 8), (170, 9), (170, 12), (170, 34), (170, 36), (170, 42), (170, 43), (170, 45), (170, 46)], [172, 173, 174, 175, 176, 177, 178, 179, 180, 181, 182, 183, 184, 185, 186, 187, 188, 189, 190, 191, 192, 193, 194, 195, 196, 197])
def rq_xplacing  (st : zS) : Prop := gInv zgt st ∧ (st 170 4 ≤ st 170 5 ∧ st 170 5 ≤ st 170 2 ∧ (st 170 3 = 0 ∧ st 170 4 = st 170 2 ∨ 1 ≤ st 170 3 ∧ st 170 4 < st 170 5)) ∧ (TS st) ∧ (st 170 8 = 0 ∧ st 170 34 ≤ st 170 4 ∧ 1 ≤ st 170 3) ∧ (st 170 35 = 1 - st 170 13)
def en_xplacing  (st : zS) (s1 : zS) : Prop := gInv zgt s1 ∧ aFr m_xplacing st s1 ∧ (s1 170 4 ≤ s1 170 5 ∧ s1 170 5 ≤ s1 170 2 ∧ (s1 170 3 = 0 ∧ s1 170 4 = s1 170 2 ∨ 1 ≤ s1 170 3 ∧ s1 170 4 < s1 170 5) ∧ st 170 4 ≤ s1 170 4) ∧ (jR st s1) ∧ (bR st s1) ∧ (s1 170 8 = 0 → TS s1 ∧ s1 170 34 ≤ s1 170 4)
def ct_xplacing  (st : zS) (Q : zQ) : Prop := rq_xplacing  st ∧ (∀ (s1 : zS), en_xplacing  st s1 → Q none s1)
theorem ct_xplacing_m {st : zS} {Q Q' : zQ} (hQ : ∀ r st', Q r st' → Q' r st') (h : ct_xplacing  st Q) : ct_xplacing  st Q' := ⟨h.1, fun x0 x1 => hQ _ _ (h.2 x0 x1)⟩
def k_xplacing : zCall := fun _ as st Q => match as with
  | [.inr (.inr (.inl z_o))] => z_o = 170 ∧ ct_xplacing  st Q
  | _ => False
theorem k_xplacing_mon : zmon k_xplacing := by
  intro nu as st Q Q' hQ h
  unfold k_xplacing at h ⊢
  split at h
  · exact ⟨h.1, ct_xplacing_m hQ h.2⟩
  · exact h.elim
def m_xthinging : aM := ([(170, 3), (170, 4), (170, 5), (170, 6), (170, 7), (170, 8), (170, 9), (170, 12), (170, 34), (170, 36), (170, 42), (170, 43), (170, 45), (170, 46)], [172, 173, 174, 175, 176, 177, 178, 179, 180, 181, 182, 183, 184, 185, 186, 187, 188, 189, 190, 191, 192, 193, 194, 195, 196, 197])
def rq_xthinging  (st : zS) : Prop := gInv zgt st ∧ (st 170 4 ≤ st 170 5 ∧ st 170 5 ≤ st 170 2 ∧ (st 170 3 = 0 ∧ st 170 4 = st 170 2 ∨ 1 ≤ st 170 3 ∧ st 170 4 < st 170 5)) ∧ (TS st) ∧ (st 170 8 = 0 ∧ st 170 34 ≤ st 170 4 ∧ 1 ≤ st 170 3) ∧ (st 170 35 = 1 - st 170 13)
def en_xthinging  (st : zS) (s1 : zS) : Prop := gInv zgt s1 ∧ aFr m_xthinging st s1 ∧ (s1 170 4 ≤ s1 170 5 ∧ s1 170 5 ≤ s1 170 2 ∧ (s1 170 3 = 0 ∧ s1 170 4 = s1 170 2 ∨ 1 ≤ s1 170 3 ∧ s1 170 4 < s1 170 5) ∧ st 170 4 ≤ s1 170 4) ∧ (jR st s1) ∧ (bR st s1) ∧ (s1 170 8 = 0 → TS s1 ∧ s1 170 34 ≤ s1 170 4)
def ct_xthinging  (st : zS) (Q : zQ) : Prop := rq_xthinging  st ∧ (∀ (s1 : zS), en_xthinging  st s1 → Q none s1)
theorem ct_xthinging_m {st : zS} {Q Q' : zQ} (hQ : ∀ r st', Q r st' → Q' r st') (h : ct_xthinging  st Q) : ct_xthinging  st Q' := ⟨h.1, fun x0 x1 => hQ _ _ (h.2 x0 x1)⟩
def k_xthinging : zCall := fun _ as st Q => match as with
  | [.inr (.inr (.inl z_o))] => z_o = 170 ∧ ct_xthinging  st Q
  | _ => False
theorem k_xthinging_mon : zmon k_xthinging := by
  intro nu as st Q Q' hQ h
  unfold k_xthinging at h ⊢
  split at h
  · exact ⟨h.1, ct_xthinging_m hQ h.2⟩
  · exact h.elim
def m_xheating : aM := ([(170, 3), (170, 4), (170, 5), (170, 6), (170, 7), (170, 8), (170, 9), (170, 12), (170, 34), (170, 36), (170, 42), (170, 43), (170, 45), (170, 46)], [172, 173, 174, 175, 176, 177, 178, 179, 180, 181, 182, 183, 184, 185, 186, 187, 188, 189, 190, 191, 192, 193, 194, 195, 196, 197])
def rq_xheating (v : Int) (st : zS) : Prop := gInv zgt st ∧ (st 170 4 ≤ st 170 5 ∧ st 170 5 ≤ st 170 2 ∧ (st 170 3 = 0 ∧ st 170 4 = st 170 2 ∨ 1 ≤ st 170 3 ∧ st 170 4 < st 170 5)) ∧ (TS st) ∧ (st 170 8 = 0 ∧ st 170 34 ≤ st 170 4 ∧ 1 ≤ st 170 3) ∧ (st 170 35 = 1 - st 170 13) ∧ (v = 0 ∨ v = 1)
def en_xheating (v : Int) (st : zS) (s1 : zS) : Prop := gInv zgt s1 ∧ aFr m_xheating st s1 ∧ (s1 170 4 ≤ s1 170 5 ∧ s1 170 5 ≤ s1 170 2 ∧ (s1 170 3 = 0 ∧ s1 170 4 = s1 170 2 ∨ 1 ≤ s1 170 3 ∧ s1 170 4 < s1 170 5) ∧ st 170 4 ≤ s1 170 4) ∧ (jR st s1) ∧ (bR st s1) ∧ (s1 170 8 = 0 → TS s1 ∧ s1 170 34 ≤ s1 170 4)
def ct_xheating (v : Int) (st : zS) (Q : zQ) : Prop := rq_xheating v st ∧ (∀ (s1 : zS), en_xheating v st s1 → Q none s1)
theorem ct_xheating_m {v : Int} {st : zS} {Q Q' : zQ} (hQ : ∀ r st', Q r st' → Q' r st') (h : ct_xheating v st Q) : ct_xheating v st Q' := ⟨h.1, fun x0 x1 => hQ _ _ (h.2 x0 x1)⟩
def k_xheating : zCall := fun _ as st Q => match as with
  | [.inr (.inr (.inl z_o)), .inl v] => z_o = 170 ∧ ct_xheating v st Q
  | _ => False
theorem k_xheating_mon : zmon k_xheating := by
  intro nu as st Q Q' hQ h
  unfold k_xheating at h ⊢
  split at h
  · exact ⟨h.1, ct_xheating_m hQ h.2⟩
  · exact h.elim
def m_xstreeting : aM := ([(170, 3), (170, 4), (170, 5), (170, 6), (170, 7), (170, 8), (170, 9), (170, 12), (170, 34), (170, 36), (170, 42), (170, 43), (170, 45), (170, 46)], [172, 173, 174, 175, 176, 177, 178, 179, 180, 181, 182, 183, 184, 185, 186, 187, 188, 189, 190, 191, 192, 193, 194, 195, 196, 197])
def rq_xstreeting  (st : zS) : Prop := gInv zgt st ∧ (st 170 4 ≤ st 170 5 ∧ st 170 5 ≤ st 170 2 ∧ (st 170 3 = 0 ∧ st 170 4 = st 170 2 ∨ 1 ≤ st 170 3 ∧ st 170 4 < st 170 5)) ∧ (TS st) ∧ (st 170 8 = 0 ∧ st 170 34 ≤ st 170 4 ∧ 1 ≤ st 170 3) ∧ (st 170 35 = 1 - st 170 13)
def en_xstreeting  (st : zS) (s1 : zS) : Prop := gInv zgt s1 ∧ aFr m_xstreeting st s1 ∧ (s1 170 4 ≤ s1 170 5 ∧ s1 170 5 ≤ s1 170 2 ∧ (s1 170 3 = 0 ∧ s1 170 4 = s1 170 2 ∨ 1 ≤ s1 170 3 ∧ s1 170 4 < s1 170 5) ∧ st 170 4 ≤ s1 170 4) ∧ (jR st s1) ∧ (bR st s1) ∧ (s1 170 8 = 0 → TS s1 ∧ s1 170 34 ≤ s1 170 4)
def ct_xstreeting  (st : zS) (Q : zQ) : Prop := rq_xstreeting  st ∧ (∀ (s1 : zS), en_xstreeting  st s1 → Q none s1)
theorem ct_xstreeting_m {st : zS} {Q Q' : zQ} (hQ : ∀ r st', Q r st' → Q' r st') (h : ct_xstreeting  st Q) : ct_xstreeting  st Q' := ⟨h.1, fun x0 x1 => hQ _ _ (h.2 x0 x1)⟩
def k_xstreeting : zCall := fun _ as st Q => match as with
  | [.inr (.inr (.inl z_o))] => z_o = 170 ∧ ct_xstreeting  st Q
  | _ => False
theorem k_xstreeting_mon : zmon k_xstreeting := by
  intro nu as st Q Q' hQ h
  unfold k_xstreeting at h ⊢
  split at h
  · exact ⟨h.1, ct_xstreeting_m hQ h.2⟩
  · exact h.elim
def m_xstepping : aM := ([(170, 3), (170, 4), (170, 5), (170, 6), (170, 7), (170, 8), (170, 9), (170, 12), (170, 34), (170, 36), (170, 42), (170, 43), (170, 45), (170, 46)], [172, 173, 174, 175, 176, 177, 178, 179, 180, 181, 182, 183, 184, 185, 186, 187, 188, 189, 190, 191, 192, 193, 194, 195, 196, 197])
def rq_xstepping  (st : zS) : Prop := gInv zgt st ∧ (st 170 4 ≤ st 170 5 ∧ st 170 5 ≤ st 170 2 ∧ (st 170 3 = 0 ∧ st 170 4 = st 170 2 ∨ 1 ≤ st 170 3 ∧ st 170 4 < st 170 5)) ∧ (TS st) ∧ (st 170 8 = 0 ∧ st 170 34 ≤ st 170 4 ∧ 1 ≤ st 170 3) ∧ (st 170 35 = 1 - st 170 13)
def en_xstepping  (st : zS) (s1 : zS) : Prop := gInv zgt s1 ∧ aFr m_xstepping st s1 ∧ (s1 170 4 ≤ s1 170 5 ∧ s1 170 5 ≤ s1 170 2 ∧ (s1 170 3 = 0 ∧ s1 170 4 = s1 170 2 ∨ 1 ≤ s1 170 3 ∧ s1 170 4 < s1 170 5) ∧ st 170 4 ≤ s1 170 4) ∧ (jR st s1) ∧ (bR st s1) ∧ (s1 170 8 = 0 → TS s1 ∧ s1 170 34 ≤ s1 170 4)
def ct_xstepping  (st : zS) (Q : zQ) : Prop := rq_xstepping  st ∧ (∀ (s1 : zS), en_xstepping  st s1 → Q none s1)
theorem ct_xstepping_m {st : zS} {Q Q' : zQ} (hQ : ∀ r st', Q r st' → Q' r st') (h : ct_xstepping  st Q) : ct_xstepping  st Q' := ⟨h.1, fun x0 x1 => hQ _ _ (h.2 x0 x1)⟩
def k_xstepping : zCall := fun _ as st Q => match as with
  | [.inr (.inr (.inl z_o))] => z_o = 170 ∧ ct_xstepping  st Q
  | _ => False
theorem k_xstepping_mon : zmon k_xstepping := by
  intro nu as st Q Q' hQ h
  unfold k_xstepping at h ⊢
  split at h
  · exact ⟨h.1, ct_xstepping_m hQ h.2⟩
  · exact h.elim
def m_xreading : aM := ([(170, 3), (170, 4), (170, 5), (170, 6), (170, 7), (170, 8), (170, 9), (170, 12), (170, 34), (170, 36), (170, 42), (170, 43), (170, 45), (170, 46)], [172, 173, 174, 175, 176, 177, 178, 179, 180, 181, 182, 183, 184, 185, 186, 187, 188, 189, 190, 191, 192, 193, 194, 195, 196, 197])
def rq_xreading (k : Int) (st : zS) : Prop := gInv zgt st ∧ (st 170 4 ≤ st 170 5 ∧ st 170 5 ≤ st 170 2 ∧ (st 170 3 = 0 ∧ st 170 4 = st 170 2 ∨ 1 ≤ st 170 3 ∧ st 170 4 < st 170 5)) ∧ (TS st) ∧ (st 170 8 = 0 ∧ st 170 34 ≤ st 170 4 ∧ 1 ≤ st 170 3) ∧ (st 170 35 = 1 - st 170 13) ∧ (k = 0 ∨ k = 1)
def en_xreading (k : Int) (st : zS) (s1 : zS) : Prop := gInv zgt s1 ∧ aFr m_xreading st s1 ∧ (s1 170 4 ≤ s1 170 5 ∧ s1 170 5 ≤ s1 170 2 ∧ (s1 170 3 = 0 ∧ s1 170 4 = s1 170 2 ∨ 1 ≤ s1 170 3 ∧ s1 170 4 < s1 170 5) ∧ st 170 4 ≤ s1 170 4) ∧ (jR st s1) ∧ (bR st s1) ∧ (s1 170 8 = 0 → TS s1 ∧ s1 170 34 ≤ s1 170 4)
def ct_xreading (k : Int) (st : zS) (Q : zQ) : Prop := rq_xreading k st ∧ (∀ (s1 : zS), en_xreading k st s1 → Q none s1)
theorem ct_xreading_m {k : Int} {st : zS} {Q Q' : zQ} (hQ : ∀ r st', Q r st' → Q' r st') (h : ct_xreading k st Q) : ct_xreading k st Q' := ⟨h.1, fun x0 x1 => hQ _ _ (h.2 x0 x1)⟩
def k_xreading : zCall := fun _ as st Q => match as with
  | [.inr (.inr (.inl z_o)), .inl k] => z_o = 170 ∧ ct_xreading k st Q
  | _ => False
theorem k_xreading_mon : zmon k_xreading := by
  intro nu as st Q Q' hQ h
  unfold k_xreading at h ⊢
  split at h
  · exact ⟨h.1, ct_xreading_m hQ h.2⟩
  · exact h.elim
section R6e
variable {cl : Nat → zCall}
set_option maxHeartbeats 4000000 in
set_option maxRecDepth 100000 in
theorem c_xplacing (hTb : aTb zSh rx_tb cl) {D : Nat} (hD : 4 ≤ D) {st : zS} {Q : zQ} (h : ct_xplacing  st Q) : cl D 204 [.inr (.inr (.inl 170))] st Q := by
  obtain ⟨d, rfl⟩ : ∃ d, D = d + 1 := ⟨D - 1, by omega⟩
  refine hTb d 204 (rx_m204, 1, 0, 0, 0) rfl _ _ _ (Nat.le_of_ble_eq_true rfl) (fun K hcl hsf hsl => ?_)
  have hcm : zmo (wcL [(199, k_counts), (202, k_fresh)]) (cl d) := (wcL_m (wm_cons (k_counts_m hTb (by omega)) (wm_cons (k_fresh_m hTb (by omega)) wm_nil)))
  obtain ⟨hR, hQ⟩ := h
  obtain ⟨hG, lx, ts, q, bk⟩ := hR
  change st 170 4 ≤ st 170 5 ∧ st 170 5 ≤ st 170 2 ∧ (st 170 3 = 0 ∧ st 170 4 = st 170 2 ∨ 1 ≤ st 170 3 ∧ st 170 4 < st 170 5) at lx
  change TS st at ts
  change st 170 8 = 0 ∧ st 170 34 ≤ st 170 4 ∧ 1 ≤ st 170 3 at q
  change st 170 35 = 1 - st 170 13 at bk
  have m20 : ∀ (x : Int), ((x = 0 ∨ x = 1) ∧ (x = 0 → st 172 (st 170 35 : Int).toNat < 8)) → K (rx_find rx_m204 20) [(0, .inr (.inr (.inl 170)))] [.inl x, .inr (.inr (.inl 170))] st := by
    intro x hi
    have fl_m20 := hi
    have g1 := g_in hG
    have g2 := g_places hG (st 170 35 : Int).toNat
    have g3 := g_codes hG
    have g4 := g_bank hG
    have g5 := g_faultKind hG
    have g6 := g_signAt hG
    have g7 := g_signEnd hG
    have g8 := g_size hG
    have g9 := g_sign hG
    refine yr1_ok (Rt := Q) (wc := (wcL [(199, k_counts), (202, k_fresh)])) (stp := [20]) hcm hcl [] 62 ?_
    show (170 = 170 ∧ (rq_counts x st ∧ (∀ (r10 : Int) (s10 : zS), en_counts x st r10 s10 → ((¬ r10 = (0 : Int) → ((-2147483648 ≤ (8 : Int) * (s10 170 35) ∧ (8 : Int) * (s10 170 35) ≤ 2147483647) ∧ ((0 ≤ s10 170 35 ∧ s10 170 35 < 2) ∧ ((-2147483648 ≤ ((8 : Int) * (s10 170 35)) + (s10 172 (s10 170 35 : Int).toNat) ∧ ((8 : Int) * (s10 170 35)) + (s10 172 (s10 170 35 : Int).toNat) ≤ 2147483647) ∧ (170 = 170 ∧ (rq_fresh  s10 ∧ (∀ (r11 : Int) (s11 : zS), en_fresh  s10 r11 s11 → ((0 ≤ ((8 : Int) * (s10 170 35)) + (s10 172 (s10 170 35 : Int).toNat) ∧ ((8 : Int) * (s10 170 35)) + (s10 172 (s10 170 35 : Int).toNat) < 16) ∧ ((¬ s11 170 8 = (0 : Int) → Q none (zup s11 190 (((8 : Int) * (s10 170 35)) + (s10 172 (s10 170 35 : Int).toNat) : Int).toNat r11)) ∧ (¬ (¬ s11 170 8 = (0 : Int)) → ((0 ≤ s11 170 35 ∧ s11 170 35 < 2) ∧ ((-2147483648 ≤ (s11 172 (s11 170 35 : Int).toNat) + 1 ∧ (s11 172 (s11 170 35 : Int).toNat) + 1 ≤ 2147483647) ∧ ((0 ≤ s11 170 35 ∧ s11 170 35 < 2) ∧ Q none (zup (zup s11 190 (((8 : Int) * (s10 170 35)) + (s10 172 (s10 170 35 : Int).toNat) : Int).toNat r11) 172 (s11 170 35 : Int).toNat ((s11 172 (s11 170 35 : Int).toNat) + 1))))))))))))))) ∧ (¬ (¬ r10 = (0 : Int)) → Q none s10)))))
    refine ⟨rfl, ⟨hG, (show st 170 4 ≤ st 170 5 ∧ st 170 5 ≤ st 170 2 ∧ (st 170 3 = 0 ∧ st 170 4 = st 170 2 ∨ 1 ≤ st 170 3 ∧ st 170 4 < st 170 5) from by omega)⟩, fun r10 s10 q10 => ?_⟩
    obtain ⟨gs10, fs10, p10, v10⟩ := q10
    change s10 170 4 ≤ s10 170 5 ∧ s10 170 5 ≤ s10 170 2 ∧ (s10 170 3 = 0 ∧ s10 170 4 = s10 170 2 ∨ 1 ≤ s10 170 3 ∧ s10 170 4 < s10 170 5) ∧ st 170 4 ≤ s10 170 4 ∧ (s10 170 8 = 0 → st 170 8 = 0 ∧ st 170 5 ≤ s10 170 4 ∧ x = 0) at p10
    have g12 := g_signAt gs10
    have g13 := g_signEnd gs10
    have e14 : s10 170 2 = st 170 2 := fs10 170 2 rfl rfl
    have g15 := g_sign gs10
    have g16 := g_faultKind gs10
    change (r10 = 0 ∨ r10 = 1) ∧ (r10 = 1 ↔ s10 170 8 = 0) at v10
    refine ⟨fun h17 => ?_, fun h17 => ?_⟩
    · have e18 : s10 170 35 = st 170 35 := fs10 170 35 rfl rfl
      refine ⟨by omega, ?_⟩
      have e19 : s10 172 (s10 170 35 : Int).toNat = st 172 (st 170 35 : Int).toNat := (fs10 172 (s10 170 35 : Int).toNat rfl rfl).trans (by rw [e18] <;> rfl)
      refine ⟨by omega, ?_⟩
      refine ⟨by omega, ?_⟩
      refine ⟨rfl, ⟨gs10, (show s10 170 4 ≤ s10 170 5 ∧ s10 170 5 ≤ s10 170 2 ∧ (s10 170 3 = 0 ∧ s10 170 4 = s10 170 2 ∨ 1 ≤ s10 170 3 ∧ s10 170 4 < s10 170 5) from by omega)⟩, fun r11 s11 q11 => ?_⟩
      obtain ⟨gs11, fs11, p11, v11⟩ := q11
      change s11 170 4 ≤ s11 170 5 ∧ s11 170 5 ≤ s11 170 2 ∧ (s11 170 3 = 0 ∧ s11 170 4 = s11 170 2 ∨ 1 ≤ s11 170 3 ∧ s11 170 4 < s11 170 5) ∧ s10 170 4 ≤ s11 170 4 ∧ (s11 170 8 = 0 → s10 170 8 = 0 ∧ s10 170 5 ≤ s11 170 4 ∧ 1 ≤ s10 170 3) at p11
      have g20 := g_signAt gs11
      have g21 := g_signEnd gs11
      have e22 : s11 170 2 = s10 170 2 := fs11 170 2 rfl rfl
      have g23 := g_sign gs11
      have g24 := g_faultKind gs11
      change -9223372036854775808 ≤ r11 ∧ r11 ≤ 9223372036854775807 at v11
      refine ⟨by omega, ?_⟩
      refine ⟨fun h25 => ?_, fun h25 => ?_⟩
      · have e27 : s10 170 34 = st 170 34 := fs10 170 34 rfl rfl
        have e26 : s11 170 34 = s10 170 34 := fs11 170 34 rfl rfl
        exact hQ _ ⟨(gInv_up gs11 (p_placeName (by omega))), (fr_a (fr_tr (fr_tr (fr_rf _ _) fs10 rfl) fs11 rfl) rfl), (show s11 170 4 ≤ s11 170 5 ∧ s11 170 5 ≤ s11 170 2 ∧ (s11 170 3 = 0 ∧ s11 170 4 = s11 170 2 ∨ 1 ≤ s11 170 3 ∧ s11 170 4 < s11 170 5) ∧ st 170 4 ≤ s11 170 4 from by omega), (show jR st (zup s11 190 (((8 : Int) * (s10 170 35)) + (s10 172 (s10 170 35 : Int).toNat) : Int).toNat r11) from (jR_up (jR_tr (s1 := s10) (jR_tr (s1 := st) (jR_rf _) (jR_fr rfl fs10)) (jR_fr rfl fs11)) (by unfold jrel; omega))), (show bR st (zup s11 190 (((8 : Int) * (s10 170 35)) + (s10 172 (s10 170 35 : Int).toNat) : Int).toNat r11) from (bR_up (bR_tr (s1 := s10) (bR_tr (s1 := st) (bR_rf _) (bR_fr rfl fs10)) (bR_fr rfl fs11)) (by unfold brel; omega))), (show s11 170 8 = 0 → TS (zup s11 190 (((8 : Int) * (s10 170 35)) + (s10 172 (s10 170 35 : Int).toNat) : Int).toNat r11) ∧ s11 170 34 ≤ s11 170 4 from fun z => absurd z (by omega))⟩
      · have e28 : s11 170 35 = s10 170 35 := fs11 170 35 rfl rfl
        have e30 : s10 172 (st 170 35 : Int).toNat = st 172 (st 170 35 : Int).toNat := fs10 172 (st 170 35 : Int).toNat rfl rfl
        have e29 : s11 172 (s11 170 35 : Int).toNat = s10 172 (st 170 35 : Int).toNat := (fs11 172 (s11 170 35 : Int).toNat rfl rfl).trans (by rw [e28, e18] <;> rfl)
        refine ⟨by omega, ?_⟩
        refine ⟨by omega, ?_⟩
        refine ⟨by omega, ?_⟩
        have e32 : s10 170 34 = st 170 34 := fs10 170 34 rfl rfl
        have e31 : s11 170 34 = s10 170 34 := fs11 170 34 rfl rfl
        exact hQ _ ⟨(gInv_up (gInv_up gs11 (p_placeName (by omega))) (p_places (by omega))), (fr_a (fr_a (fr_tr (fr_tr (fr_rf _ _) fs10 rfl) fs11 rfl) rfl) rfl), (show s11 170 4 ≤ s11 170 5 ∧ s11 170 5 ≤ s11 170 2 ∧ (s11 170 3 = 0 ∧ s11 170 4 = s11 170 2 ∨ 1 ≤ s11 170 3 ∧ s11 170 4 < s11 170 5) ∧ st 170 4 ≤ s11 170 4 from by omega), (show jR st (zup (zup s11 190 (((8 : Int) * (s10 170 35)) + (s10 172 (s10 170 35 : Int).toNat) : Int).toNat r11) 172 (s11 170 35 : Int).toNat ((s11 172 (s11 170 35 : Int).toNat) + 1)) from (jR_up (jR_up (jR_tr (s1 := s10) (jR_tr (s1 := st) (jR_rf _) (jR_fr rfl fs10)) (jR_fr rfl fs11)) (by unfold jrel; omega)) (by unfold jrel; omega))), (show bR st (zup (zup s11 190 (((8 : Int) * (s10 170 35)) + (s10 172 (s10 170 35 : Int).toNat) : Int).toNat r11) 172 (s11 170 35 : Int).toNat ((s11 172 (s11 170 35 : Int).toNat) + 1)) from (bR_up (bR_up (bR_tr (s1 := s10) (bR_tr (s1 := st) (bR_rf _) (bR_fr rfl fs10)) (bR_fr rfl fs11)) (by unfold brel; omega)) (by unfold brel; omega))), (show s11 170 8 = 0 → TS (zup (zup s11 190 (((8 : Int) * (s10 170 35)) + (s10 172 (s10 170 35 : Int).toNat) : Int).toNat r11) 172 (s11 170 35 : Int).toNat ((s11 172 (s11 170 35 : Int).toNat) + 1)) ∧ s11 170 34 ≤ s11 170 4 from fun z => ⟨show TS1 (s11 170 35) ((zup (zup s11 190 (((8 : Int) * (s10 170 35)) + (s10 172 (s10 170 35 : Int).toNat) : Int).toNat r11) 172 (s11 170 35 : Int).toNat ((s11 172 (s11 170 35 : Int).toNat) + 1)) 172 (s11 170 35 : Int).toNat) (s11 173 (s11 170 35 : Int).toNat) (s11 177) (s11 176) ∧ TS2 (s11 170 35) (s11 178 (s11 170 35 : Int).toNat) (s11 177) (s11 179) ∧ TS3 (s11 170 35) (s11 170 34) (s11 186) (s11 187) (s11 188) from ⟨TS1_pl (TS_fr rfl fs11 (TS_fr rfl fs10 ts)).1 (by have z1 : (zup (zup s11 190 (((8 : Int) * (s10 170 35)) + (s10 172 (s10 170 35 : Int).toNat) : Int).toNat r11) 172 (s11 170 35 : Int).toNat ((s11 172 (s11 170 35 : Int).toNat) + 1)) 172 (s11 170 35 : Int).toNat = s11 172 (s11 170 35 : Int).toNat + 1 := zup_eq _ _ _ _; omega), (TS_fr rfl fs11 (TS_fr rfl fs10 ts)).2⟩, by omega⟩)⟩
    · have e33 : s10 170 34 = st 170 34 := fs10 170 34 rfl rfl
      exact hQ _ ⟨gs10, (fr_tr (fr_rf _ _) fs10 rfl), (show s10 170 4 ≤ s10 170 5 ∧ s10 170 5 ≤ s10 170 2 ∧ (s10 170 3 = 0 ∧ s10 170 4 = s10 170 2 ∨ 1 ≤ s10 170 3 ∧ s10 170 4 < s10 170 5) ∧ st 170 4 ≤ s10 170 4 from by omega), (show jR st s10 from (jR_tr (s1 := st) (jR_rf _) (jR_fr rfl fs10))), (show bR st s10 from (bR_tr (s1 := st) (bR_rf _) (bR_fr rfl fs10))), (show s10 170 8 = 0 → TS s10 ∧ s10 170 34 ≤ s10 170 4 from fun z => absurd z (by omega))⟩
  have g34 := g_signAt hG
  have g35 := g_signEnd hG
  have g36 := g_size hG
  have g37 := g_sign hG
  have g38 := g_faultKind hG
  have g39 := g_codes hG
  have g40 := g_in hG
  have g41 := g_bank hG
  refine yr1_ok (Rt := Q) (wc := (wcL [(199, k_counts), (202, k_fresh)])) (stp := [20]) hcm hcl [] 62 ?_
  show ((0 ≤ st 170 35 ∧ st 170 35 < 2) ∧ ((¬ st 172 (st 170 35 : Int).toNat = (8 : Int) → K (rx_find rx_m204 20) [(0, .inr (.inr (.inl 170)))] [.inl 0, .inr (.inr (.inl 170))] st) ∧ (¬ (¬ st 172 (st 170 35 : Int).toNat = (8 : Int)) → K (rx_find rx_m204 20) [(0, .inr (.inr (.inl 170)))] [.inl 1, .inr (.inr (.inl 170))] st)))
  have g42 := g_places hG (st 170 35 : Int).toNat
  refine ⟨by omega, ?_⟩
  refine ⟨fun h43 => ?_, fun h43 => ?_⟩
  · exact m20 0 (show ((0 : Int) = 0 ∨ (0 : Int) = 1) ∧ ((0 : Int) = 0 → st 172 (st 170 35 : Int).toNat < 8) from by omega)
  · exact m20 1 (show ((1 : Int) = 0 ∨ (1 : Int) = 1) ∧ ((1 : Int) = 0 → st 172 (st 170 35 : Int).toNat < 8) from by omega)
theorem k_xplacing_m (hTb : aTb zSh rx_tb cl) {D : Nat} (hD : 4 ≤ D) : ∀ as st (Q Q' : zQ), (∀ r st', Q r st' → Q' r st') → k_xplacing 204 as st Q → cl D 204 as st Q' := by
  intro as st Q Q' hQ h
  unfold k_xplacing at h
  split at h
  · obtain ⟨rfl, h⟩ := h
    exact c_xplacing hTb hD (ct_xplacing_m hQ h)
  · exact h.elim
set_option maxHeartbeats 4000000 in
set_option maxRecDepth 100000 in
theorem c_xthinging (hTb : aTb zSh rx_tb cl) {D : Nat} (hD : 4 ≤ D) {st : zS} {Q : zQ} (h : ct_xthinging  st Q) : cl D 207 [.inr (.inr (.inl 170))] st Q := by
  obtain ⟨d, rfl⟩ : ∃ d, D = d + 1 := ⟨D - 1, by omega⟩
  refine hTb d 207 (rx_m207, 2, 0, 0, 0) rfl _ _ _ (Nat.le_of_ble_eq_true rfl) (fun K hcl hsf hsl => ?_)
  have hcm : zmo (wcL [(199, k_counts), (202, k_fresh), (200, k_mustJ), (203, k_knownBut), (188, k_number)]) (cl d) := (wcL_m (wm_cons (k_counts_m hTb (by omega)) (wm_cons (k_fresh_m hTb (by omega)) (wm_cons (k_mustJ_m hTb (by omega)) (wm_cons (k_knownBut_m hTb (by omega)) (wm_cons (k_number_m hTb (by omega)) wm_nil))))))
  obtain ⟨hR, hQ⟩ := h
  obtain ⟨hG, lx, ts, q, bk⟩ := hR
  change st 170 4 ≤ st 170 5 ∧ st 170 5 ≤ st 170 2 ∧ (st 170 3 = 0 ∧ st 170 4 = st 170 2 ∨ 1 ≤ st 170 3 ∧ st 170 4 < st 170 5) at lx
  change TS st at ts
  change st 170 8 = 0 ∧ st 170 34 ≤ st 170 4 ∧ 1 ≤ st 170 3 at q
  change st 170 35 = 1 - st 170 13 at bk
  have m20 : ∀ (x : Int), ((x = 0 ∨ x = 1) ∧ (x = 0 → st 181 (st 170 35 : Int).toNat < 8)) → K (rx_find rx_m207 20) [(0, .inr (.inr (.inl 170)))] [.inl x, .inr (.inr (.inl 170))] st := by
    intro x hi
    have fl_m20 := hi
    have g1 := g_in hG
    have g2 := g_things hG (st 170 35 : Int).toNat
    have g3 := g_codes hG
    have g4 := g_bank hG
    have g5 := g_faultKind hG
    have g6 := g_signAt hG
    have g7 := g_signEnd hG
    have g8 := g_size hG
    have g9 := g_sign hG
    refine yr1_ok (Rt := Q) (wc := (wcL [(199, k_counts), (202, k_fresh), (200, k_mustJ), (203, k_knownBut), (188, k_number)])) (stp := [20]) hcm hcl [] 85 ?_
    show (170 = 170 ∧ (rq_counts x st ∧ (∀ (r10 : Int) (s10 : zS), en_counts x st r10 s10 → ((¬ r10 = (0 : Int) → ((-2147483648 ≤ (8 : Int) * (s10 170 35) ∧ (8 : Int) * (s10 170 35) ≤ 2147483647) ∧ ((0 ≤ s10 170 35 ∧ s10 170 35 < 2) ∧ ((-2147483648 ≤ ((8 : Int) * (s10 170 35)) + (s10 181 (s10 170 35 : Int).toNat) ∧ ((8 : Int) * (s10 170 35)) + (s10 181 (s10 170 35 : Int).toNat) ≤ 2147483647) ∧ (170 = 170 ∧ (rq_fresh  s10 ∧ (∀ (r11 : Int) (s11 : zS), en_fresh  s10 r11 s11 → ((0 ≤ ((8 : Int) * (s10 170 35)) + (s10 181 (s10 170 35 : Int).toNat) ∧ ((8 : Int) * (s10 170 35)) + (s10 181 (s10 170 35 : Int).toNat) < 16) ∧ (170 = 170 ∧ (rq_mustJ (24948) (zup s11 191 (((8 : Int) * (s10 170 35)) + (s10 181 (s10 170 35 : Int).toNat) : Int).toNat r11) ∧ (∀ (s12 : zS), en_mustJ (24948) (zup s11 191 (((8 : Int) * (s10 170 35)) + (s10 181 (s10 170 35 : Int).toNat) : Int).toNat r11) s12 → (170 = 170 ∧ (rq_knownBut (0) s12 ∧ (∀ (r13 : Int) (s13 : zS), en_knownBut (0) s12 r13 s13 → ((0 ≤ ((8 : Int) * (s10 170 35)) + (s10 181 (s10 170 35 : Int).toNat) ∧ ((8 : Int) * (s10 170 35)) + (s10 181 (s10 170 35 : Int).toNat) < 16) ∧ (170 = 170 ∧ (rq_mustJ (1886743660) (zup s13 182 (((8 : Int) * (s10 170 35)) + (s10 181 (s10 170 35 : Int).toNat) : Int).toNat r13) ∧ (∀ (s14 : zS), en_mustJ (1886743660) (zup s13 182 (((8 : Int) * (s10 170 35)) + (s10 181 (s10 170 35 : Int).toNat) : Int).toNat r13) s14 → (170 = 170 ∧ (rq_number (0) (9) s14 ∧ (∀ (r15 : Int) (s15 : zS), en_number (0) (9) s14 r15 s15 → ((0 ≤ ((8 : Int) * (s10 170 35)) + (s10 181 (s10 170 35 : Int).toNat) ∧ ((8 : Int) * (s10 170 35)) + (s10 181 (s10 170 35 : Int).toNat) < 16) ∧ ((¬ s15 170 8 = (0 : Int) → Q none (zup s15 183 (((8 : Int) * (s10 170 35)) + (s10 181 (s10 170 35 : Int).toNat) : Int).toNat r15)) ∧ (¬ (¬ s15 170 8 = (0 : Int)) → ((0 ≤ s15 170 35 ∧ s15 170 35 < 2) ∧ ((-2147483648 ≤ (s15 181 (s15 170 35 : Int).toNat) + 1 ∧ (s15 181 (s15 170 35 : Int).toNat) + 1 ≤ 2147483647) ∧ ((0 ≤ s15 170 35 ∧ s15 170 35 < 2) ∧ Q none (zup (zup s15 183 (((8 : Int) * (s10 170 35)) + (s10 181 (s10 170 35 : Int).toNat) : Int).toNat r15) 181 (s15 170 35 : Int).toNat ((s15 181 (s15 170 35 : Int).toNat) + 1))))))))))))))))))))))))))))) ∧ (¬ (¬ r10 = (0 : Int)) → Q none s10)))))
    refine ⟨rfl, ⟨hG, (show st 170 4 ≤ st 170 5 ∧ st 170 5 ≤ st 170 2 ∧ (st 170 3 = 0 ∧ st 170 4 = st 170 2 ∨ 1 ≤ st 170 3 ∧ st 170 4 < st 170 5) from by omega)⟩, fun r10 s10 q10 => ?_⟩
    obtain ⟨gs10, fs10, p10, v10⟩ := q10
    change s10 170 4 ≤ s10 170 5 ∧ s10 170 5 ≤ s10 170 2 ∧ (s10 170 3 = 0 ∧ s10 170 4 = s10 170 2 ∨ 1 ≤ s10 170 3 ∧ s10 170 4 < s10 170 5) ∧ st 170 4 ≤ s10 170 4 ∧ (s10 170 8 = 0 → st 170 8 = 0 ∧ st 170 5 ≤ s10 170 4 ∧ x = 0) at p10
    have g16 := g_signAt gs10
    have g17 := g_signEnd gs10
    have e18 : s10 170 2 = st 170 2 := fs10 170 2 rfl rfl
    have g19 := g_sign gs10
    have g20 := g_faultKind gs10
    change (r10 = 0 ∨ r10 = 1) ∧ (r10 = 1 ↔ s10 170 8 = 0) at v10
    refine ⟨fun h21 => ?_, fun h21 => ?_⟩
    · have e22 : s10 170 35 = st 170 35 := fs10 170 35 rfl rfl
      refine ⟨by omega, ?_⟩
      have e23 : s10 181 (s10 170 35 : Int).toNat = st 181 (st 170 35 : Int).toNat := (fs10 181 (s10 170 35 : Int).toNat rfl rfl).trans (by rw [e22] <;> rfl)
      refine ⟨by omega, ?_⟩
      refine ⟨by omega, ?_⟩
      refine ⟨rfl, ⟨gs10, (show s10 170 4 ≤ s10 170 5 ∧ s10 170 5 ≤ s10 170 2 ∧ (s10 170 3 = 0 ∧ s10 170 4 = s10 170 2 ∨ 1 ≤ s10 170 3 ∧ s10 170 4 < s10 170 5) from by omega)⟩, fun r11 s11 q11 => ?_⟩
      obtain ⟨gs11, fs11, p11, v11⟩ := q11
      change s11 170 4 ≤ s11 170 5 ∧ s11 170 5 ≤ s11 170 2 ∧ (s11 170 3 = 0 ∧ s11 170 4 = s11 170 2 ∨ 1 ≤ s11 170 3 ∧ s11 170 4 < s11 170 5) ∧ s10 170 4 ≤ s11 170 4 ∧ (s11 170 8 = 0 → s10 170 8 = 0 ∧ s10 170 5 ≤ s11 170 4 ∧ 1 ≤ s10 170 3) at p11
      have g24 := g_signAt gs11
      have g25 := g_signEnd gs11
      have e26 : s11 170 2 = s10 170 2 := fs11 170 2 rfl rfl
      have g27 := g_sign gs11
      have g28 := g_faultKind gs11
      change -9223372036854775808 ≤ r11 ∧ r11 ≤ 9223372036854775807 at v11
      refine ⟨by omega, ?_⟩
      refine ⟨rfl, ⟨(gInv_up gs11 (p_thingName (by omega))), (show s11 170 4 ≤ s11 170 5 ∧ s11 170 5 ≤ s11 170 2 ∧ (s11 170 3 = 0 ∧ s11 170 4 = s11 170 2 ∨ 1 ≤ s11 170 3 ∧ s11 170 4 < s11 170 5) from by omega)⟩, fun s12 q12 => ?_⟩
      obtain ⟨gs12, fs12, p12⟩ := q12
      change s12 170 4 ≤ s12 170 5 ∧ s12 170 5 ≤ s12 170 2 ∧ (s12 170 3 = 0 ∧ s12 170 4 = s12 170 2 ∨ 1 ≤ s12 170 3 ∧ s12 170 4 < s12 170 5) ∧ s11 170 4 ≤ s12 170 4 ∧ (s12 170 8 = 0 → s11 170 8 = 0 ∧ s11 170 5 ≤ s12 170 4 ∧ 1 ≤ s11 170 3) at p12
      have g29 := g_signAt gs12
      have g30 := g_signEnd gs12
      have e31 : s12 170 2 = s11 170 2 := fs12 170 2 rfl rfl
      have g32 := g_sign gs12
      have g33 := g_faultKind gs12
      refine ⟨rfl, ⟨gs12, (show s12 170 4 ≤ s12 170 5 ∧ s12 170 5 ≤ s12 170 2 ∧ (s12 170 3 = 0 ∧ s12 170 4 = s12 170 2 ∨ 1 ≤ s12 170 3 ∧ s12 170 4 < s12 170 5) from by omega)⟩, fun r13 s13 q13 => ?_⟩
      obtain ⟨gs13, fs13, p13, v13⟩ := q13
      change s13 170 4 ≤ s13 170 5 ∧ s13 170 5 ≤ s13 170 2 ∧ (s13 170 3 = 0 ∧ s13 170 4 = s13 170 2 ∨ 1 ≤ s13 170 3 ∧ s13 170 4 < s13 170 5) ∧ s12 170 4 ≤ s13 170 4 ∧ (s13 170 8 = 0 → s12 170 8 = 0 ∧ s12 170 5 ≤ s13 170 4 ∧ 1 ≤ s12 170 3) at p13
      have g34 := g_signAt gs13
      have g35 := g_signEnd gs13
      have e36 : s13 170 2 = s12 170 2 := fs13 170 2 rfl rfl
      have g37 := g_sign gs13
      have g38 := g_faultKind gs13
      change 0 ≤ r13 ∧ r13 ≤ 7 ∧ (s13 170 8 = 0 → r13 < s13 172 (s13 170 35 : Int).toNat ∧ hb (0) r13 = 0) at v13
      have e41 : s11 170 35 = s10 170 35 := fs11 170 35 rfl rfl
      have e40 : s12 170 35 = s11 170 35 := fs12 170 35 rfl rfl
      have e39 : s13 170 35 = s12 170 35 := fs13 170 35 rfl rfl
      have g46 := g_places hG (st 170 35 : Int).toNat
      have e45 : s10 172 (st 170 35 : Int).toNat = st 172 (st 170 35 : Int).toNat := fs10 172 (st 170 35 : Int).toNat rfl rfl
      have e44 : s11 172 (st 170 35 : Int).toNat = s10 172 (st 170 35 : Int).toNat := fs11 172 (st 170 35 : Int).toNat rfl rfl
      have e43 : s12 172 (st 170 35 : Int).toNat = s11 172 (st 170 35 : Int).toNat := fs12 172 (st 170 35 : Int).toNat rfl rfl
      have e42 : s13 172 (s13 170 35 : Int).toNat = s12 172 (st 170 35 : Int).toNat := (fs13 172 (s13 170 35 : Int).toNat rfl rfl).trans (by rw [e39, e40, e41, e22] <;> rfl)
      refine ⟨by omega, ?_⟩
      refine ⟨rfl, ⟨(gInv_up gs13 (p_thingTold (by omega))), (show s13 170 4 ≤ s13 170 5 ∧ s13 170 5 ≤ s13 170 2 ∧ (s13 170 3 = 0 ∧ s13 170 4 = s13 170 2 ∨ 1 ≤ s13 170 3 ∧ s13 170 4 < s13 170 5) from by omega)⟩, fun s14 q14 => ?_⟩
      obtain ⟨gs14, fs14, p14⟩ := q14
      change s14 170 4 ≤ s14 170 5 ∧ s14 170 5 ≤ s14 170 2 ∧ (s14 170 3 = 0 ∧ s14 170 4 = s14 170 2 ∨ 1 ≤ s14 170 3 ∧ s14 170 4 < s14 170 5) ∧ s13 170 4 ≤ s14 170 4 ∧ (s14 170 8 = 0 → s13 170 8 = 0 ∧ s13 170 5 ≤ s14 170 4 ∧ 1 ≤ s13 170 3) at p14
      have g47 := g_signAt gs14
      have g48 := g_signEnd gs14
      have e49 : s14 170 2 = s13 170 2 := fs14 170 2 rfl rfl
      have g50 := g_sign gs14
      have g51 := g_faultKind gs14
      refine ⟨rfl, ⟨gs14, (show s14 170 4 ≤ s14 170 5 ∧ s14 170 5 ≤ s14 170 2 ∧ (s14 170 3 = 0 ∧ s14 170 4 = s14 170 2 ∨ 1 ≤ s14 170 3 ∧ s14 170 4 < s14 170 5) from by omega)⟩, fun r15 s15 q15 => ?_⟩
      obtain ⟨gs15, fs15, p15, v15⟩ := q15
      change s15 170 4 ≤ s15 170 5 ∧ s15 170 5 ≤ s15 170 2 ∧ (s15 170 3 = 0 ∧ s15 170 4 = s15 170 2 ∨ 1 ≤ s15 170 3 ∧ s15 170 4 < s15 170 5) ∧ s14 170 4 ≤ s15 170 4 ∧ (s15 170 8 = 0 → s14 170 8 = 0 ∧ s14 170 5 ≤ s15 170 4 ∧ 1 ≤ s14 170 3) at p15
      have g52 := g_signAt gs15
      have g53 := g_signEnd gs15
      have e54 : s15 170 2 = s14 170 2 := fs15 170 2 rfl rfl
      have g55 := g_sign gs15
      have g56 := g_faultKind gs15
      change -2147483648 ≤ r15 ∧ r15 ≤ 2147483647 ∧ (s15 170 8 = 0 → (0) ≤ r15 ∧ r15 ≤ (9)) at v15
      refine ⟨by omega, ?_⟩
      refine ⟨fun h57 => ?_, fun h57 => ?_⟩
      · have e63 : s10 170 34 = st 170 34 := fs10 170 34 rfl rfl
        have e62 : s11 170 34 = s10 170 34 := fs11 170 34 rfl rfl
        have e61 : s12 170 34 = s11 170 34 := fs12 170 34 rfl rfl
        have e60 : s13 170 34 = s12 170 34 := fs13 170 34 rfl rfl
        have e59 : s14 170 34 = s13 170 34 := fs14 170 34 rfl rfl
        have e58 : s15 170 34 = s14 170 34 := fs15 170 34 rfl rfl
        exact hQ _ ⟨(gInv_up gs15 (p_pullOf (by omega))), (fr_a (fr_tr (fr_tr (fr_a (fr_tr (fr_tr (fr_a (fr_tr (fr_tr (fr_rf _ _) fs10 rfl) fs11 rfl) rfl) fs12 rfl) fs13 rfl) rfl) fs14 rfl) fs15 rfl) rfl), (show s15 170 4 ≤ s15 170 5 ∧ s15 170 5 ≤ s15 170 2 ∧ (s15 170 3 = 0 ∧ s15 170 4 = s15 170 2 ∨ 1 ≤ s15 170 3 ∧ s15 170 4 < s15 170 5) ∧ st 170 4 ≤ s15 170 4 from by omega), (show jR st (zup s15 183 (((8 : Int) * (s10 170 35)) + (s10 181 (s10 170 35 : Int).toNat) : Int).toNat r15) from (jR_up (jR_tr (s1 := s14) (jR_tr (s1 := (zup s13 182 (((8 : Int) * (s10 170 35)) + (s10 181 (s10 170 35 : Int).toNat) : Int).toNat r13)) (jR_up (jR_tr (s1 := s12) (jR_tr (s1 := (zup s11 191 (((8 : Int) * (s10 170 35)) + (s10 181 (s10 170 35 : Int).toNat) : Int).toNat r11)) (jR_up (jR_tr (s1 := s10) (jR_tr (s1 := st) (jR_rf _) (jR_fr rfl fs10)) (jR_fr rfl fs11)) (by unfold jrel; omega)) (jR_fr rfl fs12)) (jR_fr rfl fs13)) (by unfold jrel; omega)) (jR_fr rfl fs14)) (jR_fr rfl fs15)) (by unfold jrel; omega))), (show bR st (zup s15 183 (((8 : Int) * (s10 170 35)) + (s10 181 (s10 170 35 : Int).toNat) : Int).toNat r15) from (bR_up (bR_tr (s1 := s14) (bR_tr (s1 := (zup s13 182 (((8 : Int) * (s10 170 35)) + (s10 181 (s10 170 35 : Int).toNat) : Int).toNat r13)) (bR_up (bR_tr (s1 := s12) (bR_tr (s1 := (zup s11 191 (((8 : Int) * (s10 170 35)) + (s10 181 (s10 170 35 : Int).toNat) : Int).toNat r11)) (bR_up (bR_tr (s1 := s10) (bR_tr (s1 := st) (bR_rf _) (bR_fr rfl fs10)) (bR_fr rfl fs11)) (by unfold brel; omega)) (bR_fr rfl fs12)) (bR_fr rfl fs13)) (by unfold brel; omega)) (bR_fr rfl fs14)) (bR_fr rfl fs15)) (by unfold brel; omega))), (show s15 170 8 = 0 → TS (zup s15 183 (((8 : Int) * (s10 170 35)) + (s10 181 (s10 170 35 : Int).toNat) : Int).toNat r15) ∧ s15 170 34 ≤ s15 170 4 from fun z => absurd z (by omega))⟩
      · have e65 : s14 170 35 = s13 170 35 := fs14 170 35 rfl rfl
        have e64 : s15 170 35 = s14 170 35 := fs15 170 35 rfl rfl
        have e71 : s10 181 (st 170 35 : Int).toNat = st 181 (st 170 35 : Int).toNat := fs10 181 (st 170 35 : Int).toNat rfl rfl
        have e70 : s11 181 (st 170 35 : Int).toNat = s10 181 (st 170 35 : Int).toNat := fs11 181 (st 170 35 : Int).toNat rfl rfl
        have e69 : s12 181 (st 170 35 : Int).toNat = s11 181 (st 170 35 : Int).toNat := fs12 181 (st 170 35 : Int).toNat rfl rfl
        have e68 : s13 181 (st 170 35 : Int).toNat = s12 181 (st 170 35 : Int).toNat := fs13 181 (st 170 35 : Int).toNat rfl rfl
        have e67 : s14 181 (st 170 35 : Int).toNat = s13 181 (st 170 35 : Int).toNat := fs14 181 (st 170 35 : Int).toNat rfl rfl
        have e66 : s15 181 (s15 170 35 : Int).toNat = s14 181 (st 170 35 : Int).toNat := (fs15 181 (s15 170 35 : Int).toNat rfl rfl).trans (by rw [e64, e65, e39, e40, e41, e22] <;> rfl)
        refine ⟨by omega, ?_⟩
        refine ⟨by omega, ?_⟩
        refine ⟨by omega, ?_⟩
        have e77 : s10 170 34 = st 170 34 := fs10 170 34 rfl rfl
        have e76 : s11 170 34 = s10 170 34 := fs11 170 34 rfl rfl
        have e75 : s12 170 34 = s11 170 34 := fs12 170 34 rfl rfl
        have e74 : s13 170 34 = s12 170 34 := fs13 170 34 rfl rfl
        have e73 : s14 170 34 = s13 170 34 := fs14 170 34 rfl rfl
        have e72 : s15 170 34 = s14 170 34 := fs15 170 34 rfl rfl
        exact hQ _ ⟨(gInv_up (gInv_up gs15 (p_pullOf (by omega))) (p_things (by omega))), (fr_a (fr_a (fr_tr (fr_tr (fr_a (fr_tr (fr_tr (fr_a (fr_tr (fr_tr (fr_rf _ _) fs10 rfl) fs11 rfl) rfl) fs12 rfl) fs13 rfl) rfl) fs14 rfl) fs15 rfl) rfl) rfl), (show s15 170 4 ≤ s15 170 5 ∧ s15 170 5 ≤ s15 170 2 ∧ (s15 170 3 = 0 ∧ s15 170 4 = s15 170 2 ∨ 1 ≤ s15 170 3 ∧ s15 170 4 < s15 170 5) ∧ st 170 4 ≤ s15 170 4 from by omega), (show jR st (zup (zup s15 183 (((8 : Int) * (s10 170 35)) + (s10 181 (s10 170 35 : Int).toNat) : Int).toNat r15) 181 (s15 170 35 : Int).toNat ((s15 181 (s15 170 35 : Int).toNat) + 1)) from (jR_up (jR_up (jR_tr (s1 := s14) (jR_tr (s1 := (zup s13 182 (((8 : Int) * (s10 170 35)) + (s10 181 (s10 170 35 : Int).toNat) : Int).toNat r13)) (jR_up (jR_tr (s1 := s12) (jR_tr (s1 := (zup s11 191 (((8 : Int) * (s10 170 35)) + (s10 181 (s10 170 35 : Int).toNat) : Int).toNat r11)) (jR_up (jR_tr (s1 := s10) (jR_tr (s1 := st) (jR_rf _) (jR_fr rfl fs10)) (jR_fr rfl fs11)) (by unfold jrel; omega)) (jR_fr rfl fs12)) (jR_fr rfl fs13)) (by unfold jrel; omega)) (jR_fr rfl fs14)) (jR_fr rfl fs15)) (by unfold jrel; omega)) (by unfold jrel; omega))), (show bR st (zup (zup s15 183 (((8 : Int) * (s10 170 35)) + (s10 181 (s10 170 35 : Int).toNat) : Int).toNat r15) 181 (s15 170 35 : Int).toNat ((s15 181 (s15 170 35 : Int).toNat) + 1)) from (bR_up (bR_up (bR_tr (s1 := s14) (bR_tr (s1 := (zup s13 182 (((8 : Int) * (s10 170 35)) + (s10 181 (s10 170 35 : Int).toNat) : Int).toNat r13)) (bR_up (bR_tr (s1 := s12) (bR_tr (s1 := (zup s11 191 (((8 : Int) * (s10 170 35)) + (s10 181 (s10 170 35 : Int).toNat) : Int).toNat r11)) (bR_up (bR_tr (s1 := s10) (bR_tr (s1 := st) (bR_rf _) (bR_fr rfl fs10)) (bR_fr rfl fs11)) (by unfold brel; omega)) (bR_fr rfl fs12)) (bR_fr rfl fs13)) (by unfold brel; omega)) (bR_fr rfl fs14)) (bR_fr rfl fs15)) (by unfold brel; omega)) (by unfold brel; omega))), (show s15 170 8 = 0 → TS (zup (zup s15 183 (((8 : Int) * (s10 170 35)) + (s10 181 (s10 170 35 : Int).toNat) : Int).toNat r15) 181 (s15 170 35 : Int).toNat ((s15 181 (s15 170 35 : Int).toNat) + 1)) ∧ s15 170 34 ≤ s15 170 4 from fun z => ⟨(TS_up rfl (TS_up rfl (TS_fr rfl fs15 (TS_fr rfl fs14 (TS_up rfl (TS_fr rfl fs13 (TS_fr rfl fs12 (TS_up rfl (TS_fr rfl fs11 (TS_fr rfl fs10 ts)))))))))), by omega⟩)⟩
    · have e78 : s10 170 34 = st 170 34 := fs10 170 34 rfl rfl
      exact hQ _ ⟨gs10, (fr_tr (fr_rf _ _) fs10 rfl), (show s10 170 4 ≤ s10 170 5 ∧ s10 170 5 ≤ s10 170 2 ∧ (s10 170 3 = 0 ∧ s10 170 4 = s10 170 2 ∨ 1 ≤ s10 170 3 ∧ s10 170 4 < s10 170 5) ∧ st 170 4 ≤ s10 170 4 from by omega), (show jR st s10 from (jR_tr (s1 := st) (jR_rf _) (jR_fr rfl fs10))), (show bR st s10 from (bR_tr (s1 := st) (bR_rf _) (bR_fr rfl fs10))), (show s10 170 8 = 0 → TS s10 ∧ s10 170 34 ≤ s10 170 4 from fun z => absurd z (by omega))⟩
  have g79 := g_signAt hG
  have g80 := g_signEnd hG
  have g81 := g_size hG
  have g82 := g_sign hG
  have g83 := g_faultKind hG
  have g84 := g_codes hG
  have g85 := g_in hG
  have g86 := g_bank hG
  refine yr1_ok (Rt := Q) (wc := (wcL [(199, k_counts), (202, k_fresh), (200, k_mustJ), (203, k_knownBut), (188, k_number)])) (stp := [20]) hcm hcl [] 85 ?_
  show ((0 ≤ st 170 35 ∧ st 170 35 < 2) ∧ ((¬ st 181 (st 170 35 : Int).toNat = (8 : Int) → K (rx_find rx_m207 20) [(0, .inr (.inr (.inl 170)))] [.inl 0, .inr (.inr (.inl 170))] st) ∧ (¬ (¬ st 181 (st 170 35 : Int).toNat = (8 : Int)) → K (rx_find rx_m207 20) [(0, .inr (.inr (.inl 170)))] [.inl 1, .inr (.inr (.inl 170))] st)))
  have g87 := g_things hG (st 170 35 : Int).toNat
  refine ⟨by omega, ?_⟩
  refine ⟨fun h88 => ?_, fun h88 => ?_⟩
  · exact m20 0 (show ((0 : Int) = 0 ∨ (0 : Int) = 1) ∧ ((0 : Int) = 0 → st 181 (st 170 35 : Int).toNat < 8) from by omega)
  · exact m20 1 (show ((1 : Int) = 0 ∨ (1 : Int) = 1) ∧ ((1 : Int) = 0 → st 181 (st 170 35 : Int).toNat < 8) from by omega)
theorem k_xthinging_m (hTb : aTb zSh rx_tb cl) {D : Nat} (hD : 4 ≤ D) : ∀ as st (Q Q' : zQ), (∀ r st', Q r st' → Q' r st') → k_xthinging 207 as st Q → cl D 207 as st Q' := by
  intro as st Q Q' hQ h
  unfold k_xthinging at h
  split at h
  · obtain ⟨rfl, h⟩ := h
    exact c_xthinging hTb hD (ct_xthinging_m hQ h)
  · exact h.elim
set_option maxHeartbeats 4000000 in
set_option maxRecDepth 100000 in
theorem c_xheating (hTb : aTb zSh rx_tb cl) {D : Nat} (hD : 4 ≤ D) {v : Int} {st : zS} {Q : zQ} (h : ct_xheating v st Q) : cl D 209 [.inr (.inr (.inl 170)), .inl v] st Q := by
  obtain ⟨d, rfl⟩ : ∃ d, D = d + 1 := ⟨D - 1, by omega⟩
  refine hTb d 209 (rx_m209, 3, 0, 0, 0) rfl _ _ _ (Nat.le_of_ble_eq_true rfl) (fun K hcl hsf hsl => ?_)
  have hcm : zmo (wcL [(199, k_counts), (188, k_number)]) (cl d) := (wcL_m (wm_cons (k_counts_m hTb (by omega)) (wm_cons (k_number_m hTb (by omega)) wm_nil)))
  obtain ⟨hR, hQ⟩ := h
  obtain ⟨hG, lx, ts, q, bk, hh⟩ := hR
  change st 170 4 ≤ st 170 5 ∧ st 170 5 ≤ st 170 2 ∧ (st 170 3 = 0 ∧ st 170 4 = st 170 2 ∨ 1 ≤ st 170 3 ∧ st 170 4 < st 170 5) at lx
  change TS st at ts
  change st 170 8 = 0 ∧ st 170 34 ≤ st 170 4 ∧ 1 ≤ st 170 3 at q
  change st 170 35 = 1 - st 170 13 at bk
  change v = 0 ∨ v = 1 at hh
  have g1 := g_signAt hG
  have g2 := g_signEnd hG
  have g3 := g_size hG
  have g4 := g_sign hG
  have g5 := g_faultKind hG
  have g6 := g_codes hG
  have g7 := g_in hG
  have g8 := g_bank hG
  refine yr1_ok (Rt := Q) (wc := (wcL [(199, k_counts), (188, k_number)])) (stp := []) hcm hcl [] 54 ?_
  show (170 = 170 ∧ (rq_counts (0) st ∧ (∀ (r9 : Int) (s9 : zS), en_counts (0) st r9 s9 → ((¬ r9 = (0 : Int) → ((v = (0 : Int) → (170 = 170 ∧ (rq_number (0) (40) s9 ∧ (∀ (r10 : Int) (s10 : zS), en_number (0) (40) s9 r10 s10 → ((s10 170 8 ≤ (0 : Int) → ((v = (0 : Int) → ((0 ≤ s10 170 35 ∧ s10 170 35 < 2) ∧ Q none (zup s10 184 (s10 170 35 : Int).toNat r10))) ∧ (¬ (v = (0 : Int)) → ((0 ≤ s10 170 35 ∧ s10 170 35 < 2) ∧ Q none (zup s10 185 (s10 170 35 : Int).toNat r10))))) ∧ (¬ (s10 170 8 ≤ (0 : Int)) → Q none s10)))))) ∧ (¬ (v = (0 : Int)) → (170 = 170 ∧ (rq_number (0) (100) s9 ∧ (∀ (r11 : Int) (s11 : zS), en_number (0) (100) s9 r11 s11 → ((s11 170 8 ≤ (0 : Int) → ((v = (0 : Int) → ((0 ≤ s11 170 35 ∧ s11 170 35 < 2) ∧ Q none (zup s11 184 (s11 170 35 : Int).toNat r11))) ∧ (¬ (v = (0 : Int)) → ((0 ≤ s11 170 35 ∧ s11 170 35 < 2) ∧ Q none (zup s11 185 (s11 170 35 : Int).toNat r11))))) ∧ (¬ (s11 170 8 ≤ (0 : Int)) → Q none s11)))))))) ∧ (¬ (¬ r9 = (0 : Int)) → Q none s9)))))
  refine ⟨rfl, ⟨hG, (show st 170 4 ≤ st 170 5 ∧ st 170 5 ≤ st 170 2 ∧ (st 170 3 = 0 ∧ st 170 4 = st 170 2 ∨ 1 ≤ st 170 3 ∧ st 170 4 < st 170 5) from by omega)⟩, fun r9 s9 q9 => ?_⟩
  obtain ⟨gs9, fs9, p9, v9⟩ := q9
  change s9 170 4 ≤ s9 170 5 ∧ s9 170 5 ≤ s9 170 2 ∧ (s9 170 3 = 0 ∧ s9 170 4 = s9 170 2 ∨ 1 ≤ s9 170 3 ∧ s9 170 4 < s9 170 5) ∧ st 170 4 ≤ s9 170 4 ∧ (s9 170 8 = 0 → st 170 8 = 0 ∧ st 170 5 ≤ s9 170 4 ∧ (0) = 0) at p9
  have g12 := g_signAt gs9
  have g13 := g_signEnd gs9
  have e14 : s9 170 2 = st 170 2 := fs9 170 2 rfl rfl
  have g15 := g_sign gs9
  have g16 := g_faultKind gs9
  change (r9 = 0 ∨ r9 = 1) ∧ (r9 = 1 ↔ s9 170 8 = 0) at v9
  refine ⟨fun h17 => ?_, fun h17 => ?_⟩
  · refine ⟨fun h18 => ?_, fun h18 => ?_⟩
    · refine ⟨rfl, ⟨gs9, (show s9 170 4 ≤ s9 170 5 ∧ s9 170 5 ≤ s9 170 2 ∧ (s9 170 3 = 0 ∧ s9 170 4 = s9 170 2 ∨ 1 ≤ s9 170 3 ∧ s9 170 4 < s9 170 5) from by omega)⟩, fun r10 s10 q10 => ?_⟩
      obtain ⟨gs10, fs10, p10, v10⟩ := q10
      change s10 170 4 ≤ s10 170 5 ∧ s10 170 5 ≤ s10 170 2 ∧ (s10 170 3 = 0 ∧ s10 170 4 = s10 170 2 ∨ 1 ≤ s10 170 3 ∧ s10 170 4 < s10 170 5) ∧ s9 170 4 ≤ s10 170 4 ∧ (s10 170 8 = 0 → s9 170 8 = 0 ∧ s9 170 5 ≤ s10 170 4 ∧ 1 ≤ s9 170 3) at p10
      have g19 := g_signAt gs10
      have g20 := g_signEnd gs10
      have e21 : s10 170 2 = s9 170 2 := fs10 170 2 rfl rfl
      have g22 := g_sign gs10
      have g23 := g_faultKind gs10
      change -2147483648 ≤ r10 ∧ r10 ≤ 2147483647 ∧ (s10 170 8 = 0 → (0) ≤ r10 ∧ r10 ≤ (40)) at v10
      refine ⟨fun h24 => ?_, fun h24 => ?_⟩
      · refine ⟨fun h25 => ?_, fun h25 => ?_⟩
        · have e27 : s9 170 35 = st 170 35 := fs9 170 35 rfl rfl
          have e26 : s10 170 35 = s9 170 35 := fs10 170 35 rfl rfl
          refine ⟨by omega, ?_⟩
          have e29 : s9 170 34 = st 170 34 := fs9 170 34 rfl rfl
          have e28 : s10 170 34 = s9 170 34 := fs10 170 34 rfl rfl
          exact hQ _ ⟨(gInv_up gs10 (p_heatTold (by omega))), (fr_a (fr_tr (fr_tr (fr_rf _ _) fs9 rfl) fs10 rfl) rfl), (show s10 170 4 ≤ s10 170 5 ∧ s10 170 5 ≤ s10 170 2 ∧ (s10 170 3 = 0 ∧ s10 170 4 = s10 170 2 ∨ 1 ≤ s10 170 3 ∧ s10 170 4 < s10 170 5) ∧ st 170 4 ≤ s10 170 4 from by omega), (show jR st (zup s10 184 (s10 170 35 : Int).toNat r10) from (jR_up (jR_tr (s1 := s9) (jR_tr (s1 := st) (jR_rf _) (jR_fr rfl fs9)) (jR_fr rfl fs10)) (by unfold jrel; omega))), (show bR st (zup s10 184 (s10 170 35 : Int).toNat r10) from (bR_up (bR_tr (s1 := s9) (bR_tr (s1 := st) (bR_rf _) (bR_fr rfl fs9)) (bR_fr rfl fs10)) (by unfold brel; omega))), (show s10 170 8 = 0 → TS (zup s10 184 (s10 170 35 : Int).toNat r10) ∧ s10 170 34 ≤ s10 170 4 from fun z => ⟨(TS_up rfl (TS_fr rfl fs10 (TS_fr rfl fs9 ts))), by omega⟩)⟩
        · have e31 : s9 170 35 = st 170 35 := fs9 170 35 rfl rfl
          have e30 : s10 170 35 = s9 170 35 := fs10 170 35 rfl rfl
          refine ⟨by omega, ?_⟩
          have e33 : s9 170 34 = st 170 34 := fs9 170 34 rfl rfl
          have e32 : s10 170 34 = s9 170 34 := fs10 170 34 rfl rfl
          exact hQ _ ⟨(gInv_up gs10 (p_hotTold (by omega))), (fr_a (fr_tr (fr_tr (fr_rf _ _) fs9 rfl) fs10 rfl) rfl), (show s10 170 4 ≤ s10 170 5 ∧ s10 170 5 ≤ s10 170 2 ∧ (s10 170 3 = 0 ∧ s10 170 4 = s10 170 2 ∨ 1 ≤ s10 170 3 ∧ s10 170 4 < s10 170 5) ∧ st 170 4 ≤ s10 170 4 from by omega), (show jR st (zup s10 185 (s10 170 35 : Int).toNat r10) from (jR_up (jR_tr (s1 := s9) (jR_tr (s1 := st) (jR_rf _) (jR_fr rfl fs9)) (jR_fr rfl fs10)) (by unfold jrel; omega))), (show bR st (zup s10 185 (s10 170 35 : Int).toNat r10) from (bR_up (bR_tr (s1 := s9) (bR_tr (s1 := st) (bR_rf _) (bR_fr rfl fs9)) (bR_fr rfl fs10)) (by unfold brel; omega))), (show s10 170 8 = 0 → TS (zup s10 185 (s10 170 35 : Int).toNat r10) ∧ s10 170 34 ≤ s10 170 4 from fun z => ⟨(TS_up rfl (TS_fr rfl fs10 (TS_fr rfl fs9 ts))), by omega⟩)⟩
      · have e35 : s9 170 34 = st 170 34 := fs9 170 34 rfl rfl
        have e34 : s10 170 34 = s9 170 34 := fs10 170 34 rfl rfl
        exact hQ _ ⟨gs10, (fr_tr (fr_tr (fr_rf _ _) fs9 rfl) fs10 rfl), (show s10 170 4 ≤ s10 170 5 ∧ s10 170 5 ≤ s10 170 2 ∧ (s10 170 3 = 0 ∧ s10 170 4 = s10 170 2 ∨ 1 ≤ s10 170 3 ∧ s10 170 4 < s10 170 5) ∧ st 170 4 ≤ s10 170 4 from by omega), (show jR st s10 from (jR_tr (s1 := s9) (jR_tr (s1 := st) (jR_rf _) (jR_fr rfl fs9)) (jR_fr rfl fs10))), (show bR st s10 from (bR_tr (s1 := s9) (bR_tr (s1 := st) (bR_rf _) (bR_fr rfl fs9)) (bR_fr rfl fs10))), (show s10 170 8 = 0 → TS s10 ∧ s10 170 34 ≤ s10 170 4 from fun z => absurd z (by omega))⟩
    · refine ⟨rfl, ⟨gs9, (show s9 170 4 ≤ s9 170 5 ∧ s9 170 5 ≤ s9 170 2 ∧ (s9 170 3 = 0 ∧ s9 170 4 = s9 170 2 ∨ 1 ≤ s9 170 3 ∧ s9 170 4 < s9 170 5) from by omega)⟩, fun r11 s11 q11 => ?_⟩
      obtain ⟨gs11, fs11, p11, v11⟩ := q11
      change s11 170 4 ≤ s11 170 5 ∧ s11 170 5 ≤ s11 170 2 ∧ (s11 170 3 = 0 ∧ s11 170 4 = s11 170 2 ∨ 1 ≤ s11 170 3 ∧ s11 170 4 < s11 170 5) ∧ s9 170 4 ≤ s11 170 4 ∧ (s11 170 8 = 0 → s9 170 8 = 0 ∧ s9 170 5 ≤ s11 170 4 ∧ 1 ≤ s9 170 3) at p11
      have g36 := g_signAt gs11
      have g37 := g_signEnd gs11
      have e38 : s11 170 2 = s9 170 2 := fs11 170 2 rfl rfl
      have g39 := g_sign gs11
      have g40 := g_faultKind gs11
      change -2147483648 ≤ r11 ∧ r11 ≤ 2147483647 ∧ (s11 170 8 = 0 → (0) ≤ r11 ∧ r11 ≤ (100)) at v11
      refine ⟨fun h41 => ?_, fun h41 => ?_⟩
      · refine ⟨fun h42 => ?_, fun h42 => ?_⟩
        · have e44 : s9 170 35 = st 170 35 := fs9 170 35 rfl rfl
          have e43 : s11 170 35 = s9 170 35 := fs11 170 35 rfl rfl
          refine ⟨by omega, ?_⟩
          have e46 : s9 170 34 = st 170 34 := fs9 170 34 rfl rfl
          have e45 : s11 170 34 = s9 170 34 := fs11 170 34 rfl rfl
          exact hQ _ ⟨(gInv_up gs11 (p_heatTold (by omega))), (fr_a (fr_tr (fr_tr (fr_rf _ _) fs9 rfl) fs11 rfl) rfl), (show s11 170 4 ≤ s11 170 5 ∧ s11 170 5 ≤ s11 170 2 ∧ (s11 170 3 = 0 ∧ s11 170 4 = s11 170 2 ∨ 1 ≤ s11 170 3 ∧ s11 170 4 < s11 170 5) ∧ st 170 4 ≤ s11 170 4 from by omega), (show jR st (zup s11 184 (s11 170 35 : Int).toNat r11) from (jR_up (jR_tr (s1 := s9) (jR_tr (s1 := st) (jR_rf _) (jR_fr rfl fs9)) (jR_fr rfl fs11)) (by unfold jrel; omega))), (show bR st (zup s11 184 (s11 170 35 : Int).toNat r11) from (bR_up (bR_tr (s1 := s9) (bR_tr (s1 := st) (bR_rf _) (bR_fr rfl fs9)) (bR_fr rfl fs11)) (by unfold brel; omega))), (show s11 170 8 = 0 → TS (zup s11 184 (s11 170 35 : Int).toNat r11) ∧ s11 170 34 ≤ s11 170 4 from fun z => ⟨(TS_up rfl (TS_fr rfl fs11 (TS_fr rfl fs9 ts))), by omega⟩)⟩
        · have e48 : s9 170 35 = st 170 35 := fs9 170 35 rfl rfl
          have e47 : s11 170 35 = s9 170 35 := fs11 170 35 rfl rfl
          refine ⟨by omega, ?_⟩
          have e50 : s9 170 34 = st 170 34 := fs9 170 34 rfl rfl
          have e49 : s11 170 34 = s9 170 34 := fs11 170 34 rfl rfl
          exact hQ _ ⟨(gInv_up gs11 (p_hotTold (by omega))), (fr_a (fr_tr (fr_tr (fr_rf _ _) fs9 rfl) fs11 rfl) rfl), (show s11 170 4 ≤ s11 170 5 ∧ s11 170 5 ≤ s11 170 2 ∧ (s11 170 3 = 0 ∧ s11 170 4 = s11 170 2 ∨ 1 ≤ s11 170 3 ∧ s11 170 4 < s11 170 5) ∧ st 170 4 ≤ s11 170 4 from by omega), (show jR st (zup s11 185 (s11 170 35 : Int).toNat r11) from (jR_up (jR_tr (s1 := s9) (jR_tr (s1 := st) (jR_rf _) (jR_fr rfl fs9)) (jR_fr rfl fs11)) (by unfold jrel; omega))), (show bR st (zup s11 185 (s11 170 35 : Int).toNat r11) from (bR_up (bR_tr (s1 := s9) (bR_tr (s1 := st) (bR_rf _) (bR_fr rfl fs9)) (bR_fr rfl fs11)) (by unfold brel; omega))), (show s11 170 8 = 0 → TS (zup s11 185 (s11 170 35 : Int).toNat r11) ∧ s11 170 34 ≤ s11 170 4 from fun z => ⟨(TS_up rfl (TS_fr rfl fs11 (TS_fr rfl fs9 ts))), by omega⟩)⟩
      · have e52 : s9 170 34 = st 170 34 := fs9 170 34 rfl rfl
        have e51 : s11 170 34 = s9 170 34 := fs11 170 34 rfl rfl
        exact hQ _ ⟨gs11, (fr_tr (fr_tr (fr_rf _ _) fs9 rfl) fs11 rfl), (show s11 170 4 ≤ s11 170 5 ∧ s11 170 5 ≤ s11 170 2 ∧ (s11 170 3 = 0 ∧ s11 170 4 = s11 170 2 ∨ 1 ≤ s11 170 3 ∧ s11 170 4 < s11 170 5) ∧ st 170 4 ≤ s11 170 4 from by omega), (show jR st s11 from (jR_tr (s1 := s9) (jR_tr (s1 := st) (jR_rf _) (jR_fr rfl fs9)) (jR_fr rfl fs11))), (show bR st s11 from (bR_tr (s1 := s9) (bR_tr (s1 := st) (bR_rf _) (bR_fr rfl fs9)) (bR_fr rfl fs11))), (show s11 170 8 = 0 → TS s11 ∧ s11 170 34 ≤ s11 170 4 from fun z => absurd z (by omega))⟩
  · have e53 : s9 170 34 = st 170 34 := fs9 170 34 rfl rfl
    exact hQ _ ⟨gs9, (fr_tr (fr_rf _ _) fs9 rfl), (show s9 170 4 ≤ s9 170 5 ∧ s9 170 5 ≤ s9 170 2 ∧ (s9 170 3 = 0 ∧ s9 170 4 = s9 170 2 ∨ 1 ≤ s9 170 3 ∧ s9 170 4 < s9 170 5) ∧ st 170 4 ≤ s9 170 4 from by omega), (show jR st s9 from (jR_tr (s1 := st) (jR_rf _) (jR_fr rfl fs9))), (show bR st s9 from (bR_tr (s1 := st) (bR_rf _) (bR_fr rfl fs9))), (show s9 170 8 = 0 → TS s9 ∧ s9 170 34 ≤ s9 170 4 from fun z => absurd z (by omega))⟩
theorem k_xheating_m (hTb : aTb zSh rx_tb cl) {D : Nat} (hD : 4 ≤ D) : ∀ as st (Q Q' : zQ), (∀ r st', Q r st' → Q' r st') → k_xheating 209 as st Q → cl D 209 as st Q' := by
  intro as st Q Q' hQ h
  unfold k_xheating at h
  split at h
  · obtain ⟨rfl, h⟩ := h
    exact c_xheating hTb hD (ct_xheating_m hQ h)
  · exact h.elim
set_option maxHeartbeats 4000000 in
set_option maxRecDepth 100000 in
theorem c_xstreeting (hTb : aTb zSh rx_tb cl) {D : Nat} (hD : 4 ≤ D) {st : zS} {Q : zQ} (h : ct_xstreeting  st Q) : cl D 205 [.inr (.inr (.inl 170))] st Q := by
  obtain ⟨d, rfl⟩ : ∃ d, D = d + 1 := ⟨D - 1, by omega⟩
  refine hTb d 205 (rx_m205, 6, 0, 0, 0) rfl _ _ _ (Nat.le_of_ble_eq_true rfl) (fun K hcl hsf hsl => ?_)
  have hcm : zmo (wcL [(199, k_counts), (203, k_knownBut), (200, k_mustJ), (0, k_between), (188, k_number)]) (cl d) := (wcL_m (wm_cons (k_counts_m hTb (by omega)) (wm_cons (k_knownBut_m hTb (by omega)) (wm_cons (k_mustJ_m hTb (by omega)) (wm_cons (k_between_m hTb (by omega)) (wm_cons (k_number_m hTb (by omega)) wm_nil))))))
  obtain ⟨hR, hQ⟩ := h
  obtain ⟨hG, lx, ts, q, bk⟩ := hR
  change st 170 4 ≤ st 170 5 ∧ st 170 5 ≤ st 170 2 ∧ (st 170 3 = 0 ∧ st 170 4 = st 170 2 ∨ 1 ≤ st 170 3 ∧ st 170 4 < st 170 5) at lx
  change TS st at ts
  change st 170 8 = 0 ∧ st 170 34 ≤ st 170 4 ∧ 1 ≤ st 170 3 at q
  change st 170 35 = 1 - st 170 13 at bk
  have m81 : ∀ (c : Int) (bt : Int) (a : Int) (s_m81 : zS), gInv zgt s_m81 ∧ aFr m_xstreeting st s_m81 ∧ (s_m81 170 4 ≤ s_m81 170 5 ∧ s_m81 170 5 ≤ s_m81 170 2 ∧ (s_m81 170 3 = 0 ∧ s_m81 170 4 = s_m81 170 2 ∨ 1 ≤ s_m81 170 3 ∧ s_m81 170 4 < s_m81 170 5)) ∧ (st 170 4 ≤ s_m81 170 4) ∧ (TS s_m81) ∧ (jR st s_m81) ∧ (bR st s_m81) ∧ (0 ≤ a ∧ a ≤ 7 ∧ s_m81 170 35 = st 170 35 ∧ s_m81 170 13 = st 170 13 ∧ s_m81 173 (s_m81 170 35 : Int).toNat < 14 ∧ s_m81 170 34 = st 170 34 ∧ (s_m81 170 8 = 0 → s_m81 170 34 ≤ s_m81 170 4 ∧ a < s_m81 172 (s_m81 170 35 : Int).toNat)) ∧ ((0 ≤ bt ∧ bt < 256) ∧ hb bt a = 1) → K (rx_find rx_m205 81) [(3, .inl c), (2, .inl bt), (1, .inl a), (0, .inr (.inr (.inl 170)))] [] s_m81 := by
    intro c bt a s_m81 hi
    obtain ⟨gI_m81, fI_m81, lx_m81, p_m81, ts_m81, R_m81, B_m81, d_m81, bb_m81⟩ := hi
    have g1 := g_signAt gI_m81
    have g2 := g_signEnd gI_m81
    have g4 := g_size hG
    have e3 : s_m81 170 2 = st 170 2 := fI_m81 170 2 rfl rfl
    have g5 := g_sign gI_m81
    have g6 := g_signAt hG
    have g8 := g_in hG
    have e7 : s_m81 170 35 = st 170 35 := fI_m81 170 35 rfl rfl
    have g10 := g_bank hG
    have e9 : s_m81 170 13 = st 170 13 := fI_m81 170 13 rfl rfl
    have g11 := g_streets gI_m81 (s_m81 170 35 : Int).toNat
    have e12 : s_m81 173 (s_m81 170 35 : Int).toNat = s_m81 173 (st 170 35 : Int).toNat := by rw [e7]
    have g13 := g_streets gI_m81 (st 170 35 : Int).toNat
    have g14 := g_codes gI_m81
    have g15 := g_codes hG
    have g16 := g_faultKind gI_m81
    have g17 := g_places gI_m81 (s_m81 170 35 : Int).toNat
    have e18 : s_m81 172 (s_m81 170 35 : Int).toNat = s_m81 172 (st 170 35 : Int).toNat := by rw [e7]
    have g19 := g_places gI_m81 (st 170 35 : Int).toNat
    refine yr1_ok (Rt := Q) (wc := (wcL [(199, k_counts), (203, k_knownBut), (200, k_mustJ), (0, k_between), (188, k_number)])) (stp := [81]) hcm hcl [] 155 ?_
    show (170 = 170 ∧ (rq_knownBut bt s_m81 ∧ (∀ (r20 : Int) (s20 : zS), en_knownBut bt s_m81 r20 s20 → (170 = 170 ∧ (rq_mustJ (482670241139) s20 ∧ (∀ (s21 : zS), en_mustJ (482670241139) s20 s21 → (170 = 170 ∧ (rq_number (1) (99) s21 ∧ (∀ (r22 : Int) (s22 : zS), en_number (1) (99) s21 r22 s22 → ((s22 170 8 ≤ (0 : Int) → ((-2147483648 ≤ (14 : Int) * (s22 170 35) ∧ (14 : Int) * (s22 170 35) ≤ 2147483647) ∧ ((0 ≤ s22 170 35 ∧ s22 170 35 < 2) ∧ ((-2147483648 ≤ ((14 : Int) * (s22 170 35)) + (s22 173 (s22 170 35 : Int).toNat) ∧ ((14 : Int) * (s22 170 35)) + (s22 173 (s22 170 35 : Int).toNat) ≤ 2147483647) ∧ ((0 ≤ ((14 : Int) * (s22 170 35)) + (s22 173 (s22 170 35 : Int).toNat) ∧ ((14 : Int) * (s22 170 35)) + (s22 173 (s22 170 35 : Int).toNat) < 28) ∧ ((0 ≤ ((14 : Int) * (s22 170 35)) + (s22 173 (s22 170 35 : Int).toNat) ∧ ((14 : Int) * (s22 170 35)) + (s22 173 (s22 170 35 : Int).toNat) < 28) ∧ ((0 ≤ ((14 : Int) * (s22 170 35)) + (s22 173 (s22 170 35 : Int).toNat) ∧ ((14 : Int) * (s22 170 35)) + (s22 173 (s22 170 35 : Int).toNat) < 28) ∧ ((0 ≤ s22 170 35 ∧ s22 170 35 < 2) ∧ ((-2147483648 ≤ (s22 173 (s22 170 35 : Int).toNat) + 1 ∧ (s22 173 (s22 170 35 : Int).toNat) + 1 ≤ 2147483647) ∧ ((0 ≤ s22 170 35 ∧ s22 170 35 < 2) ∧ ((-2147483648 ≤ (64 : Int) * (s22 170 35) ∧ (64 : Int) * (s22 170 35) ≤ 2147483647) ∧ ((-2147483648 ≤ (8 : Int) * a ∧ (8 : Int) * a ≤ 2147483647) ∧ ((-2147483648 ≤ ((64 : Int) * (s22 170 35)) + ((8 : Int) * a) ∧ ((64 : Int) * (s22 170 35)) + ((8 : Int) * a) ≤ 2147483647) ∧ ((-2147483648 ≤ (((64 : Int) * (s22 170 35)) + ((8 : Int) * a)) + r20 ∧ (((64 : Int) * (s22 170 35)) + ((8 : Int) * a)) + r20 ≤ 2147483647) ∧ ((0 ≤ s22 170 35 ∧ s22 170 35 < 2) ∧ ((0 ≤ (((64 : Int) * (s22 170 35)) + ((8 : Int) * a)) + r20 ∧ (((64 : Int) * (s22 170 35)) + ((8 : Int) * a)) + r20 < 128) ∧ ((-2147483648 ≤ (64 : Int) * (s22 170 35) ∧ (64 : Int) * (s22 170 35) ≤ 2147483647) ∧ ((-2147483648 ≤ (8 : Int) * r20 ∧ (8 : Int) * r20 ≤ 2147483647) ∧ ((-2147483648 ≤ ((64 : Int) * (s22 170 35)) + ((8 : Int) * r20) ∧ ((64 : Int) * (s22 170 35)) + ((8 : Int) * r20) ≤ 2147483647) ∧ ((-2147483648 ≤ (((64 : Int) * (s22 170 35)) + ((8 : Int) * r20)) + a ∧ (((64 : Int) * (s22 170 35)) + ((8 : Int) * r20)) + a ≤ 2147483647) ∧ ((0 ≤ s22 170 35 ∧ s22 170 35 < 2) ∧ ((0 ≤ (((64 : Int) * (s22 170 35)) + ((8 : Int) * r20)) + a ∧ (((64 : Int) * (s22 170 35)) + ((8 : Int) * r20)) + a < 128) ∧ Q none (zup (zup (zup (zup (zup (zup s22 174 (((14 : Int) * (s22 170 35)) + (s22 173 (s22 170 35 : Int).toNat) : Int).toNat a) 175 (((14 : Int) * (s22 170 35)) + (s22 173 (s22 170 35 : Int).toNat) : Int).toNat r20) 176 (((14 : Int) * (s22 170 35)) + (s22 173 (s22 170 35 : Int).toNat) : Int).toNat r22) 173 (s22 170 35 : Int).toNat ((s22 173 (s22 170 35 : Int).toNat) + 1)) 177 ((((64 : Int) * (s22 170 35)) + ((8 : Int) * a)) + r20 : Int).toNat ((zup (zup (zup (zup s22 174 (((14 : Int) * (s22 170 35)) + (s22 173 (s22 170 35 : Int).toNat) : Int).toNat a) 175 (((14 : Int) * (s22 170 35)) + (s22 173 (s22 170 35 : Int).toNat) : Int).toNat r20) 176 (((14 : Int) * (s22 170 35)) + (s22 173 (s22 170 35 : Int).toNat) : Int).toNat r22) 173 (s22 170 35 : Int).toNat ((s22 173 (s22 170 35 : Int).toNat) + 1)) 173 (s22 170 35 : Int).toNat)) 177 ((((64 : Int) * (s22 170 35)) + ((8 : Int) * r20)) + a : Int).toNat ((zup (zup (zup (zup s22 174 (((14 : Int) * (s22 170 35)) + (s22 173 (s22 170 35 : Int).toNat) : Int).toNat a) 175 (((14 : Int) * (s22 170 35)) + (s22 173 (s22 170 35 : Int).toNat) : Int).toNat r20) 176 (((14 : Int) * (s22 170 35)) + (s22 173 (s22 170 35 : Int).toNat) : Int).toNat r22) 173 (s22 170 35 : Int).toNat ((s22 173 (s22 170 35 : Int).toNat) + 1)) 173 (s22 170 35 : Int).toNat)))))))))))))))))))))))) ∧ (¬ (s22 170 8 ≤ (0 : Int)) → Q none s22)))))))))))
    refine ⟨rfl, ⟨gI_m81, (show s_m81 170 4 ≤ s_m81 170 5 ∧ s_m81 170 5 ≤ s_m81 170 2 ∧ (s_m81 170 3 = 0 ∧ s_m81 170 4 = s_m81 170 2 ∨ 1 ≤ s_m81 170 3 ∧ s_m81 170 4 < s_m81 170 5) from by omega)⟩, fun r20 s20 q20 => ?_⟩
    obtain ⟨gs20, fs20, p20, v20⟩ := q20
    change s20 170 4 ≤ s20 170 5 ∧ s20 170 5 ≤ s20 170 2 ∧ (s20 170 3 = 0 ∧ s20 170 4 = s20 170 2 ∨ 1 ≤ s20 170 3 ∧ s20 170 4 < s20 170 5) ∧ s_m81 170 4 ≤ s20 170 4 ∧ (s20 170 8 = 0 → s_m81 170 8 = 0 ∧ s_m81 170 5 ≤ s20 170 4 ∧ 1 ≤ s_m81 170 3) at p20
    have g23 := g_signAt gs20
    have g24 := g_signEnd gs20
    have e25 : s20 170 2 = s_m81 170 2 := fs20 170 2 rfl rfl
    have g26 := g_sign gs20
    have g27 := g_faultKind gs20
    change 0 ≤ r20 ∧ r20 ≤ 7 ∧ (s20 170 8 = 0 → r20 < s20 172 (s20 170 35 : Int).toNat ∧ hb bt r20 = 0) at v20
    have e28 : s20 170 35 = s_m81 170 35 := fs20 170 35 rfl rfl
    have e29 : s20 172 (s20 170 35 : Int).toNat = s_m81 172 (st 170 35 : Int).toNat := (fs20 172 (s20 170 35 : Int).toNat rfl rfl).trans (by rw [e28, e7] <;> rfl)
    refine ⟨rfl, ⟨gs20, (show s20 170 4 ≤ s20 170 5 ∧ s20 170 5 ≤ s20 170 2 ∧ (s20 170 3 = 0 ∧ s20 170 4 = s20 170 2 ∨ 1 ≤ s20 170 3 ∧ s20 170 4 < s20 170 5) from by omega)⟩, fun s21 q21 => ?_⟩
    obtain ⟨gs21, fs21, p21⟩ := q21
    change s21 170 4 ≤ s21 170 5 ∧ s21 170 5 ≤ s21 170 2 ∧ (s21 170 3 = 0 ∧ s21 170 4 = s21 170 2 ∨ 1 ≤ s21 170 3 ∧ s21 170 4 < s21 170 5) ∧ s20 170 4 ≤ s21 170 4 ∧ (s21 170 8 = 0 → s20 170 8 = 0 ∧ s20 170 5 ≤ s21 170 4 ∧ 1 ≤ s20 170 3) at p21
    have g30 := g_signAt gs21
    have g31 := g_signEnd gs21
    have e32 : s21 170 2 = s20 170 2 := fs21 170 2 rfl rfl
    have g33 := g_sign gs21
    have g34 := g_faultKind gs21
    refine ⟨rfl, ⟨gs21, (show s21 170 4 ≤ s21 170 5 ∧ s21 170 5 ≤ s21 170 2 ∧ (s21 170 3 = 0 ∧ s21 170 4 = s21 170 2 ∨ 1 ≤ s21 170 3 ∧ s21 170 4 < s21 170 5) from by omega)⟩, fun r22 s22 q22 => ?_⟩
    obtain ⟨gs22, fs22, p22, v22⟩ := q22
    change s22 170 4 ≤ s22 170 5 ∧ s22 170 5 ≤ s22 170 2 ∧ (s22 170 3 = 0 ∧ s22 170 4 = s22 170 2 ∨ 1 ≤ s22 170 3 ∧ s22 170 4 < s22 170 5) ∧ s21 170 4 ≤ s22 170 4 ∧ (s22 170 8 = 0 → s21 170 8 = 0 ∧ s21 170 5 ≤ s22 170 4 ∧ 1 ≤ s21 170 3) at p22
    have g35 := g_signAt gs22
    have g36 := g_signEnd gs22
    have e37 : s22 170 2 = s21 170 2 := fs22 170 2 rfl rfl
    have g38 := g_sign gs22
    have g39 := g_faultKind gs22
    change -2147483648 ≤ r22 ∧ r22 ≤ 2147483647 ∧ (s22 170 8 = 0 → (1) ≤ r22 ∧ r22 ≤ (99)) at v22
    refine ⟨fun h40 => ?_, fun h40 => ?_⟩
    · have e42 : s21 170 35 = s20 170 35 := fs21 170 35 rfl rfl
      have e41 : s22 170 35 = s21 170 35 := fs22 170 35 rfl rfl
      refine ⟨by omega, ?_⟩
      have e45 : s20 173 (st 170 35 : Int).toNat = s_m81 173 (st 170 35 : Int).toNat := fs20 173 (st 170 35 : Int).toNat rfl rfl
      have e44 : s21 173 (st 170 35 : Int).toNat = s20 173 (st 170 35 : Int).toNat := fs21 173 (st 170 35 : Int).toNat rfl rfl
      have e43 : s22 173 (s22 170 35 : Int).toNat = s21 173 (st 170 35 : Int).toNat := (fs22 173 (s22 170 35 : Int).toNat rfl rfl).trans (by rw [e41, e42, e28, e7] <;> rfl)
      refine ⟨by omega, ?_⟩
      refine ⟨by omega, ?_⟩
      refine ⟨by omega, ?_⟩
      refine ⟨by omega, ?_⟩
      refine ⟨by omega, ?_⟩
      refine ⟨by omega, ?_⟩
      refine ⟨by omega, ?_⟩
      refine ⟨by omega, ?_⟩
      refine ⟨by omega, ?_⟩
      refine ⟨by omega, ?_⟩
      refine ⟨by omega, ?_⟩
      refine ⟨by omega, ?_⟩
      have u46 : (zup (zup (zup (zup s22 174 (((14 : Int) * (s22 170 35)) + (s22 173 (s22 170 35 : Int).toNat) : Int).toNat a) 175 (((14 : Int) * (s22 170 35)) + (s22 173 (s22 170 35 : Int).toNat) : Int).toNat r20) 176 (((14 : Int) * (s22 170 35)) + (s22 173 (s22 170 35 : Int).toNat) : Int).toNat r22) 173 (s22 170 35 : Int).toNat ((s22 173 (s22 170 35 : Int).toNat) + 1)) 173 (s22 170 35 : Int).toNat = ((s22 173 (s22 170 35 : Int).toNat) + 1) := zup_eq _ _ _ _
      refine ⟨by omega, ?_⟩
      refine ⟨by omega, ?_⟩
      refine ⟨by omega, ?_⟩
      refine ⟨by omega, ?_⟩
      refine ⟨by omega, ?_⟩
      refine ⟨by omega, ?_⟩
      refine ⟨by omega, ?_⟩
      refine ⟨by omega, ?_⟩
      have e50 : s20 170 34 = s_m81 170 34 := fs20 170 34 rfl rfl
      have e49 : s21 170 34 = s20 170 34 := fs21 170 34 rfl rfl
      have e48 : s22 170 34 = s21 170 34 := fs22 170 34 rfl rfl
      have e53 : s20 172 (st 170 35 : Int).toNat = s_m81 172 (st 170 35 : Int).toNat := fs20 172 (st 170 35 : Int).toNat rfl rfl
      have e52 : s21 172 (st 170 35 : Int).toNat = s20 172 (st 170 35 : Int).toNat := fs21 172 (st 170 35 : Int).toNat rfl rfl
      have e51 : s22 172 (s22 170 35 : Int).toNat = s21 172 (st 170 35 : Int).toNat := (fs22 172 (s22 170 35 : Int).toNat rfl rfl).trans (by rw [e41, e42, e28, e7] <;> rfl)
      exact hQ _ ⟨(gInv_up (gInv_up (gInv_up (gInv_up (gInv_up (gInv_up gs22 (p_fromOf (by omega))) (p_toOf (by omega))) (p_pacesOf (by omega))) (p_streets (by omega))) (p_streetAt (by omega))) (p_streetAt (by omega))), (fr_a (fr_a (fr_a (fr_a (fr_a (fr_a (fr_tr (fr_tr (fr_tr fI_m81 fs20 rfl) fs21 rfl) fs22 rfl) rfl) rfl) rfl) rfl) rfl) rfl), (show s22 170 4 ≤ s22 170 5 ∧ s22 170 5 ≤ s22 170 2 ∧ (s22 170 3 = 0 ∧ s22 170 4 = s22 170 2 ∨ 1 ≤ s22 170 3 ∧ s22 170 4 < s22 170 5) ∧ st 170 4 ≤ s22 170 4 from by omega), (show jR st (zup (zup (zup (zup (zup (zup s22 174 (((14 : Int) * (s22 170 35)) + (s22 173 (s22 170 35 : Int).toNat) : Int).toNat a) 175 (((14 : Int) * (s22 170 35)) + (s22 173 (s22 170 35 : Int).toNat) : Int).toNat r20) 176 (((14 : Int) * (s22 170 35)) + (s22 173 (s22 170 35 : Int).toNat) : Int).toNat r22) 173 (s22 170 35 : Int).toNat ((s22 173 (s22 170 35 : Int).toNat) + 1)) 177 ((((64 : Int) * (s22 170 35)) + ((8 : Int) * a)) + r20 : Int).toNat ((zup (zup (zup (zup s22 174 (((14 : Int) * (s22 170 35)) + (s22 173 (s22 170 35 : Int).toNat) : Int).toNat a) 175 (((14 : Int) * (s22 170 35)) + (s22 173 (s22 170 35 : Int).toNat) : Int).toNat r20) 176 (((14 : Int) * (s22 170 35)) + (s22 173 (s22 170 35 : Int).toNat) : Int).toNat r22) 173 (s22 170 35 : Int).toNat ((s22 173 (s22 170 35 : Int).toNat) + 1)) 173 (s22 170 35 : Int).toNat)) 177 ((((64 : Int) * (s22 170 35)) + ((8 : Int) * r20)) + a : Int).toNat ((zup (zup (zup (zup s22 174 (((14 : Int) * (s22 170 35)) + (s22 173 (s22 170 35 : Int).toNat) : Int).toNat a) 175 (((14 : Int) * (s22 170 35)) + (s22 173 (s22 170 35 : Int).toNat) : Int).toNat r20) 176 (((14 : Int) * (s22 170 35)) + (s22 173 (s22 170 35 : Int).toNat) : Int).toNat r22) 173 (s22 170 35 : Int).toNat ((s22 173 (s22 170 35 : Int).toNat) + 1)) 173 (s22 170 35 : Int).toNat)) from (jR_up (jR_up (jR_up (jR_up (jR_up (jR_up (jR_tr (s1 := s21) (jR_tr (s1 := s20) (jR_tr (s1 := s_m81) R_m81 (jR_fr rfl fs20)) (jR_fr rfl fs21)) (jR_fr rfl fs22)) (by unfold jrel; omega)) (by unfold jrel; omega)) (by unfold jrel; omega)) (by unfold jrel; omega)) (by unfold jrel; omega)) (by unfold jrel; omega))), (show bR st (zup (zup (zup (zup (zup (zup s22 174 (((14 : Int) * (s22 170 35)) + (s22 173 (s22 170 35 : Int).toNat) : Int).toNat a) 175 (((14 : Int) * (s22 170 35)) + (s22 173 (s22 170 35 : Int).toNat) : Int).toNat r20) 176 (((14 : Int) * (s22 170 35)) + (s22 173 (s22 170 35 : Int).toNat) : Int).toNat r22) 173 (s22 170 35 : Int).toNat ((s22 173 (s22 170 35 : Int).toNat) + 1)) 177 ((((64 : Int) * (s22 170 35)) + ((8 : Int) * a)) + r20 : Int).toNat ((zup (zup (zup (zup s22 174 (((14 : Int) * (s22 170 35)) + (s22 173 (s22 170 35 : Int).toNat) : Int).toNat a) 175 (((14 : Int) * (s22 170 35)) + (s22 173 (s22 170 35 : Int).toNat) : Int).toNat r20) 176 (((14 : Int) * (s22 170 35)) + (s22 173 (s22 170 35 : Int).toNat) : Int).toNat r22) 173 (s22 170 35 : Int).toNat ((s22 173 (s22 170 35 : Int).toNat) + 1)) 173 (s22 170 35 : Int).toNat)) 177 ((((64 : Int) * (s22 170 35)) + ((8 : Int) * r20)) + a : Int).toNat ((zup (zup (zup (zup s22 174 (((14 : Int) * (s22 170 35)) + (s22 173 (s22 170 35 : Int).toNat) : Int).toNat a) 175 (((14 : Int) * (s22 170 35)) + (s22 173 (s22 170 35 : Int).toNat) : Int).toNat r20) 176 (((14 : Int) * (s22 170 35)) + (s22 173 (s22 170 35 : Int).toNat) : Int).toNat r22) 173 (s22 170 35 : Int).toNat ((s22 173 (s22 170 35 : Int).toNat) + 1)) 173 (s22 170 35 : Int).toNat)) from (bR_up (bR_up (bR_up (bR_up (bR_up (bR_up (bR_tr (s1 := s21) (bR_tr (s1 := s20) (bR_tr (s1 := s_m81) B_m81 (bR_fr rfl fs20)) (bR_fr rfl fs21)) (bR_fr rfl fs22)) (by unfold brel; omega)) (by unfold brel; omega)) (by unfold brel; omega)) (by unfold brel; omega)) (by unfold brel; omega)) (by unfold brel; omega))), (show s22 170 8 = 0 → TS (zup (zup (zup (zup (zup (zup s22 174 (((14 : Int) * (s22 170 35)) + (s22 173 (s22 170 35 : Int).toNat) : Int).toNat a) 175 (((14 : Int) * (s22 170 35)) + (s22 173 (s22 170 35 : Int).toNat) : Int).toNat r20) 176 (((14 : Int) * (s22 170 35)) + (s22 173 (s22 170 35 : Int).toNat) : Int).toNat r22) 173 (s22 170 35 : Int).toNat ((s22 173 (s22 170 35 : Int).toNat) + 1)) 177 ((((64 : Int) * (s22 170 35)) + ((8 : Int) * a)) + r20 : Int).toNat ((zup (zup (zup (zup s22 174 (((14 : Int) * (s22 170 35)) + (s22 173 (s22 170 35 : Int).toNat) : Int).toNat a) 175 (((14 : Int) * (s22 170 35)) + (s22 173 (s22 170 35 : Int).toNat) : Int).toNat r20) 176 (((14 : Int) * (s22 170 35)) + (s22 173 (s22 170 35 : Int).toNat) : Int).toNat r22) 173 (s22 170 35 : Int).toNat ((s22 173 (s22 170 35 : Int).toNat) + 1)) 173 (s22 170 35 : Int).toNat)) 177 ((((64 : Int) * (s22 170 35)) + ((8 : Int) * r20)) + a : Int).toNat ((zup (zup (zup (zup s22 174 (((14 : Int) * (s22 170 35)) + (s22 173 (s22 170 35 : Int).toNat) : Int).toNat a) 175 (((14 : Int) * (s22 170 35)) + (s22 173 (s22 170 35 : Int).toNat) : Int).toNat r20) 176 (((14 : Int) * (s22 170 35)) + (s22 173 (s22 170 35 : Int).toNat) : Int).toNat r22) 173 (s22 170 35 : Int).toNat ((s22 173 (s22 170 35 : Int).toNat) + 1)) 173 (s22 170 35 : Int).toNat)) ∧ s22 170 34 ≤ s22 170 4 from fun z => ⟨by
          have z1 : (zup (zup (zup (zup s22 174 (((14 : Int) * (s22 170 35)) + (s22 173 (s22 170 35 : Int).toNat) : Int).toNat a) 175 (((14 : Int) * (s22 170 35)) + (s22 173 (s22 170 35 : Int).toNat) : Int).toNat r20) 176 (((14 : Int) * (s22 170 35)) + (s22 173 (s22 170 35 : Int).toNat) : Int).toNat r22) 173 (s22 170 35 : Int).toNat ((s22 173 (s22 170 35 : Int).toNat) + 1)) 173 (s22 170 35 : Int).toNat = s22 173 (s22 170 35 : Int).toNat + 1 := zup_eq _ _ _ _
          show TS1 (s22 170 35) (s22 172 (s22 170 35 : Int).toNat) ((zup (zup (zup (zup s22 174 (((14 : Int) * (s22 170 35)) + (s22 173 (s22 170 35 : Int).toNat) : Int).toNat a) 175 (((14 : Int) * (s22 170 35)) + (s22 173 (s22 170 35 : Int).toNat) : Int).toNat r20) 176 (((14 : Int) * (s22 170 35)) + (s22 173 (s22 170 35 : Int).toNat) : Int).toNat r22) 173 (s22 170 35 : Int).toNat ((s22 173 (s22 170 35 : Int).toNat) + 1)) 173 (s22 170 35 : Int).toNat) (up1 (up1 (s22 177) ((((64 : Int) * (s22 170 35)) + ((8 : Int) * a)) + r20 : Int).toNat ((zup (zup (zup (zup s22 174 (((14 : Int) * (s22 170 35)) + (s22 173 (s22 170 35 : Int).toNat) : Int).toNat a) 175 (((14 : Int) * (s22 170 35)) + (s22 173 (s22 170 35 : Int).toNat) : Int).toNat r20) 176 (((14 : Int) * (s22 170 35)) + (s22 173 (s22 170 35 : Int).toNat) : Int).toNat r22) 173 (s22 170 35 : Int).toNat ((s22 173 (s22 170 35 : Int).toNat) + 1)) 173 (s22 170 35 : Int).toNat)) ((((64 : Int) * (s22 170 35)) + ((8 : Int) * r20)) + a : Int).toNat ((zup (zup (zup (zup s22 174 (((14 : Int) * (s22 170 35)) + (s22 173 (s22 170 35 : Int).toNat) : Int).toNat a) 175 (((14 : Int) * (s22 170 35)) + (s22 173 (s22 170 35 : Int).toNat) : Int).toNat r20) 176 (((14 : Int) * (s22 170 35)) + (s22 173 (s22 170 35 : Int).toNat) : Int).toNat r22) 173 (s22 170 35 : Int).toNat ((s22 173 (s22 170 35 : Int).toNat) + 1)) 173 (s22 170 35 : Int).toNat)) (up1 (s22 176) (((14 : Int) * (s22 170 35)) + (s22 173 (s22 170 35 : Int).toNat) : Int).toNat r22) ∧ TS2 (s22 170 35) (s22 178 (s22 170 35 : Int).toNat) (up1 (up1 (s22 177) ((((64 : Int) * (s22 170 35)) + ((8 : Int) * a)) + r20 : Int).toNat ((zup (zup (zup (zup s22 174 (((14 : Int) * (s22 170 35)) + (s22 173 (s22 170 35 : Int).toNat) : Int).toNat a) 175 (((14 : Int) * (s22 170 35)) + (s22 173 (s22 170 35 : Int).toNat) : Int).toNat r20) 176 (((14 : Int) * (s22 170 35)) + (s22 173 (s22 170 35 : Int).toNat) : Int).toNat r22) 173 (s22 170 35 : Int).toNat ((s22 173 (s22 170 35 : Int).toNat) + 1)) 173 (s22 170 35 : Int).toNat)) ((((64 : Int) * (s22 170 35)) + ((8 : Int) * r20)) + a : Int).toNat ((zup (zup (zup (zup s22 174 (((14 : Int) * (s22 170 35)) + (s22 173 (s22 170 35 : Int).toNat) : Int).toNat a) 175 (((14 : Int) * (s22 170 35)) + (s22 173 (s22 170 35 : Int).toNat) : Int).toNat r20) 176 (((14 : Int) * (s22 170 35)) + (s22 173 (s22 170 35 : Int).toNat) : Int).toNat r22) 173 (s22 170 35 : Int).toNat ((s22 173 (s22 170 35 : Int).toNat) + 1)) 173 (s22 170 35 : Int).toNat)) (s22 179) ∧ TS3 (s22 170 35) (s22 170 34) (s22 186) (s22 187) (s22 188)
          simp only [z1]
          exact ⟨TS1_st (TS_fr rfl fs22 (TS_fr rfl fs21 (TS_fr rfl fs20 ts_m81))).1 (by omega) (by omega) (by omega) (by omega) (by omega) (fun z1 => by have z2 := (v20.2.2 (by omega)).2; rw [← z1] at z2; omega) rfl rfl rfl, TS2_st (TS_fr rfl fs22 (TS_fr rfl fs21 (TS_fr rfl fs20 ts_m81))).2.1 (by omega), (TS_fr rfl fs22 (TS_fr rfl fs21 (TS_fr rfl fs20 ts_m81))).2.2⟩, by omega⟩)⟩
    · have e56 : s20 170 34 = s_m81 170 34 := fs20 170 34 rfl rfl
      have e55 : s21 170 34 = s20 170 34 := fs21 170 34 rfl rfl
      have e54 : s22 170 34 = s21 170 34 := fs22 170 34 rfl rfl
      exact hQ _ ⟨gs22, (fr_tr (fr_tr (fr_tr fI_m81 fs20 rfl) fs21 rfl) fs22 rfl), (show s22 170 4 ≤ s22 170 5 ∧ s22 170 5 ≤ s22 170 2 ∧ (s22 170 3 = 0 ∧ s22 170 4 = s22 170 2 ∨ 1 ≤ s22 170 3 ∧ s22 170 4 < s22 170 5) ∧ st 170 4 ≤ s22 170 4 from by omega), (show jR st s22 from (jR_tr (s1 := s21) (jR_tr (s1 := s20) (jR_tr (s1 := s_m81) R_m81 (jR_fr rfl fs20)) (jR_fr rfl fs21)) (jR_fr rfl fs22))), (show bR st s22 from (bR_tr (s1 := s21) (bR_tr (s1 := s20) (bR_tr (s1 := s_m81) B_m81 (bR_fr rfl fs20)) (bR_fr rfl fs21)) (bR_fr rfl fs22))), (show s22 170 8 = 0 → TS s22 ∧ s22 170 34 ≤ s22 170 4 from fun z => absurd z (by omega))⟩
  have lp : ∀ (u : Nat) (c : Int) (bt : Int) (a : Int) (s_lp : zS), gInv zgt s_lp ∧ aFr m_xstreeting st s_lp ∧ (s_lp 170 4 ≤ s_lp 170 5 ∧ s_lp 170 5 ≤ s_lp 170 2 ∧ (s_lp 170 3 = 0 ∧ s_lp 170 4 = s_lp 170 2 ∨ 1 ≤ s_lp 170 3 ∧ s_lp 170 4 < s_lp 170 5)) ∧ (st 170 4 ≤ s_lp 170 4) ∧ (TS s_lp) ∧ (jR st s_lp) ∧ (bR st s_lp) ∧ (0 ≤ a ∧ a ≤ 7 ∧ s_lp 170 35 = st 170 35 ∧ s_lp 170 13 = st 170 13 ∧ s_lp 173 (s_lp 170 35 : Int).toNat < 14 ∧ s_lp 170 34 = st 170 34 ∧ (s_lp 170 8 = 0 → s_lp 170 34 ≤ s_lp 170 4 ∧ a < s_lp 172 (s_lp 170 35 : Int).toNat)) ∧ ((0 ≤ bt ∧ bt < 256) ∧ hb bt a = 1) ∧ (0 ≤ c ∧ c ≤ 8) → (8 - c).toNat = u → K (rx_find rx_m205 46) [(3, .inl c), (2, .inl bt), (1, .inl a), (0, .inr (.inr (.inl 170)))] [] s_lp := by
    intro u
    induction u using Nat.strongRecOn with
    | _ u ih =>
      intro c bt a s_lp hi hu
      obtain ⟨gI_lp, fI_lp, lx_lp, p_lp, ts_lp, R_lp, B_lp, d_lp, bb_lp, i_lp⟩ := hi
      have g57 := g_signAt gI_lp
      have g58 := g_signEnd gI_lp
      have g60 := g_size hG
      have e59 : s_lp 170 2 = st 170 2 := fI_lp 170 2 rfl rfl
      have g61 := g_sign gI_lp
      have g62 := g_signAt hG
      have g64 := g_in hG
      have e63 : s_lp 170 35 = st 170 35 := fI_lp 170 35 rfl rfl
      have g66 := g_bank hG
      have e65 : s_lp 170 13 = st 170 13 := fI_lp 170 13 rfl rfl
      have g67 := g_streets gI_lp (s_lp 170 35 : Int).toNat
      have e68 : s_lp 173 (s_lp 170 35 : Int).toNat = s_lp 173 (st 170 35 : Int).toNat := by rw [e63]
      have g69 := g_streets gI_lp (st 170 35 : Int).toNat
      have g70 := g_codes gI_lp
      have g71 := g_codes hG
      have g72 := g_faultKind gI_lp
      have g73 := g_places gI_lp (s_lp 170 35 : Int).toNat
      have e74 : s_lp 172 (s_lp 170 35 : Int).toNat = s_lp 172 (st 170 35 : Int).toNat := by rw [e63]
      have g75 := g_places gI_lp (st 170 35 : Int).toNat
      refine yr1_ok (Rt := Q) (wc := (wcL [(199, k_counts), (203, k_knownBut), (200, k_mustJ), (0, k_between), (188, k_number)])) (stp := [46, 81]) hcm hcl [] 155 ?_
      show (((8 : Int) ≤ c → K (rx_find rx_m205 81) [(3, .inl c), (2, .inl bt), (1, .inl a), (0, .inr (.inr (.inl 170)))] [] s_lp) ∧ (¬ ((8 : Int) ≤ c) → (170 = 170 ∧ (rq_between (s_lp 170 35) a c s_lp ∧ (∀ (r76 : Int), en_between (s_lp 170 35) a c s_lp r76 → ((r76 ≤ (0 : Int) → ((-2147483648 ≤ c + 1 ∧ c + 1 ≤ 2147483647) ∧ K (rx_find rx_m205 46) [(3, .inl (c + 1)), (2, .inl (zd (Nat.lor (zi bt) (zi 0)))), (1, .inl a), (0, .inr (.inr (.inl 170)))] [] s_lp)) ∧ (¬ (r76 ≤ (0 : Int)) → ((-2147483648 ≤ c + 1 ∧ c + 1 ≤ 2147483647) ∧ K (rx_find rx_m205 46) [(3, .inl (c + 1)), (2, .inl (zd (Nat.lor (zi bt) (zi (zd ((zi 1 * 2 ^ (zi c % 32)) % 4294967296)))))), (1, .inl a), (0, .inr (.inr (.inl 170)))] [] s_lp))))))))
      refine ⟨fun h77 => ?_, fun h77 => ?_⟩
      · exact m81 c bt a s_lp ⟨gI_lp, fI_lp, (show s_lp 170 4 ≤ s_lp 170 5 ∧ s_lp 170 5 ≤ s_lp 170 2 ∧ (s_lp 170 3 = 0 ∧ s_lp 170 4 = s_lp 170 2 ∨ 1 ≤ s_lp 170 3 ∧ s_lp 170 4 < s_lp 170 5) from by omega), (show st 170 4 ≤ s_lp 170 4 from by omega), (show TS s_lp from ts_lp), (show jR st s_lp from R_lp), (show bR st s_lp from B_lp), (show 0 ≤ a ∧ a ≤ 7 ∧ s_lp 170 35 = st 170 35 ∧ s_lp 170 13 = st 170 13 ∧ s_lp 173 (s_lp 170 35 : Int).toNat < 14 ∧ s_lp 170 34 = st 170 34 ∧ (s_lp 170 8 = 0 → s_lp 170 34 ≤ s_lp 170 4 ∧ a < s_lp 172 (s_lp 170 35 : Int).toNat) from by omega), (show (0 ≤ bt ∧ bt < 256) ∧ hb bt a = 1 from bb_lp)⟩
      · refine ⟨rfl, (show 0 ≤ (s_lp 170 35) ∧ (s_lp 170 35) ≤ 1 ∧ 0 ≤ a ∧ a < 8 ∧ 0 ≤ c ∧ c < 8 from by omega), fun r76 q76 => ?_⟩
        have e76 := q76
        change r76 = s_lp 177 (64 * (s_lp 170 35) + 8 * a + c : Int).toNat at e76
        have g78 := g_streetAt gI_lp (64 * (s_lp 170 35) + 8 * a + c : Int).toNat
        have e79 : s_lp 177 (64 * (s_lp 170 35) + 8 * a + c : Int).toNat = s_lp 177 (64 * (st 170 35) + 8 * a + c : Int).toNat := by rw [e63]
        have g80 := g_streetAt gI_lp (64 * (st 170 35) + 8 * a + c : Int).toNat
        refine ⟨fun h81 => ?_, fun h81 => ?_⟩
        · refine ⟨by omega, ?_⟩
          exact ih _ (show (8 - (c + 1) : Int).toNat < u from by omega) (c + 1) (zd (Nat.lor (zi bt) (zi 0))) a s_lp ⟨gI_lp, fI_lp, (show s_lp 170 4 ≤ s_lp 170 5 ∧ s_lp 170 5 ≤ s_lp 170 2 ∧ (s_lp 170 3 = 0 ∧ s_lp 170 4 = s_lp 170 2 ∨ 1 ≤ s_lp 170 3 ∧ s_lp 170 4 < s_lp 170 5) from by omega), (show st 170 4 ≤ s_lp 170 4 from by omega), (show TS s_lp from ts_lp), (show jR st s_lp from R_lp), (show bR st s_lp from B_lp), (show 0 ≤ a ∧ a ≤ 7 ∧ s_lp 170 35 = st 170 35 ∧ s_lp 170 13 = st 170 13 ∧ s_lp 173 (s_lp 170 35 : Int).toNat < 14 ∧ s_lp 170 34 = st 170 34 ∧ (s_lp 170 8 = 0 → s_lp 170 34 ≤ s_lp 170 4 ∧ a < s_lp 172 (s_lp 170 35 : Int).toNat) from by omega), (show (0 ≤ (zd (Nat.lor (zi bt) (zi 0))) ∧ (zd (Nat.lor (zi bt) (zi 0))) < 256) ∧ hb (zd (Nat.lor (zi bt) (zi 0))) a = 1 from by rw [lor_z (by omega)]; exact bb_lp), (show 0 ≤ (c + 1) ∧ (c + 1) ≤ 8 from by omega)⟩ rfl
        · refine ⟨by omega, ?_⟩
          exact ih _ (show (8 - (c + 1) : Int).toNat < u from by omega) (c + 1) (zd (Nat.lor (zi bt) (zi (zd ((zi 1 * 2 ^ (zi c % 32)) % 4294967296))))) a s_lp ⟨gI_lp, fI_lp, (show s_lp 170 4 ≤ s_lp 170 5 ∧ s_lp 170 5 ≤ s_lp 170 2 ∧ (s_lp 170 3 = 0 ∧ s_lp 170 4 = s_lp 170 2 ∨ 1 ≤ s_lp 170 3 ∧ s_lp 170 4 < s_lp 170 5) from by omega), (show st 170 4 ≤ s_lp 170 4 from by omega), (show TS s_lp from ts_lp), (show jR st s_lp from R_lp), (show bR st s_lp from B_lp), (show 0 ≤ a ∧ a ≤ 7 ∧ s_lp 170 35 = st 170 35 ∧ s_lp 170 13 = st 170 13 ∧ s_lp 173 (s_lp 170 35 : Int).toNat < 14 ∧ s_lp 170 34 = st 170 34 ∧ (s_lp 170 8 = 0 → s_lp 170 34 ≤ s_lp 170 4 ∧ a < s_lp 172 (s_lp 170 35 : Int).toNat) from by omega), (show (0 ≤ (zd (Nat.lor (zi bt) (zi (zd ((zi 1 * 2 ^ (zi c % 32)) % 4294967296))))) ∧ (zd (Nat.lor (zi bt) (zi (zd ((zi 1 * 2 ^ (zi c % 32)) % 4294967296))))) < 256) ∧ hb (zd (Nat.lor (zi bt) (zi (zd ((zi 1 * 2 ^ (zi c % 32)) % 4294967296))))) a = 1 from by have z5 := lor_bit (s := bt) (c := c) (j := a) (by omega) (by omega) (by omega); refine ⟨z5.1, ?_⟩; by_cases z6 : a = c; exact z5.2.1 z6; rw [z5.2.2 z6]; exact bb_lp.2), (show 0 ≤ (c + 1) ∧ (c + 1) ≤ 8 from by omega)⟩ rfl
  have m20 : ∀ (x : Int), ((x = 0 ∨ x = 1) ∧ (x = 0 → st 173 (st 170 35 : Int).toNat < 14)) → K (rx_find rx_m205 20) [(0, .inr (.inr (.inl 170)))] [.inl x, .inr (.inr (.inl 170))] st := by
    intro x hi
    have fl_m20 := hi
    have g82 := g_in hG
    have g83 := g_streets hG (st 170 35 : Int).toNat
    have g84 := g_codes hG
    have g85 := g_bank hG
    have g86 := g_faultKind hG
    have g87 := g_signAt hG
    have g88 := g_signEnd hG
    have g89 := g_size hG
    have g90 := g_sign hG
    refine yr1_ok (Rt := Q) (wc := (wcL [(199, k_counts), (203, k_knownBut), (200, k_mustJ), (0, k_between), (188, k_number)])) (stp := [20, 46, 81]) hcm hcl [] 155 ?_
    show (170 = 170 ∧ (rq_counts x st ∧ (∀ (r91 : Int) (s91 : zS), en_counts x st r91 s91 → ((¬ r91 = (0 : Int) → (170 = 170 ∧ (rq_knownBut (0) s91 ∧ (∀ (r92 : Int) (s92 : zS), en_knownBut (0) s91 r92 s92 → (170 = 170 ∧ (rq_mustJ (29807) s92 ∧ (∀ (s93 : zS), en_mustJ (29807) s92 s93 → K (rx_find rx_m205 46) [(3, .inl 0), (2, .inl (zd ((zi 1 * 2 ^ (zi r92 % 32)) % 4294967296))), (1, .inl r92), (0, .inr (.inr (.inl 170)))] [] s93))))))) ∧ (¬ (¬ r91 = (0 : Int)) → Q none s91)))))
    refine ⟨rfl, ⟨hG, (show st 170 4 ≤ st 170 5 ∧ st 170 5 ≤ st 170 2 ∧ (st 170 3 = 0 ∧ st 170 4 = st 170 2 ∨ 1 ≤ st 170 3 ∧ st 170 4 < st 170 5) from by omega)⟩, fun r91 s91 q91 => ?_⟩
    obtain ⟨gs91, fs91, p91, v91⟩ := q91
    change s91 170 4 ≤ s91 170 5 ∧ s91 170 5 ≤ s91 170 2 ∧ (s91 170 3 = 0 ∧ s91 170 4 = s91 170 2 ∨ 1 ≤ s91 170 3 ∧ s91 170 4 < s91 170 5) ∧ st 170 4 ≤ s91 170 4 ∧ (s91 170 8 = 0 → st 170 8 = 0 ∧ st 170 5 ≤ s91 170 4 ∧ x = 0) at p91
    have g94 := g_signAt gs91
    have g95 := g_signEnd gs91
    have e96 : s91 170 2 = st 170 2 := fs91 170 2 rfl rfl
    have g97 := g_sign gs91
    have g98 := g_faultKind gs91
    change (r91 = 0 ∨ r91 = 1) ∧ (r91 = 1 ↔ s91 170 8 = 0) at v91
    refine ⟨fun h99 => ?_, fun h99 => ?_⟩
    · refine ⟨rfl, ⟨gs91, (show s91 170 4 ≤ s91 170 5 ∧ s91 170 5 ≤ s91 170 2 ∧ (s91 170 3 = 0 ∧ s91 170 4 = s91 170 2 ∨ 1 ≤ s91 170 3 ∧ s91 170 4 < s91 170 5) from by omega)⟩, fun r92 s92 q92 => ?_⟩
      obtain ⟨gs92, fs92, p92, v92⟩ := q92
      change s92 170 4 ≤ s92 170 5 ∧ s92 170 5 ≤ s92 170 2 ∧ (s92 170 3 = 0 ∧ s92 170 4 = s92 170 2 ∨ 1 ≤ s92 170 3 ∧ s92 170 4 < s92 170 5) ∧ s91 170 4 ≤ s92 170 4 ∧ (s92 170 8 = 0 → s91 170 8 = 0 ∧ s91 170 5 ≤ s92 170 4 ∧ 1 ≤ s91 170 3) at p92
      have g100 := g_signAt gs92
      have g101 := g_signEnd gs92
      have e102 : s92 170 2 = s91 170 2 := fs92 170 2 rfl rfl
      have g103 := g_sign gs92
      have g104 := g_faultKind gs92
      change 0 ≤ r92 ∧ r92 ≤ 7 ∧ (s92 170 8 = 0 → r92 < s92 172 (s92 170 35 : Int).toNat ∧ hb (0) r92 = 0) at v92
      have e106 : s91 170 35 = st 170 35 := fs91 170 35 rfl rfl
      have e105 : s92 170 35 = s91 170 35 := fs92 170 35 rfl rfl
      have g109 := g_places hG (st 170 35 : Int).toNat
      have e108 : s91 172 (st 170 35 : Int).toNat = st 172 (st 170 35 : Int).toNat := fs91 172 (st 170 35 : Int).toNat rfl rfl
      have e107 : s92 172 (s92 170 35 : Int).toNat = s91 172 (st 170 35 : Int).toNat := (fs92 172 (s92 170 35 : Int).toNat rfl rfl).trans (by rw [e105, e106] <;> rfl)
      refine ⟨rfl, ⟨gs92, (show s92 170 4 ≤ s92 170 5 ∧ s92 170 5 ≤ s92 170 2 ∧ (s92 170 3 = 0 ∧ s92 170 4 = s92 170 2 ∨ 1 ≤ s92 170 3 ∧ s92 170 4 < s92 170 5) from by omega)⟩, fun s93 q93 => ?_⟩
      obtain ⟨gs93, fs93, p93⟩ := q93
      change s93 170 4 ≤ s93 170 5 ∧ s93 170 5 ≤ s93 170 2 ∧ (s93 170 3 = 0 ∧ s93 170 4 = s93 170 2 ∨ 1 ≤ s93 170 3 ∧ s93 170 4 < s93 170 5) ∧ s92 170 4 ≤ s93 170 4 ∧ (s93 170 8 = 0 → s92 170 8 = 0 ∧ s92 170 5 ≤ s93 170 4 ∧ 1 ≤ s92 170 3) at p93
      have g110 := g_signAt gs93
      have g111 := g_signEnd gs93
      have e112 : s93 170 2 = s92 170 2 := fs93 170 2 rfl rfl
      have g113 := g_sign gs93
      have g114 := g_faultKind gs93
      have e115 : s93 170 35 = s92 170 35 := fs93 170 35 rfl rfl
      have e118 : s91 170 13 = st 170 13 := fs91 170 13 rfl rfl
      have e117 : s92 170 13 = s91 170 13 := fs92 170 13 rfl rfl
      have e116 : s93 170 13 = s92 170 13 := fs93 170 13 rfl rfl
      have e121 : s91 173 (st 170 35 : Int).toNat = st 173 (st 170 35 : Int).toNat := fs91 173 (st 170 35 : Int).toNat rfl rfl
      have e120 : s92 173 (st 170 35 : Int).toNat = s91 173 (st 170 35 : Int).toNat := fs92 173 (st 170 35 : Int).toNat rfl rfl
      have e119 : s93 173 (s93 170 35 : Int).toNat = s92 173 (st 170 35 : Int).toNat := (fs93 173 (s93 170 35 : Int).toNat rfl rfl).trans (by rw [e115, e105, e106] <;> rfl)
      have e124 : s91 170 34 = st 170 34 := fs91 170 34 rfl rfl
      have e123 : s92 170 34 = s91 170 34 := fs92 170 34 rfl rfl
      have e122 : s93 170 34 = s92 170 34 := fs93 170 34 rfl rfl
      have e126 : s92 172 (st 170 35 : Int).toNat = s91 172 (st 170 35 : Int).toNat := fs92 172 (st 170 35 : Int).toNat rfl rfl
      have e125 : s93 172 (s93 170 35 : Int).toNat = s92 172 (st 170 35 : Int).toNat := (fs93 172 (s93 170 35 : Int).toNat rfl rfl).trans (by rw [e115, e105, e106] <;> rfl)
      exact lp _ 0 (zd ((zi 1 * 2 ^ (zi r92 % 32)) % 4294967296)) r92 s93 ⟨gs93, (fr_tr (fr_tr (fr_tr (fr_rf _ _) fs91 rfl) fs92 rfl) fs93 rfl), (show s93 170 4 ≤ s93 170 5 ∧ s93 170 5 ≤ s93 170 2 ∧ (s93 170 3 = 0 ∧ s93 170 4 = s93 170 2 ∨ 1 ≤ s93 170 3 ∧ s93 170 4 < s93 170 5) from by omega), (show st 170 4 ≤ s93 170 4 from by omega), (show TS s93 from (TS_fr rfl fs93 (TS_fr rfl fs92 (TS_fr rfl fs91 ts)))), (show jR st s93 from (jR_tr (s1 := s92) (jR_tr (s1 := s91) (jR_tr (s1 := st) (jR_rf _) (jR_fr rfl fs91)) (jR_fr rfl fs92)) (jR_fr rfl fs93))), (show bR st s93 from (bR_tr (s1 := s92) (bR_tr (s1 := s91) (bR_tr (s1 := st) (bR_rf _) (bR_fr rfl fs91)) (bR_fr rfl fs92)) (bR_fr rfl fs93))), (show 0 ≤ r92 ∧ r92 ≤ 7 ∧ s93 170 35 = st 170 35 ∧ s93 170 13 = st 170 13 ∧ s93 173 (s93 170 35 : Int).toNat < 14 ∧ s93 170 34 = st 170 34 ∧ (s93 170 8 = 0 → s93 170 34 ≤ s93 170 4 ∧ r92 < s93 172 (s93 170 35 : Int).toNat) from by omega), (show (0 ≤ (zd ((zi 1 * 2 ^ (zi r92 % 32)) % 4294967296)) ∧ (zd ((zi 1 * 2 ^ (zi r92 % 32)) % 4294967296)) < 256) ∧ hb (zd ((zi 1 * 2 ^ (zi r92 % 32)) % 4294967296)) r92 = 1 from shl_bit (by omega)), (show 0 ≤ (0 : Int) ∧ (0 : Int) ≤ 8 from by omega)⟩ rfl
    · have e127 : s91 170 34 = st 170 34 := fs91 170 34 rfl rfl
      exact hQ _ ⟨gs91, (fr_tr (fr_rf _ _) fs91 rfl), (show s91 170 4 ≤ s91 170 5 ∧ s91 170 5 ≤ s91 170 2 ∧ (s91 170 3 = 0 ∧ s91 170 4 = s91 170 2 ∨ 1 ≤ s91 170 3 ∧ s91 170 4 < s91 170 5) ∧ st 170 4 ≤ s91 170 4 from by omega), (show jR st s91 from (jR_tr (s1 := st) (jR_rf _) (jR_fr rfl fs91))), (show bR st s91 from (bR_tr (s1 := st) (bR_rf _) (bR_fr rfl fs91))), (show s91 170 8 = 0 → TS s91 ∧ s91 170 34 ≤ s91 170 4 from fun z => absurd z (by omega))⟩
  have g128 := g_signAt hG
  have g129 := g_signEnd hG
  have g130 := g_size hG
  have g131 := g_sign hG
  have g132 := g_faultKind hG
  have g133 := g_codes hG
  have g134 := g_in hG
  have g135 := g_bank hG
  refine yr1_ok (Rt := Q) (wc := (wcL [(199, k_counts), (203, k_knownBut), (200, k_mustJ), (0, k_between), (188, k_number)])) (stp := [20, 46, 81]) hcm hcl [] 155 ?_
  show ((0 ≤ st 170 35 ∧ st 170 35 < 2) ∧ ((¬ st 173 (st 170 35 : Int).toNat = (14 : Int) → K (rx_find rx_m205 20) [(0, .inr (.inr (.inl 170)))] [.inl 0, .inr (.inr (.inl 170))] st) ∧ (¬ (¬ st 173 (st 170 35 : Int).toNat = (14 : Int)) → K (rx_find rx_m205 20) [(0, .inr (.inr (.inl 170)))] [.inl 1, .inr (.inr (.inl 170))] st)))
  have g136 := g_streets hG (st 170 35 : Int).toNat
  refine ⟨by omega, ?_⟩
  refine ⟨fun h137 => ?_, fun h137 => ?_⟩
  · exact m20 0 (show ((0 : Int) = 0 ∨ (0 : Int) = 1) ∧ ((0 : Int) = 0 → st 173 (st 170 35 : Int).toNat < 14) from by omega)
  · exact m20 1 (show ((1 : Int) = 0 ∨ (1 : Int) = 1) ∧ ((1 : Int) = 0 → st 173 (st 170 35 : Int).toNat < 14) from by omega)
theorem k_xstreeting_m (hTb : aTb zSh rx_tb cl) {D : Nat} (hD : 4 ≤ D) : ∀ as st (Q Q' : zQ), (∀ r st', Q r st' → Q' r st') → k_xstreeting 205 as st Q → cl D 205 as st Q' := by
  intro as st Q Q' hQ h
  unfold k_xstreeting at h
  split at h
  · obtain ⟨rfl, h⟩ := h
    exact c_xstreeting hTb hD (ct_xstreeting_m hQ h)
  · exact h.elim
end R6e
/-! printed by wip/p32/lib8.py: steps told, sums read, statements -/
def m_xstatement : aM := ([(170, 3), (170, 4), (170, 5), (170, 6), (170, 7), (170, 8), (170, 9), (170, 12), (170, 34), (170, 36), (170, 42), (170, 43), (170, 45), (170, 46)], [172, 173, 174, 175, 176, 177, 178, 179, 180, 181, 182, 183, 184, 185, 186, 187, 188, 189, 190, 191, 192, 193, 194, 195, 196, 197])
def rq_xstatement  (st : zS) : Prop := gInv zgt st ∧ (st 170 4 ≤ st 170 5 ∧ st 170 5 ≤ st 170 2 ∧ (st 170 3 = 0 ∧ st 170 4 = st 170 2 ∨ 1 ≤ st 170 3 ∧ st 170 4 < st 170 5)) ∧ (TS st) ∧ (st 170 8 = 0 ∧ st 170 34 ≤ st 170 4 ∧ 1 ≤ st 170 3) ∧ (st 170 35 = 1 - st 170 13)
def en_xstatement  (st : zS) (s1 : zS) : Prop := gInv zgt s1 ∧ aFr m_xstatement st s1 ∧ (s1 170 4 ≤ s1 170 5 ∧ s1 170 5 ≤ s1 170 2 ∧ (s1 170 3 = 0 ∧ s1 170 4 = s1 170 2 ∨ 1 ≤ s1 170 3 ∧ s1 170 4 < s1 170 5) ∧ st 170 4 ≤ s1 170 4) ∧ (jR st s1) ∧ (bR st s1) ∧ (s1 170 8 = 0 → TS s1 ∧ s1 170 34 ≤ s1 170 4)
def ct_xstatement  (st : zS) (Q : zQ) : Prop := rq_xstatement  st ∧ (∀ (s1 : zS), en_xstatement  st s1 → Q none s1)
theorem ct_xstatement_m {st : zS} {Q Q' : zQ} (hQ : ∀ r st', Q r st' → Q' r st') (h : ct_xstatement  st Q) : ct_xstatement  st Q' := ⟨h.1, fun x0 x1 => hQ _ _ (h.2 x0 x1)⟩
def k_xstatement : zCall := fun _ as st Q => match as with
  | [.inr (.inr (.inl z_o))] => z_o = 170 ∧ ct_xstatement  st Q
  | _ => False
theorem k_xstatement_mon : zmon k_xstatement := by
  intro nu as st Q Q' hQ h
  unfold k_xstatement at h ⊢
  split at h
  · exact ⟨h.1, ct_xstatement_m hQ h.2⟩
  · exact h.elim
section R6g
variable {cl : Nat → zCall}
set_option maxHeartbeats 4000000 in
set_option maxRecDepth 100000 in
theorem c_xstepping (hTb : aTb zSh rx_tb cl) {D : Nat} (hD : 4 ≤ D) {st : zS} {Q : zQ} (h : ct_xstepping  st Q) : cl D 206 [.inr (.inr (.inl 170))] st Q := by
  obtain ⟨d, rfl⟩ : ∃ d, D = d + 1 := ⟨D - 1, by omega⟩
  refine hTb d 206 (rx_m206, 4, 0, 0, 0) rfl _ _ _ (Nat.le_of_ble_eq_true rfl) (fun K hcl hsf hsl => ?_)
  have hcm : zmo (wcL [(199, k_counts), (0, k_between), (203, k_knownBut), (200, k_mustJ), (188, k_number)]) (cl d) := (wcL_m (wm_cons (k_counts_m hTb (by omega)) (wm_cons (k_between_m hTb (by omega)) (wm_cons (k_knownBut_m hTb (by omega)) (wm_cons (k_mustJ_m hTb (by omega)) (wm_cons (k_number_m hTb (by omega)) wm_nil))))))
  obtain ⟨hR, hQ⟩ := h
  obtain ⟨hG, lx, ts, q, bk⟩ := hR
  change st 170 4 ≤ st 170 5 ∧ st 170 5 ≤ st 170 2 ∧ (st 170 3 = 0 ∧ st 170 4 = st 170 2 ∨ 1 ≤ st 170 3 ∧ st 170 4 < st 170 5) at lx
  change TS st at ts
  change st 170 8 = 0 ∧ st 170 34 ≤ st 170 4 ∧ 1 ≤ st 170 3 at q
  change st 170 35 = 1 - st 170 13 at bk
  have m114 : ∀ (k : Int) (s_m114 : zS), gInv zgt s_m114 ∧ aFr m_xstepping st s_m114 ∧ (s_m114 170 4 ≤ s_m114 170 5 ∧ s_m114 170 5 ≤ s_m114 170 2 ∧ (s_m114 170 3 = 0 ∧ s_m114 170 4 = s_m114 170 2 ∨ 1 ≤ s_m114 170 3 ∧ s_m114 170 4 < s_m114 170 5)) ∧ (st 170 4 ≤ s_m114 170 4) ∧ (TS s_m114) ∧ (jR st s_m114) ∧ (bR st s_m114) ∧ (k = 20 * s_m114 170 35 + s_m114 178 (s_m114 170 35 : Int).toNat ∧ s_m114 170 35 = st 170 35 ∧ s_m114 170 13 = st 170 13 ∧ s_m114 178 (s_m114 170 35 : Int).toNat < 20 ∧ s_m114 170 34 = st 170 34 ∧ (s_m114 170 8 = 0 → s_m114 170 34 ≤ s_m114 170 4)) ∧ (s_m114 170 8 = 0 → HS s_m114) → K (rx_find rx_m206 114) [(1, .inl k), (0, .inr (.inr (.inl 170)))] [] s_m114 := by
    intro k s_m114 hi
    obtain ⟨gI_m114, fI_m114, lx_m114, p_m114, ts_m114, R_m114, B_m114, d_m114, h_m114⟩ := hi
    have g1 := g_signAt gI_m114
    have g2 := g_signEnd gI_m114
    have g4 := g_size hG
    have e3 : s_m114 170 2 = st 170 2 := fI_m114 170 2 rfl rfl
    have g5 := g_sign gI_m114
    have g6 := g_signAt hG
    have g8 := g_in hG
    have e7 : s_m114 170 35 = st 170 35 := fI_m114 170 35 rfl rfl
    have g9 := g_steps gI_m114 (s_m114 170 35 : Int).toNat
    have e10 : s_m114 178 (s_m114 170 35 : Int).toNat = s_m114 178 (st 170 35 : Int).toNat := by rw [e7]
    have g11 := g_steps gI_m114 (st 170 35 : Int).toNat
    have g13 := g_bank hG
    have e12 : s_m114 170 13 = st 170 13 := fI_m114 170 13 rfl rfl
    have g14 := g_codes gI_m114
    have g15 := g_codes hG
    have g16 := g_faultKind gI_m114
    refine yr1_ok (Rt := Q) (wc := (wcL [(199, k_counts), (0, k_between), (203, k_knownBut), (200, k_mustJ), (188, k_number)])) (stp := [114]) hcm hcl [] 111 ?_
    show (170 = 170 ∧ (rq_mustJ (6713202) s_m114 ∧ (∀ (s17 : zS), en_mustJ (6713202) s_m114 s17 → (170 = 170 ∧ (rq_number (0) (30) s17 ∧ (∀ (r18 : Int) (s18 : zS), en_number (0) (30) s17 r18 s18 → ((0 ≤ k ∧ k < 40) ∧ ((¬ s18 170 8 = (0 : Int) → Q none (zup s18 180 (k : Int).toNat r18)) ∧ (¬ (¬ s18 170 8 = (0 : Int)) → ((0 ≤ s18 170 35 ∧ s18 170 35 < 2) ∧ ((-2147483648 ≤ (s18 178 (s18 170 35 : Int).toNat) + 1 ∧ (s18 178 (s18 170 35 : Int).toNat) + 1 ≤ 2147483647) ∧ ((0 ≤ s18 170 35 ∧ s18 170 35 < 2) ∧ Q none (zup (zup s18 180 (k : Int).toNat r18) 178 (s18 170 35 : Int).toNat ((s18 178 (s18 170 35 : Int).toNat) + 1))))))))))))))
    refine ⟨rfl, ⟨gI_m114, (show s_m114 170 4 ≤ s_m114 170 5 ∧ s_m114 170 5 ≤ s_m114 170 2 ∧ (s_m114 170 3 = 0 ∧ s_m114 170 4 = s_m114 170 2 ∨ 1 ≤ s_m114 170 3 ∧ s_m114 170 4 < s_m114 170 5) from by omega)⟩, fun s17 q17 => ?_⟩
    obtain ⟨gs17, fs17, p17⟩ := q17
    change s17 170 4 ≤ s17 170 5 ∧ s17 170 5 ≤ s17 170 2 ∧ (s17 170 3 = 0 ∧ s17 170 4 = s17 170 2 ∨ 1 ≤ s17 170 3 ∧ s17 170 4 < s17 170 5) ∧ s_m114 170 4 ≤ s17 170 4 ∧ (s17 170 8 = 0 → s_m114 170 8 = 0 ∧ s_m114 170 5 ≤ s17 170 4 ∧ 1 ≤ s_m114 170 3) at p17
    have g19 := g_signAt gs17
    have g20 := g_signEnd gs17
    have e21 : s17 170 2 = s_m114 170 2 := fs17 170 2 rfl rfl
    have g22 := g_sign gs17
    have g23 := g_faultKind gs17
    refine ⟨rfl, ⟨gs17, (show s17 170 4 ≤ s17 170 5 ∧ s17 170 5 ≤ s17 170 2 ∧ (s17 170 3 = 0 ∧ s17 170 4 = s17 170 2 ∨ 1 ≤ s17 170 3 ∧ s17 170 4 < s17 170 5) from by omega)⟩, fun r18 s18 q18 => ?_⟩
    obtain ⟨gs18, fs18, p18, v18⟩ := q18
    change s18 170 4 ≤ s18 170 5 ∧ s18 170 5 ≤ s18 170 2 ∧ (s18 170 3 = 0 ∧ s18 170 4 = s18 170 2 ∨ 1 ≤ s18 170 3 ∧ s18 170 4 < s18 170 5) ∧ s17 170 4 ≤ s18 170 4 ∧ (s18 170 8 = 0 → s17 170 8 = 0 ∧ s17 170 5 ≤ s18 170 4 ∧ 1 ≤ s17 170 3) at p18
    have g24 := g_signAt gs18
    have g25 := g_signEnd gs18
    have e26 : s18 170 2 = s17 170 2 := fs18 170 2 rfl rfl
    have g27 := g_sign gs18
    have g28 := g_faultKind gs18
    change -2147483648 ≤ r18 ∧ r18 ≤ 2147483647 ∧ (s18 170 8 = 0 → (0) ≤ r18 ∧ r18 ≤ (30)) at v18
    refine ⟨by omega, ?_⟩
    refine ⟨fun h29 => ?_, fun h29 => ?_⟩
    · have e31 : s17 170 34 = s_m114 170 34 := fs17 170 34 rfl rfl
      have e30 : s18 170 34 = s17 170 34 := fs18 170 34 rfl rfl
      exact hQ _ ⟨(gInv_up gs18 (p_minutesTold (by omega))), (fr_a (fr_tr (fr_tr fI_m114 fs17 rfl) fs18 rfl) rfl), (show s18 170 4 ≤ s18 170 5 ∧ s18 170 5 ≤ s18 170 2 ∧ (s18 170 3 = 0 ∧ s18 170 4 = s18 170 2 ∨ 1 ≤ s18 170 3 ∧ s18 170 4 < s18 170 5) ∧ st 170 4 ≤ s18 170 4 from by omega), (show jR st (zup s18 180 (k : Int).toNat r18) from (jR_up (jR_tr (s1 := s17) (jR_tr (s1 := s_m114) R_m114 (jR_fr rfl fs17)) (jR_fr rfl fs18)) (by unfold jrel; omega))), (show bR st (zup s18 180 (k : Int).toNat r18) from (bR_up (bR_tr (s1 := s17) (bR_tr (s1 := s_m114) B_m114 (bR_fr rfl fs17)) (bR_fr rfl fs18)) (by unfold brel; omega))), (show s18 170 8 = 0 → TS (zup s18 180 (k : Int).toNat r18) ∧ s18 170 34 ≤ s18 170 4 from fun z => absurd z (by omega))⟩
    · have e33 : s17 170 35 = s_m114 170 35 := fs17 170 35 rfl rfl
      have e32 : s18 170 35 = s17 170 35 := fs18 170 35 rfl rfl
      have e35 : s17 178 (st 170 35 : Int).toNat = s_m114 178 (st 170 35 : Int).toNat := fs17 178 (st 170 35 : Int).toNat rfl rfl
      have e34 : s18 178 (s18 170 35 : Int).toNat = s17 178 (st 170 35 : Int).toNat := (fs18 178 (s18 170 35 : Int).toNat rfl rfl).trans (by rw [e32, e33, e7] <;> rfl)
      refine ⟨by omega, ?_⟩
      refine ⟨by omega, ?_⟩
      refine ⟨by omega, ?_⟩
      have e37 : s17 170 34 = s_m114 170 34 := fs17 170 34 rfl rfl
      have e36 : s18 170 34 = s17 170 34 := fs18 170 34 rfl rfl
      exact hQ _ ⟨(gInv_up (gInv_up gs18 (p_minutesTold (by omega))) (p_steps (by omega))), (fr_a (fr_a (fr_tr (fr_tr fI_m114 fs17 rfl) fs18 rfl) rfl) rfl), (show s18 170 4 ≤ s18 170 5 ∧ s18 170 5 ≤ s18 170 2 ∧ (s18 170 3 = 0 ∧ s18 170 4 = s18 170 2 ∨ 1 ≤ s18 170 3 ∧ s18 170 4 < s18 170 5) ∧ st 170 4 ≤ s18 170 4 from by omega), (show jR st (zup (zup s18 180 (k : Int).toNat r18) 178 (s18 170 35 : Int).toNat ((s18 178 (s18 170 35 : Int).toNat) + 1)) from (jR_up (jR_up (jR_tr (s1 := s17) (jR_tr (s1 := s_m114) R_m114 (jR_fr rfl fs17)) (jR_fr rfl fs18)) (by unfold jrel; omega)) (by unfold jrel; omega))), (show bR st (zup (zup s18 180 (k : Int).toNat r18) 178 (s18 170 35 : Int).toNat ((s18 178 (s18 170 35 : Int).toNat) + 1)) from (bR_up (bR_up (bR_tr (s1 := s17) (bR_tr (s1 := s_m114) B_m114 (bR_fr rfl fs17)) (bR_fr rfl fs18)) (by unfold brel; omega)) (by unfold brel; omega))), (show s18 170 8 = 0 → TS (zup (zup s18 180 (k : Int).toNat r18) 178 (s18 170 35 : Int).toNat ((s18 178 (s18 170 35 : Int).toNat) + 1)) ∧ s18 170 34 ≤ s18 170 4 from fun z => ⟨TS_sp (TS_up rfl (TS_fr rfl fs18 (TS_fr rfl fs17 ts_m114))) (show HS s18 from (HS_fr rfl fs18 (HS_fr rfl fs17 (h_m114 (by omega))))) rfl, by omega⟩)⟩
  have m103 : ∀ (bt : Int) (k : Int) (s_m103 : zS), gInv zgt s_m103 ∧ aFr m_xstepping st s_m103 ∧ (s_m103 170 4 ≤ s_m103 170 5 ∧ s_m103 170 5 ≤ s_m103 170 2 ∧ (s_m103 170 3 = 0 ∧ s_m103 170 4 = s_m103 170 2 ∨ 1 ≤ s_m103 170 3 ∧ s_m103 170 4 < s_m103 170 5)) ∧ (st 170 4 ≤ s_m103 170 4) ∧ (TS s_m103) ∧ (jR st s_m103) ∧ (bR st s_m103) ∧ (k = 20 * s_m103 170 35 + s_m103 178 (s_m103 170 35 : Int).toNat ∧ s_m103 170 35 = st 170 35 ∧ s_m103 170 13 = st 170 13 ∧ s_m103 178 (s_m103 170 35 : Int).toNat < 20 ∧ s_m103 170 34 = st 170 34 ∧ (s_m103 170 8 = 0 → s_m103 170 34 ≤ s_m103 170 4)) ∧ (0 ≤ bt ∧ bt < 256) ∧ (∀ j : Int, 0 ≤ j → j < 8 → 0 < s_m103 178 (s_m103 170 35 : Int).toNat → s_m103 177 (64 * s_m103 170 35 + 8 * s_m103 179 (20 * s_m103 170 35 + s_m103 178 (s_m103 170 35 : Int).toNat - 1 : Int).toNat + j : Int).toNat = 0 → hb bt j = 1) → K (rx_find rx_m206 103) [(2, .inl bt), (1, .inl k), (0, .inr (.inr (.inl 170)))] [] s_m103 := by
    intro bt k s_m103 hi
    obtain ⟨gI_m103, fI_m103, lx_m103, p_m103, ts_m103, R_m103, B_m103, d_m103, b_m103, bb_m103⟩ := hi
    have g38 := g_signAt gI_m103
    have g39 := g_signEnd gI_m103
    have g41 := g_size hG
    have e40 : s_m103 170 2 = st 170 2 := fI_m103 170 2 rfl rfl
    have g42 := g_sign gI_m103
    have g43 := g_signAt hG
    have g45 := g_in hG
    have e44 : s_m103 170 35 = st 170 35 := fI_m103 170 35 rfl rfl
    have g46 := g_steps gI_m103 (s_m103 170 35 : Int).toNat
    have e47 : s_m103 178 (s_m103 170 35 : Int).toNat = s_m103 178 (st 170 35 : Int).toNat := by rw [e44]
    have g48 := g_steps gI_m103 (st 170 35 : Int).toNat
    have g50 := g_bank hG
    have e49 : s_m103 170 13 = st 170 13 := fI_m103 170 13 rfl rfl
    have g51 := g_codes gI_m103
    have g52 := g_codes hG
    have g53 := g_faultKind gI_m103
    have g54 := g_stepTold gI_m103 (20 * s_m103 170 35 + s_m103 178 (s_m103 170 35 : Int).toNat - 1 : Int).toNat
    have e55 : s_m103 179 (20 * s_m103 170 35 + s_m103 178 (s_m103 170 35 : Int).toNat - 1 : Int).toNat = s_m103 179 (20 * st 170 35 + s_m103 178 (st 170 35 : Int).toNat - 1 : Int).toNat := by rw [e44]
    have g56 := g_stepTold gI_m103 (20 * st 170 35 + s_m103 178 (st 170 35 : Int).toNat - 1 : Int).toNat
    refine yr1_ok (Rt := Q) (wc := (wcL [(199, k_counts), (0, k_between), (203, k_knownBut), (200, k_mustJ), (188, k_number)])) (stp := [103, 114]) hcm hcl [] 111 ?_
    show (170 = 170 ∧ (rq_knownBut bt s_m103 ∧ (∀ (r57 : Int) (s57 : zS), en_knownBut bt s_m103 r57 s57 → ((0 ≤ k ∧ k < 40) ∧ K (rx_find rx_m206 114) [(2, .inl bt), (1, .inl k), (0, .inr (.inr (.inl 170)))] [] (zup s57 179 (k : Int).toNat r57)))))
    refine ⟨rfl, ⟨gI_m103, (show s_m103 170 4 ≤ s_m103 170 5 ∧ s_m103 170 5 ≤ s_m103 170 2 ∧ (s_m103 170 3 = 0 ∧ s_m103 170 4 = s_m103 170 2 ∨ 1 ≤ s_m103 170 3 ∧ s_m103 170 4 < s_m103 170 5) from by omega)⟩, fun r57 s57 q57 => ?_⟩
    obtain ⟨gs57, fs57, p57, v57⟩ := q57
    change s57 170 4 ≤ s57 170 5 ∧ s57 170 5 ≤ s57 170 2 ∧ (s57 170 3 = 0 ∧ s57 170 4 = s57 170 2 ∨ 1 ≤ s57 170 3 ∧ s57 170 4 < s57 170 5) ∧ s_m103 170 4 ≤ s57 170 4 ∧ (s57 170 8 = 0 → s_m103 170 8 = 0 ∧ s_m103 170 5 ≤ s57 170 4 ∧ 1 ≤ s_m103 170 3) at p57
    have g58 := g_signAt gs57
    have g59 := g_signEnd gs57
    have e60 : s57 170 2 = s_m103 170 2 := fs57 170 2 rfl rfl
    have g61 := g_sign gs57
    have g62 := g_faultKind gs57
    change 0 ≤ r57 ∧ r57 ≤ 7 ∧ (s57 170 8 = 0 → r57 < s57 172 (s57 170 35 : Int).toNat ∧ hb bt r57 = 0) at v57
    have e63 : s57 170 35 = s_m103 170 35 := fs57 170 35 rfl rfl
    have g65 := g_places gI_m103 (st 170 35 : Int).toNat
    have e64 : s57 172 (s57 170 35 : Int).toNat = s_m103 172 (st 170 35 : Int).toNat := (fs57 172 (s57 170 35 : Int).toNat rfl rfl).trans (by rw [e63, e44] <;> rfl)
    refine ⟨by omega, ?_⟩
    have e66 : s57 178 (s57 170 35 : Int).toNat = s_m103 178 (st 170 35 : Int).toNat := (fs57 178 (s57 170 35 : Int).toNat rfl rfl).trans (by rw [e63, e44] <;> rfl)
    have e67 : s57 170 13 = s_m103 170 13 := fs57 170 13 rfl rfl
    have e68 : s57 170 34 = s_m103 170 34 := fs57 170 34 rfl rfl
    exact hsl _ _ _ _ _ (sb_cons (.tail _ (.head _)) (sb_cons (.tail _ (.tail _ (.head _))) sb_nil)) (m114 k (zup s57 179 (k : Int).toNat r57) ⟨(gInv_up gs57 (p_stepTold (by omega))), (fr_a (fr_tr fI_m103 fs57 rfl) rfl), (show s57 170 4 ≤ s57 170 5 ∧ s57 170 5 ≤ s57 170 2 ∧ (s57 170 3 = 0 ∧ s57 170 4 = s57 170 2 ∨ 1 ≤ s57 170 3 ∧ s57 170 4 < s57 170 5) from by omega), (show st 170 4 ≤ s57 170 4 from by omega), (show TS (zup s57 179 (k : Int).toNat r57) from (TS_tw (TS_fr rfl fs57 ts_m103) (by omega) (by omega))), (show jR st (zup s57 179 (k : Int).toNat r57) from (jR_up (jR_tr (s1 := s_m103) R_m103 (jR_fr rfl fs57)) (by unfold jrel; omega))), (show bR st (zup s57 179 (k : Int).toNat r57) from (bR_up (bR_tr (s1 := s_m103) B_m103 (bR_fr rfl fs57)) (by unfold brel; omega))), (show k = 20 * s57 170 35 + s57 178 (s57 170 35 : Int).toNat ∧ s57 170 35 = st 170 35 ∧ s57 170 13 = st 170 13 ∧ s57 178 (s57 170 35 : Int).toNat < 20 ∧ s57 170 34 = st 170 34 ∧ (s57 170 8 = 0 → s57 170 34 ≤ s57 170 4) from by omega), (show s57 170 8 = 0 → HS (zup s57 179 (k : Int).toNat r57) from fun z => HS_tw (by omega) (by omega) (fun z1 => by
          have z2 := v57.2.2 z
          have z3 := bb_m103 r57 (by omega) (by omega)
          have z4 : s57 177 (64 * s57 170 35 + 8 * s57 179 (20 * s57 170 35 + s57 178 (s57 170 35 : Int).toNat - 1 : Int).toNat + r57 : Int).toNat = s_m103 177 (64 * s_m103 170 35 + 8 * s_m103 179 (20 * s_m103 170 35 + s_m103 178 (s_m103 170 35 : Int).toNat - 1 : Int).toNat + r57 : Int).toNat := by
            rw [fs57 177 _ rfl rfl, fs57 179 _ rfl rfl, fs57 178 _ rfl rfl, fs57 170 35 rfl rfl]
          have z5 := g_streetAt gI_m103 (64 * s_m103 170 35 + 8 * s_m103 179 (20 * s_m103 170 35 + s_m103 178 (s_m103 170 35 : Int).toNat - 1 : Int).toNat + r57 : Int).toNat
          rw [z4]
          omega))⟩)
  have lp : ∀ (u : Nat) (c : Int) (bt : Int) (k : Int) (s_lp : zS), gInv zgt s_lp ∧ aFr m_xstepping st s_lp ∧ (s_lp 170 4 ≤ s_lp 170 5 ∧ s_lp 170 5 ≤ s_lp 170 2 ∧ (s_lp 170 3 = 0 ∧ s_lp 170 4 = s_lp 170 2 ∨ 1 ≤ s_lp 170 3 ∧ s_lp 170 4 < s_lp 170 5)) ∧ (st 170 4 ≤ s_lp 170 4) ∧ (TS s_lp) ∧ (jR st s_lp) ∧ (bR st s_lp) ∧ (k = 20 * s_lp 170 35 + s_lp 178 (s_lp 170 35 : Int).toNat ∧ s_lp 170 35 = st 170 35 ∧ s_lp 170 13 = st 170 13 ∧ s_lp 178 (s_lp 170 35 : Int).toNat < 20 ∧ s_lp 170 34 = st 170 34 ∧ (s_lp 170 8 = 0 → s_lp 170 34 ≤ s_lp 170 4)) ∧ (0 ≤ bt ∧ bt < 256) ∧ (∀ j : Int, 0 ≤ j → j < c → 0 < s_lp 178 (s_lp 170 35 : Int).toNat → s_lp 177 (64 * s_lp 170 35 + 8 * s_lp 179 (20 * s_lp 170 35 + s_lp 178 (s_lp 170 35 : Int).toNat - 1 : Int).toNat + j : Int).toNat = 0 → hb bt j = 1) ∧ (0 ≤ c ∧ c ≤ 8) → (8 - c).toNat = u → K (rx_find rx_m206 49) [(3, .inl c), (2, .inl bt), (1, .inl k), (0, .inr (.inr (.inl 170)))] [] s_lp := by
    intro u
    induction u using Nat.strongRecOn with
    | _ u ih =>
      intro c bt k s_lp hi hu
      obtain ⟨gI_lp, fI_lp, lx_lp, p_lp, ts_lp, R_lp, B_lp, d_lp, b_lp, bb_lp, i_lp⟩ := hi
      have g69 := g_signAt gI_lp
      have g70 := g_signEnd gI_lp
      have g72 := g_size hG
      have e71 : s_lp 170 2 = st 170 2 := fI_lp 170 2 rfl rfl
      have g73 := g_sign gI_lp
      have g74 := g_signAt hG
      have g76 := g_in hG
      have e75 : s_lp 170 35 = st 170 35 := fI_lp 170 35 rfl rfl
      have g77 := g_steps gI_lp (s_lp 170 35 : Int).toNat
      have e78 : s_lp 178 (s_lp 170 35 : Int).toNat = s_lp 178 (st 170 35 : Int).toNat := by rw [e75]
      have g79 := g_steps gI_lp (st 170 35 : Int).toNat
      have g81 := g_bank hG
      have e80 : s_lp 170 13 = st 170 13 := fI_lp 170 13 rfl rfl
      have g82 := g_codes gI_lp
      have g83 := g_codes hG
      have g84 := g_faultKind gI_lp
      have g85 := g_stepTold gI_lp (20 * s_lp 170 35 + s_lp 178 (s_lp 170 35 : Int).toNat - 1 : Int).toNat
      have e86 : s_lp 179 (20 * s_lp 170 35 + s_lp 178 (s_lp 170 35 : Int).toNat - 1 : Int).toNat = s_lp 179 (20 * st 170 35 + s_lp 178 (st 170 35 : Int).toNat - 1 : Int).toNat := by rw [e75]
      have g87 := g_stepTold gI_lp (20 * st 170 35 + s_lp 178 (st 170 35 : Int).toNat - 1 : Int).toNat
      refine yr1_ok (Rt := Q) (wc := (wcL [(199, k_counts), (0, k_between), (203, k_knownBut), (200, k_mustJ), (188, k_number)])) (stp := [49, 103, 114]) hcm hcl [] 111 ?_
      show (((8 : Int) ≤ c → K (rx_find rx_m206 103) [(3, .inl c), (2, .inl bt), (1, .inl k), (0, .inr (.inr (.inl 170)))] [] s_lp) ∧ (¬ ((8 : Int) ≤ c) → ((0 ≤ s_lp 170 35 ∧ s_lp 170 35 < 2) ∧ ((s_lp 178 (s_lp 170 35 : Int).toNat ≤ (0 : Int) → ((-2147483648 ≤ c + 1 ∧ c + 1 ≤ 2147483647) ∧ K (rx_find rx_m206 49) [(3, .inl (c + 1)), (2, .inl (zd (Nat.lor (zi bt) (zi 0)))), (1, .inl k), (0, .inr (.inr (.inl 170)))] [] s_lp)) ∧ (¬ (s_lp 178 (s_lp 170 35 : Int).toNat ≤ (0 : Int)) → ((-2147483648 ≤ k - 1 ∧ k - 1 ≤ 2147483647) ∧ ((0 ≤ k - 1 ∧ k - 1 < 40) ∧ (170 = 170 ∧ (rq_between (s_lp 170 35) (s_lp 179 (k - 1 : Int).toNat) c s_lp ∧ (∀ (r88 : Int), en_between (s_lp 170 35) (s_lp 179 (k - 1 : Int).toNat) c s_lp r88 → ((¬ r88 = (0 : Int) → ((-2147483648 ≤ c + 1 ∧ c + 1 ≤ 2147483647) ∧ K (rx_find rx_m206 49) [(3, .inl (c + 1)), (2, .inl (zd (Nat.lor (zi bt) (zi 0)))), (1, .inl k), (0, .inr (.inr (.inl 170)))] [] s_lp)) ∧ (¬ (¬ r88 = (0 : Int)) → ((-2147483648 ≤ c + 1 ∧ c + 1 ≤ 2147483647) ∧ K (rx_find rx_m206 49) [(3, .inl (c + 1)), (2, .inl (zd (Nat.lor (zi bt) (zi (zd ((zi 1 * 2 ^ (zi c % 32)) % 4294967296)))))), (1, .inl k), (0, .inr (.inr (.inl 170)))] [] s_lp)))))))))))))
      refine ⟨fun h89 => ?_, fun h89 => ?_⟩
      · exact hsl _ _ _ _ _ (sb_cons (.tail _ (.head _)) (sb_cons (.tail _ (.tail _ (.head _))) (sb_cons (.tail _ (.tail _ (.tail _ (.head _)))) sb_nil))) (m103 bt k s_lp ⟨gI_lp, fI_lp, (show s_lp 170 4 ≤ s_lp 170 5 ∧ s_lp 170 5 ≤ s_lp 170 2 ∧ (s_lp 170 3 = 0 ∧ s_lp 170 4 = s_lp 170 2 ∨ 1 ≤ s_lp 170 3 ∧ s_lp 170 4 < s_lp 170 5) from by omega), (show st 170 4 ≤ s_lp 170 4 from by omega), (show TS s_lp from ts_lp), (show jR st s_lp from R_lp), (show bR st s_lp from B_lp), (show k = 20 * s_lp 170 35 + s_lp 178 (s_lp 170 35 : Int).toNat ∧ s_lp 170 35 = st 170 35 ∧ s_lp 170 13 = st 170 13 ∧ s_lp 178 (s_lp 170 35 : Int).toNat < 20 ∧ s_lp 170 34 = st 170 34 ∧ (s_lp 170 8 = 0 → s_lp 170 34 ≤ s_lp 170 4) from by omega), (show 0 ≤ bt ∧ bt < 256 from by omega), (show ∀ j : Int, 0 ≤ j → j < 8 → 0 < s_lp 178 (s_lp 170 35 : Int).toNat → s_lp 177 (64 * s_lp 170 35 + 8 * s_lp 179 (20 * s_lp 170 35 + s_lp 178 (s_lp 170 35 : Int).toNat - 1 : Int).toNat + j : Int).toNat = 0 → hb bt j = 1 from fun j z1 z2 => bb_lp j z1 (by omega))⟩)
      · refine ⟨by omega, ?_⟩
        refine ⟨fun h90 => ?_, fun h90 => ?_⟩
        · refine ⟨by omega, ?_⟩
          exact ih _ (show (8 - (c + 1) : Int).toNat < u from by omega) (c + 1) (zd (Nat.lor (zi bt) (zi 0))) k s_lp ⟨gI_lp, fI_lp, (show s_lp 170 4 ≤ s_lp 170 5 ∧ s_lp 170 5 ≤ s_lp 170 2 ∧ (s_lp 170 3 = 0 ∧ s_lp 170 4 = s_lp 170 2 ∨ 1 ≤ s_lp 170 3 ∧ s_lp 170 4 < s_lp 170 5) from by omega), (show st 170 4 ≤ s_lp 170 4 from by omega), (show TS s_lp from ts_lp), (show jR st s_lp from R_lp), (show bR st s_lp from B_lp), (show k = 20 * s_lp 170 35 + s_lp 178 (s_lp 170 35 : Int).toNat ∧ s_lp 170 35 = st 170 35 ∧ s_lp 170 13 = st 170 13 ∧ s_lp 178 (s_lp 170 35 : Int).toNat < 20 ∧ s_lp 170 34 = st 170 34 ∧ (s_lp 170 8 = 0 → s_lp 170 34 ≤ s_lp 170 4) from by omega), (show 0 ≤ (zd (Nat.lor (zi bt) (zi 0))) ∧ (zd (Nat.lor (zi bt) (zi 0))) < 256 from by rw [lor_z (by omega)]; omega), (show ∀ j : Int, 0 ≤ j → j < (c + 1) → 0 < s_lp 178 (s_lp 170 35 : Int).toNat → s_lp 177 (64 * s_lp 170 35 + 8 * s_lp 179 (20 * s_lp 170 35 + s_lp 178 (s_lp 170 35 : Int).toNat - 1 : Int).toNat + j : Int).toNat = 0 → hb (zd (Nat.lor (zi bt) (zi 0))) j = 1 from fun j z1 z2 z3 z4 => by
            rw [lor_z (by omega)]
            by_cases z6 : j = c
            · subst z6; exfalso; have zk : 20 * s_lp 170 35 + s_lp 178 (s_lp 170 35 : Int).toNat = k := by omega
              rw [zk] at z4; omega
            · exact bb_lp j z1 (by omega) z3 z4), (show 0 ≤ (c + 1) ∧ (c + 1) ≤ 8 from by omega)⟩ rfl
        · refine ⟨by omega, ?_⟩
          have g91 := g_stepTold gI_lp (k - 1 : Int).toNat
          refine ⟨by omega, ?_⟩
          refine ⟨rfl, (show 0 ≤ (s_lp 170 35) ∧ (s_lp 170 35) ≤ 1 ∧ 0 ≤ (s_lp 179 (k - 1 : Int).toNat) ∧ (s_lp 179 (k - 1 : Int).toNat) < 8 ∧ 0 ≤ c ∧ c < 8 from by omega), fun r88 q88 => ?_⟩
          have e88 := q88
          change r88 = s_lp 177 (64 * (s_lp 170 35) + 8 * (s_lp 179 (k - 1 : Int).toNat) + c : Int).toNat at e88
          have g92 := g_streetAt gI_lp (64 * (s_lp 170 35) + 8 * (s_lp 179 (k - 1 : Int).toNat) + c : Int).toNat
          have e93 : s_lp 177 (64 * (s_lp 170 35) + 8 * (s_lp 179 (k - 1 : Int).toNat) + c : Int).toNat = s_lp 177 (64 * (st 170 35) + 8 * (s_lp 179 (k - 1 : Int).toNat) + c : Int).toNat := by rw [e75]
          have g94 := g_streetAt gI_lp (64 * (st 170 35) + 8 * (s_lp 179 (k - 1 : Int).toNat) + c : Int).toNat
          refine ⟨fun h95 => ?_, fun h95 => ?_⟩
          · refine ⟨by omega, ?_⟩
            exact ih _ (show (8 - (c + 1) : Int).toNat < u from by omega) (c + 1) (zd (Nat.lor (zi bt) (zi 0))) k s_lp ⟨gI_lp, fI_lp, (show s_lp 170 4 ≤ s_lp 170 5 ∧ s_lp 170 5 ≤ s_lp 170 2 ∧ (s_lp 170 3 = 0 ∧ s_lp 170 4 = s_lp 170 2 ∨ 1 ≤ s_lp 170 3 ∧ s_lp 170 4 < s_lp 170 5) from by omega), (show st 170 4 ≤ s_lp 170 4 from by omega), (show TS s_lp from ts_lp), (show jR st s_lp from R_lp), (show bR st s_lp from B_lp), (show k = 20 * s_lp 170 35 + s_lp 178 (s_lp 170 35 : Int).toNat ∧ s_lp 170 35 = st 170 35 ∧ s_lp 170 13 = st 170 13 ∧ s_lp 178 (s_lp 170 35 : Int).toNat < 20 ∧ s_lp 170 34 = st 170 34 ∧ (s_lp 170 8 = 0 → s_lp 170 34 ≤ s_lp 170 4) from by omega), (show 0 ≤ (zd (Nat.lor (zi bt) (zi 0))) ∧ (zd (Nat.lor (zi bt) (zi 0))) < 256 from by rw [lor_z (by omega)]; omega), (show ∀ j : Int, 0 ≤ j → j < (c + 1) → 0 < s_lp 178 (s_lp 170 35 : Int).toNat → s_lp 177 (64 * s_lp 170 35 + 8 * s_lp 179 (20 * s_lp 170 35 + s_lp 178 (s_lp 170 35 : Int).toNat - 1 : Int).toNat + j : Int).toNat = 0 → hb (zd (Nat.lor (zi bt) (zi 0))) j = 1 from fun j z1 z2 z3 z4 => by
            rw [lor_z (by omega)]
            by_cases z6 : j = c
            · subst z6; exfalso; have zk : 20 * s_lp 170 35 + s_lp 178 (s_lp 170 35 : Int).toNat = k := by omega
              rw [zk] at z4; omega
            · exact bb_lp j z1 (by omega) z3 z4), (show 0 ≤ (c + 1) ∧ (c + 1) ≤ 8 from by omega)⟩ rfl
          · refine ⟨by omega, ?_⟩
            exact ih _ (show (8 - (c + 1) : Int).toNat < u from by omega) (c + 1) (zd (Nat.lor (zi bt) (zi (zd ((zi 1 * 2 ^ (zi c % 32)) % 4294967296))))) k s_lp ⟨gI_lp, fI_lp, (show s_lp 170 4 ≤ s_lp 170 5 ∧ s_lp 170 5 ≤ s_lp 170 2 ∧ (s_lp 170 3 = 0 ∧ s_lp 170 4 = s_lp 170 2 ∨ 1 ≤ s_lp 170 3 ∧ s_lp 170 4 < s_lp 170 5) from by omega), (show st 170 4 ≤ s_lp 170 4 from by omega), (show TS s_lp from ts_lp), (show jR st s_lp from R_lp), (show bR st s_lp from B_lp), (show k = 20 * s_lp 170 35 + s_lp 178 (s_lp 170 35 : Int).toNat ∧ s_lp 170 35 = st 170 35 ∧ s_lp 170 13 = st 170 13 ∧ s_lp 178 (s_lp 170 35 : Int).toNat < 20 ∧ s_lp 170 34 = st 170 34 ∧ (s_lp 170 8 = 0 → s_lp 170 34 ≤ s_lp 170 4) from by omega), (show 0 ≤ (zd (Nat.lor (zi bt) (zi (zd ((zi 1 * 2 ^ (zi c % 32)) % 4294967296))))) ∧ (zd (Nat.lor (zi bt) (zi (zd ((zi 1 * 2 ^ (zi c % 32)) % 4294967296))))) < 256 from (lor_bit (s := bt) (c := c) (j := 0) (by omega) (by omega) (by omega)).1), (show ∀ j : Int, 0 ≤ j → j < (c + 1) → 0 < s_lp 178 (s_lp 170 35 : Int).toNat → s_lp 177 (64 * s_lp 170 35 + 8 * s_lp 179 (20 * s_lp 170 35 + s_lp 178 (s_lp 170 35 : Int).toNat - 1 : Int).toNat + j : Int).toNat = 0 → hb (zd (Nat.lor (zi bt) (zi (zd ((zi 1 * 2 ^ (zi c % 32)) % 4294967296))))) j = 1 from fun j z1 z2 z3 z4 => by
            have z5 := lor_bit (s := bt) (c := c) (j := j) (by omega) (by omega) (by omega)
            by_cases z6 : j = c
            · exact z5.2.1 z6
            · rw [z5.2.2 z6]; exact bb_lp j z1 (by omega) z3 z4), (show 0 ≤ (c + 1) ∧ (c + 1) ≤ 8 from by omega)⟩ rfl
  have m20 : ∀ (x : Int), ((x = 0 ∨ x = 1) ∧ (x = 0 → st 178 (st 170 35 : Int).toNat < 20)) → K (rx_find rx_m206 20) [(0, .inr (.inr (.inl 170)))] [.inl x, .inr (.inr (.inl 170))] st := by
    intro x hi
    have fl_m20 := hi
    have g96 := g_in hG
    have g97 := g_steps hG (st 170 35 : Int).toNat
    have g98 := g_codes hG
    have g99 := g_bank hG
    have g100 := g_faultKind hG
    have g101 := g_signAt hG
    have g102 := g_signEnd hG
    have g103 := g_size hG
    have g104 := g_sign hG
    refine yr1_ok (Rt := Q) (wc := (wcL [(199, k_counts), (0, k_between), (203, k_knownBut), (200, k_mustJ), (188, k_number)])) (stp := [20, 49, 103, 114]) hcm hcl [] 111 ?_
    show (170 = 170 ∧ (rq_counts x st ∧ (∀ (r105 : Int) (s105 : zS), en_counts x st r105 s105 → ((¬ r105 = (0 : Int) → ((-2147483648 ≤ (20 : Int) * (s105 170 35) ∧ (20 : Int) * (s105 170 35) ≤ 2147483647) ∧ ((0 ≤ s105 170 35 ∧ s105 170 35 < 2) ∧ ((-2147483648 ≤ ((20 : Int) * (s105 170 35)) + (s105 178 (s105 170 35 : Int).toNat) ∧ ((20 : Int) * (s105 170 35)) + (s105 178 (s105 170 35 : Int).toNat) ≤ 2147483647) ∧ K (rx_find rx_m206 49) [(3, .inl 0), (2, .inl 0), (1, .inl (((20 : Int) * (s105 170 35)) + (s105 178 (s105 170 35 : Int).toNat))), (0, .inr (.inr (.inl 170)))] [] s105)))) ∧ (¬ (¬ r105 = (0 : Int)) → Q none s105)))))
    refine ⟨rfl, ⟨hG, (show st 170 4 ≤ st 170 5 ∧ st 170 5 ≤ st 170 2 ∧ (st 170 3 = 0 ∧ st 170 4 = st 170 2 ∨ 1 ≤ st 170 3 ∧ st 170 4 < st 170 5) from by omega)⟩, fun r105 s105 q105 => ?_⟩
    obtain ⟨gs105, fs105, p105, v105⟩ := q105
    change s105 170 4 ≤ s105 170 5 ∧ s105 170 5 ≤ s105 170 2 ∧ (s105 170 3 = 0 ∧ s105 170 4 = s105 170 2 ∨ 1 ≤ s105 170 3 ∧ s105 170 4 < s105 170 5) ∧ st 170 4 ≤ s105 170 4 ∧ (s105 170 8 = 0 → st 170 8 = 0 ∧ st 170 5 ≤ s105 170 4 ∧ x = 0) at p105
    have g106 := g_signAt gs105
    have g107 := g_signEnd gs105
    have e108 : s105 170 2 = st 170 2 := fs105 170 2 rfl rfl
    have g109 := g_sign gs105
    have g110 := g_faultKind gs105
    change (r105 = 0 ∨ r105 = 1) ∧ (r105 = 1 ↔ s105 170 8 = 0) at v105
    refine ⟨fun h111 => ?_, fun h111 => ?_⟩
    · have e112 : s105 170 35 = st 170 35 := fs105 170 35 rfl rfl
      refine ⟨by omega, ?_⟩
      have e113 : s105 178 (s105 170 35 : Int).toNat = st 178 (st 170 35 : Int).toNat := (fs105 178 (s105 170 35 : Int).toNat rfl rfl).trans (by rw [e112] <;> rfl)
      refine ⟨by omega, ?_⟩
      refine ⟨by omega, ?_⟩
      have e114 : s105 170 13 = st 170 13 := fs105 170 13 rfl rfl
      have e115 : s105 170 34 = st 170 34 := fs105 170 34 rfl rfl
      have g117 := g_stepTold hG (20 * st 170 35 + s105 178 (st 170 35 : Int).toNat - 1 : Int).toNat
      have e116 : s105 179 (20 * s105 170 35 + s105 178 (s105 170 35 : Int).toNat - 1 : Int).toNat = st 179 (20 * st 170 35 + s105 178 (st 170 35 : Int).toNat - 1 : Int).toNat := (fs105 179 (20 * s105 170 35 + s105 178 (s105 170 35 : Int).toNat - 1 : Int).toNat rfl rfl).trans (by rw [e112] <;> rfl)
      exact lp _ 0 0 (((20 : Int) * (s105 170 35)) + (s105 178 (s105 170 35 : Int).toNat)) s105 ⟨gs105, (fr_tr (fr_rf _ _) fs105 rfl), (show s105 170 4 ≤ s105 170 5 ∧ s105 170 5 ≤ s105 170 2 ∧ (s105 170 3 = 0 ∧ s105 170 4 = s105 170 2 ∨ 1 ≤ s105 170 3 ∧ s105 170 4 < s105 170 5) from by omega), (show st 170 4 ≤ s105 170 4 from by omega), (show TS s105 from (TS_fr rfl fs105 ts)), (show jR st s105 from (jR_tr (s1 := st) (jR_rf _) (jR_fr rfl fs105))), (show bR st s105 from (bR_tr (s1 := st) (bR_rf _) (bR_fr rfl fs105))), (show (((20 : Int) * (s105 170 35)) + (s105 178 (s105 170 35 : Int).toNat)) = 20 * s105 170 35 + s105 178 (s105 170 35 : Int).toNat ∧ s105 170 35 = st 170 35 ∧ s105 170 13 = st 170 13 ∧ s105 178 (s105 170 35 : Int).toNat < 20 ∧ s105 170 34 = st 170 34 ∧ (s105 170 8 = 0 → s105 170 34 ≤ s105 170 4) from by omega), (show 0 ≤ (0 : Int) ∧ (0 : Int) < 256 from by omega), (show ∀ j : Int, 0 ≤ j → j < (0 : Int) → 0 < s105 178 (s105 170 35 : Int).toNat → s105 177 (64 * s105 170 35 + 8 * s105 179 (20 * s105 170 35 + s105 178 (s105 170 35 : Int).toNat - 1 : Int).toNat + j : Int).toNat = 0 → hb (0 : Int) j = 1 from fun j z1 z2 => by omega), (show 0 ≤ (0 : Int) ∧ (0 : Int) ≤ 8 from by omega)⟩ rfl
    · have e118 : s105 170 34 = st 170 34 := fs105 170 34 rfl rfl
      exact hQ _ ⟨gs105, (fr_tr (fr_rf _ _) fs105 rfl), (show s105 170 4 ≤ s105 170 5 ∧ s105 170 5 ≤ s105 170 2 ∧ (s105 170 3 = 0 ∧ s105 170 4 = s105 170 2 ∨ 1 ≤ s105 170 3 ∧ s105 170 4 < s105 170 5) ∧ st 170 4 ≤ s105 170 4 from by omega), (show jR st s105 from (jR_tr (s1 := st) (jR_rf _) (jR_fr rfl fs105))), (show bR st s105 from (bR_tr (s1 := st) (bR_rf _) (bR_fr rfl fs105))), (show s105 170 8 = 0 → TS s105 ∧ s105 170 34 ≤ s105 170 4 from fun z => absurd z (by omega))⟩
  have g119 := g_signAt hG
  have g120 := g_signEnd hG
  have g121 := g_size hG
  have g122 := g_sign hG
  have g123 := g_faultKind hG
  have g124 := g_codes hG
  have g125 := g_in hG
  have g126 := g_bank hG
  refine yr1_ok (Rt := Q) (wc := (wcL [(199, k_counts), (0, k_between), (203, k_knownBut), (200, k_mustJ), (188, k_number)])) (stp := [20, 49, 103, 114]) hcm hcl [] 111 ?_
  show ((0 ≤ st 170 35 ∧ st 170 35 < 2) ∧ ((¬ st 178 (st 170 35 : Int).toNat = (20 : Int) → K (rx_find rx_m206 20) [(0, .inr (.inr (.inl 170)))] [.inl 0, .inr (.inr (.inl 170))] st) ∧ (¬ (¬ st 178 (st 170 35 : Int).toNat = (20 : Int)) → K (rx_find rx_m206 20) [(0, .inr (.inr (.inl 170)))] [.inl 1, .inr (.inr (.inl 170))] st)))
  have g127 := g_steps hG (st 170 35 : Int).toNat
  refine ⟨by omega, ?_⟩
  refine ⟨fun h128 => ?_, fun h128 => ?_⟩
  · exact m20 0 (show ((0 : Int) = 0 ∨ (0 : Int) = 1) ∧ ((0 : Int) = 0 → st 178 (st 170 35 : Int).toNat < 20) from by omega)
  · exact m20 1 (show ((1 : Int) = 0 ∨ (1 : Int) = 1) ∧ ((1 : Int) = 0 → st 178 (st 170 35 : Int).toNat < 20) from by omega)
theorem k_xstepping_m (hTb : aTb zSh rx_tb cl) {D : Nat} (hD : 4 ≤ D) : ∀ as st (Q Q' : zQ), (∀ r st', Q r st' → Q' r st') → k_xstepping 206 as st Q → cl D 206 as st Q' := by
  intro as st Q Q' hQ h
  unfold k_xstepping at h
  split at h
  · obtain ⟨rfl, h⟩ := h
    exact c_xstepping hTb hD (ct_xstepping_m hQ h)
  · exact h.elim
set_option maxHeartbeats 4000000 in
set_option maxRecDepth 100000 in
theorem c_xreading (hTb : aTb zSh rx_tb cl) {D : Nat} (hD : 6 ≤ D) {k : Int} {st : zS} {Q : zQ} (h : ct_xreading k st Q) : cl D 208 [.inr (.inr (.inl 170)), .inl k] st Q := by
  obtain ⟨d, rfl⟩ : ∃ d, D = d + 1 := ⟨D - 1, by omega⟩
  refine hTb d 208 (rx_m208, 3, 0, 0, 0) rfl _ _ _ (Nat.le_of_ble_eq_true rfl) (fun K hcl hsf hsl => ?_)
  have hcm : zmo (wcL [(199, k_counts), (198, k_reads)]) (cl d) := (wcL_m (wm_cons (k_counts_m hTb (by omega)) (wm_cons (k_reads_m hTb (by omega)) wm_nil)))
  obtain ⟨hR, hQ⟩ := h
  obtain ⟨hG, lx, ts, q, bk, hh⟩ := hR
  change st 170 4 ≤ st 170 5 ∧ st 170 5 ≤ st 170 2 ∧ (st 170 3 = 0 ∧ st 170 4 = st 170 2 ∨ 1 ≤ st 170 3 ∧ st 170 4 < st 170 5) at lx
  change TS st at ts
  change st 170 8 = 0 ∧ st 170 34 ≤ st 170 4 ∧ 1 ≤ st 170 3 at q
  change st 170 35 = 1 - st 170 13 at bk
  change k = 0 ∨ k = 1 at hh
  have m25 : ∀ (x : Int) (k2 : Int), ((x = 0 ∨ x = 1) ∧ k2 = 2 * st 170 35 + k) → K (rx_find rx_m208 25) [(2, .inl k2), (0, .inr (.inr (.inl 170))), (1, .inl k)] [.inl x, .inr (.inr (.inl 170))] st := by
    intro x k2 hi
    have fl_m25 := hi
    have g1 := g_in hG
    have g2 := g_codes hG
    have g3 := g_bank hG
    have g4 := g_faultKind hG
    have g5 := g_signAt hG
    have g6 := g_signEnd hG
    have g7 := g_size hG
    have g8 := g_sign hG
    refine yr1_ok (Rt := Q) (wc := (wcL [(199, k_counts), (198, k_reads)])) (stp := [25]) hcm hcl [] 69 ?_
    show (170 = 170 ∧ (rq_counts x st ∧ (∀ (r9 : Int) (s9 : zS), en_counts x st r9 s9 → ((¬ r9 = (0 : Int) → ((¬ k = (1 : Int) → ((0 = (0 : Int) ∨ 0 = (1 : Int)) ∧ ((0 ≤ k2 ∧ k2 < 4) ∧ ((¬ k = (1 : Int) → (170 = 170 ∧ (rq_reads (0) (zup (zup s9 170 36 0) 186 (k2 : Int).toNat (s9 170 34)) ∧ (∀ (s10 : zS), en_reads (0) (zup (zup s9 170 36 0) 186 (k2 : Int).toNat (s9 170 34)) s10 → ((0 ≤ k2 ∧ k2 < 4) ∧ Q none (zup s10 187 (k2 : Int).toNat (s10 170 34))))))) ∧ (¬ (¬ k = (1 : Int)) → (170 = 170 ∧ (rq_reads (1) (zup (zup s9 170 36 0) 186 (k2 : Int).toNat (s9 170 34)) ∧ (∀ (s11 : zS), en_reads (1) (zup (zup s9 170 36 0) 186 (k2 : Int).toNat (s9 170 34)) s11 → ((0 ≤ k2 ∧ k2 < 4) ∧ Q none (zup s11 187 (k2 : Int).toNat (s11 170 34))))))))))) ∧ (¬ (¬ k = (1 : Int)) → ((1 = (0 : Int) ∨ 1 = (1 : Int)) ∧ ((0 ≤ k2 ∧ k2 < 4) ∧ ((¬ k = (1 : Int) → (170 = 170 ∧ (rq_reads (0) (zup (zup s9 170 36 1) 186 (k2 : Int).toNat (s9 170 34)) ∧ (∀ (s12 : zS), en_reads (0) (zup (zup s9 170 36 1) 186 (k2 : Int).toNat (s9 170 34)) s12 → ((0 ≤ k2 ∧ k2 < 4) ∧ Q none (zup s12 187 (k2 : Int).toNat (s12 170 34))))))) ∧ (¬ (¬ k = (1 : Int)) → (170 = 170 ∧ (rq_reads (1) (zup (zup s9 170 36 1) 186 (k2 : Int).toNat (s9 170 34)) ∧ (∀ (s13 : zS), en_reads (1) (zup (zup s9 170 36 1) 186 (k2 : Int).toNat (s9 170 34)) s13 → ((0 ≤ k2 ∧ k2 < 4) ∧ Q none (zup s13 187 (k2 : Int).toNat (s13 170 34))))))))))))) ∧ (¬ (¬ r9 = (0 : Int)) → Q none s9)))))
    refine ⟨rfl, ⟨hG, (show st 170 4 ≤ st 170 5 ∧ st 170 5 ≤ st 170 2 ∧ (st 170 3 = 0 ∧ st 170 4 = st 170 2 ∨ 1 ≤ st 170 3 ∧ st 170 4 < st 170 5) from by omega)⟩, fun r9 s9 q9 => ?_⟩
    obtain ⟨gs9, fs9, p9, v9⟩ := q9
    change s9 170 4 ≤ s9 170 5 ∧ s9 170 5 ≤ s9 170 2 ∧ (s9 170 3 = 0 ∧ s9 170 4 = s9 170 2 ∨ 1 ≤ s9 170 3 ∧ s9 170 4 < s9 170 5) ∧ st 170 4 ≤ s9 170 4 ∧ (s9 170 8 = 0 → st 170 8 = 0 ∧ st 170 5 ≤ s9 170 4 ∧ x = 0) at p9
    have g14 := g_signAt gs9
    have g15 := g_signEnd gs9
    have e16 : s9 170 2 = st 170 2 := fs9 170 2 rfl rfl
    have g17 := g_sign gs9
    have g18 := g_faultKind gs9
    change (r9 = 0 ∨ r9 = 1) ∧ (r9 = 1 ↔ s9 170 8 = 0) at v9
    refine ⟨fun h19 => ?_, fun h19 => ?_⟩
    · refine ⟨fun h20 => ?_, fun h20 => ?_⟩
      · refine ⟨by omega, ?_⟩
        have e21 : s9 170 34 = st 170 34 := fs9 170 34 rfl rfl
        refine ⟨by omega, ?_⟩
        refine ⟨fun h22 => ?_, fun h22 => ?_⟩
        · have e23 : s9 170 35 = st 170 35 := fs9 170 35 rfl rfl
          have g26 := g_sumFrom hG (2 * st 170 35 + 0 : Int).toNat
          have e25 : s9 186 (2 * s9 170 35 + 0 : Int).toNat = st 186 (2 * st 170 35 + 0 : Int).toNat := (fs9 186 (2 * s9 170 35 + 0 : Int).toNat rfl rfl).trans (by rw [e23] <;> rfl)
          have u24 : ((2 * s9 170 35 + 0 : Int).toNat = (k2 : Int).toNat → (zup (zup s9 170 36 0) 186 (k2 : Int).toNat (s9 170 34)) 186 (2 * s9 170 35 + 0 : Int).toNat = (s9 170 34)) ∧ (¬ (2 * s9 170 35 + 0 : Int).toNat = (k2 : Int).toNat → (zup (zup s9 170 36 0) 186 (k2 : Int).toNat (s9 170 34)) 186 (2 * s9 170 35 + 0 : Int).toNat = s9 186 (2 * s9 170 35 + 0 : Int).toNat) := zup_two _ _ _ _ _
          refine ⟨rfl, ⟨(gInv_up (gInv_up gs9 (p_isClever (by omega))) (p_sumFrom (by omega))), (show s9 170 4 ≤ s9 170 5 ∧ s9 170 5 ≤ s9 170 2 ∧ (s9 170 3 = 0 ∧ s9 170 4 = s9 170 2 ∨ 1 ≤ s9 170 3 ∧ s9 170 4 < s9 170 5) from by omega), (show s9 170 34 ≤ s9 170 4 ∧ (zup (zup s9 170 36 0) 186 (k2 : Int).toNat (s9 170 34)) 186 (2 * s9 170 35 + 0 : Int).toNat = s9 170 34 from by omega), (show (0) = 0 ∨ (0) = 1 from by omega)⟩, fun s10 q10 => ?_⟩
          obtain ⟨gs10, fs10, p10, e10, o10, c10⟩ := q10
          change s10 170 4 ≤ s10 170 5 ∧ s10 170 5 ≤ s10 170 2 ∧ (s10 170 3 = 0 ∧ s10 170 4 = s10 170 2 ∨ 1 ≤ s10 170 3 ∧ s10 170 4 < s10 170 5) ∧ s9 170 4 ≤ s10 170 4 ∧ (0 < s9 170 8 → 0 < s10 170 8) at p10
          have g27 := g_signAt gs10
          have g28 := g_signEnd gs10
          have e29 : s10 170 2 = s9 170 2 := fs10 170 2 rfl rfl
          have g30 := g_sign gs10
          have g31 := g_faultKind gs10
          change s10 170 8 = 0 → cgd (s10 188) (1600 * s9 170 35 + s9 170 34) (1600 * s9 170 35 + s10 170 34) ∧ s10 170 34 ≤ s10 170 4 at e10
          have g32 := g_codes gs10
          change ∀ i : Nat, (i : Int) < 1600 * s9 170 35 + s9 170 34 ∨ 1600 * s9 170 35 + 1600 ≤ (i : Int) → s10 188 i = (zup (zup s9 170 36 0) 186 (k2 : Int).toNat (s9 170 34)) 188 i at o10
          change s9 170 34 ≤ s10 170 34 at c10
          refine ⟨by omega, ?_⟩
          have e33 : s10 170 35 = s9 170 35 := fs10 170 35 rfl rfl
          have e35 : s9 170 13 = st 170 13 := fs9 170 13 rfl rfl
          have e34 : s10 170 13 = s9 170 13 := fs10 170 13 rfl rfl
          exact hQ _ ⟨(gInv_up gs10 (p_sumBehind (by omega))), (fr_a (fr_tr (fr_a (fr_f (fr_tr (fr_rf _ _) fs9 rfl) rfl) rfl) fs10 rfl) rfl), (show s10 170 4 ≤ s10 170 5 ∧ s10 170 5 ≤ s10 170 2 ∧ (s10 170 3 = 0 ∧ s10 170 4 = s10 170 2 ∨ 1 ≤ s10 170 3 ∧ s10 170 4 < s10 170 5) ∧ st 170 4 ≤ s10 170 4 from by omega), (show jR st (zup s10 187 (k2 : Int).toNat (s10 170 34)) from jR_up (jR_tr (s1 := (zup (zup s9 170 36 0) 186 (k2 : Int).toNat (s9 170 34))) (jR_up (jR_up (jR_tr (s1 := st) (jR_rf _) (jR_fr rfl fs9)) (by unfold jrel; omega)) (by unfold jrel; omega)) (fun c i hr => by
            have hr : jrel (s9 170 13) c i := hr
            by_cases z1 : c = 188
            · subst z1
              exact o10 i (by unfold jrel at hr; omega)
            · exact fs10 c i (rmask_f z1 (jrel_j hr)) (rmask_a z1 (jrel_j hr)))) (by unfold jrel; omega)), (show bR st (zup s10 187 (k2 : Int).toNat (s10 170 34)) from (bR_up (bR_tr (s1 := (zup (zup s9 170 36 0) 186 (k2 : Int).toNat (s9 170 34))) (bR_up (bR_up (bR_tr (s1 := st) (bR_rf _) (bR_fr rfl fs9)) (by unfold brel; omega)) (by unfold brel; omega)) (bR_fr rfl fs10)) (by unfold brel; omega))), (show s10 170 8 = 0 → TS (zup s10 187 (k2 : Int).toNat (s10 170 34)) ∧ s10 170 34 ≤ s10 170 4 from fun z => by
          have z0 := e10 z
          refine ⟨TS_rd (w := k) (s1 := s9) (TS_fr rfl fs9 ts) (by omega) (fun i => fs10 172 i rfl rfl) (fun i => fs10 173 i rfl rfl) (fun i => fs10 176 i rfl rfl) (fun i => fs10 177 i rfl rfl) (fun i => fs10 178 i rfl rfl) (fun i => fs10 179 i rfl rfl) (fun i => fs10 186 i rfl rfl) (fun i => fs10 187 i rfl rfl) (by omega) (by omega) (fun i => (g_sumFrom gs9 i).1) (by omega) (by omega) (fun i hi => o10 i (by omega)) z0.1 (by omega), by omega⟩)⟩
        · have e36 : s9 170 35 = st 170 35 := fs9 170 35 rfl rfl
          have g39 := g_sumFrom hG (2 * st 170 35 + 0 : Int).toNat
          have e38 : s9 186 (2 * s9 170 35 + 0 : Int).toNat = st 186 (2 * st 170 35 + 0 : Int).toNat := (fs9 186 (2 * s9 170 35 + 0 : Int).toNat rfl rfl).trans (by rw [e36] <;> rfl)
          have u37 : ((2 * s9 170 35 + 0 : Int).toNat = (k2 : Int).toNat → (zup (zup s9 170 36 0) 186 (k2 : Int).toNat (s9 170 34)) 186 (2 * s9 170 35 + 0 : Int).toNat = (s9 170 34)) ∧ (¬ (2 * s9 170 35 + 0 : Int).toNat = (k2 : Int).toNat → (zup (zup s9 170 36 0) 186 (k2 : Int).toNat (s9 170 34)) 186 (2 * s9 170 35 + 0 : Int).toNat = s9 186 (2 * s9 170 35 + 0 : Int).toNat) := zup_two _ _ _ _ _
          refine ⟨rfl, ⟨(gInv_up (gInv_up gs9 (p_isClever (by omega))) (p_sumFrom (by omega))), (show s9 170 4 ≤ s9 170 5 ∧ s9 170 5 ≤ s9 170 2 ∧ (s9 170 3 = 0 ∧ s9 170 4 = s9 170 2 ∨ 1 ≤ s9 170 3 ∧ s9 170 4 < s9 170 5) from by omega), (show s9 170 34 ≤ s9 170 4 ∧ (zup (zup s9 170 36 0) 186 (k2 : Int).toNat (s9 170 34)) 186 (2 * s9 170 35 + 0 : Int).toNat = s9 170 34 from by omega), (show (1) = 0 ∨ (1) = 1 from by omega)⟩, fun s11 q11 => ?_⟩
          obtain ⟨gs11, fs11, p11, e11, o11, c11⟩ := q11
          change s11 170 4 ≤ s11 170 5 ∧ s11 170 5 ≤ s11 170 2 ∧ (s11 170 3 = 0 ∧ s11 170 4 = s11 170 2 ∨ 1 ≤ s11 170 3 ∧ s11 170 4 < s11 170 5) ∧ s9 170 4 ≤ s11 170 4 ∧ (0 < s9 170 8 → 0 < s11 170 8) at p11
          have g40 := g_signAt gs11
          have g41 := g_signEnd gs11
          have e42 : s11 170 2 = s9 170 2 := fs11 170 2 rfl rfl
          have g43 := g_sign gs11
          have g44 := g_faultKind gs11
          change s11 170 8 = 0 → cgd (s11 188) (1600 * s9 170 35 + s9 170 34) (1600 * s9 170 35 + s11 170 34) ∧ s11 170 34 ≤ s11 170 4 at e11
          have g45 := g_codes gs11
          change ∀ i : Nat, (i : Int) < 1600 * s9 170 35 + s9 170 34 ∨ 1600 * s9 170 35 + 1600 ≤ (i : Int) → s11 188 i = (zup (zup s9 170 36 0) 186 (k2 : Int).toNat (s9 170 34)) 188 i at o11
          change s9 170 34 ≤ s11 170 34 at c11
          refine ⟨by omega, ?_⟩
          have e46 : s11 170 35 = s9 170 35 := fs11 170 35 rfl rfl
          have e48 : s9 170 13 = st 170 13 := fs9 170 13 rfl rfl
          have e47 : s11 170 13 = s9 170 13 := fs11 170 13 rfl rfl
          exact hQ _ ⟨(gInv_up gs11 (p_sumBehind (by omega))), (fr_a (fr_tr (fr_a (fr_f (fr_tr (fr_rf _ _) fs9 rfl) rfl) rfl) fs11 rfl) rfl), (show s11 170 4 ≤ s11 170 5 ∧ s11 170 5 ≤ s11 170 2 ∧ (s11 170 3 = 0 ∧ s11 170 4 = s11 170 2 ∨ 1 ≤ s11 170 3 ∧ s11 170 4 < s11 170 5) ∧ st 170 4 ≤ s11 170 4 from by omega), (show jR st (zup s11 187 (k2 : Int).toNat (s11 170 34)) from jR_up (jR_tr (s1 := (zup (zup s9 170 36 0) 186 (k2 : Int).toNat (s9 170 34))) (jR_up (jR_up (jR_tr (s1 := st) (jR_rf _) (jR_fr rfl fs9)) (by unfold jrel; omega)) (by unfold jrel; omega)) (fun c i hr => by
            have hr : jrel (s9 170 13) c i := hr
            by_cases z1 : c = 188
            · subst z1
              exact o11 i (by unfold jrel at hr; omega)
            · exact fs11 c i (rmask_f z1 (jrel_j hr)) (rmask_a z1 (jrel_j hr)))) (by unfold jrel; omega)), (show bR st (zup s11 187 (k2 : Int).toNat (s11 170 34)) from (bR_up (bR_tr (s1 := (zup (zup s9 170 36 0) 186 (k2 : Int).toNat (s9 170 34))) (bR_up (bR_up (bR_tr (s1 := st) (bR_rf _) (bR_fr rfl fs9)) (by unfold brel; omega)) (by unfold brel; omega)) (bR_fr rfl fs11)) (by unfold brel; omega))), (show s11 170 8 = 0 → TS (zup s11 187 (k2 : Int).toNat (s11 170 34)) ∧ s11 170 34 ≤ s11 170 4 from fun z => by
          have z0 := e11 z
          refine ⟨TS_rd (w := k) (s1 := s9) (TS_fr rfl fs9 ts) (by omega) (fun i => fs11 172 i rfl rfl) (fun i => fs11 173 i rfl rfl) (fun i => fs11 176 i rfl rfl) (fun i => fs11 177 i rfl rfl) (fun i => fs11 178 i rfl rfl) (fun i => fs11 179 i rfl rfl) (fun i => fs11 186 i rfl rfl) (fun i => fs11 187 i rfl rfl) (by omega) (by omega) (fun i => (g_sumFrom gs9 i).1) (by omega) (by omega) (fun i hi => o11 i (by omega)) z0.1 (by omega), by omega⟩)⟩
      · refine ⟨by omega, ?_⟩
        have e49 : s9 170 34 = st 170 34 := fs9 170 34 rfl rfl
        refine ⟨by omega, ?_⟩
        refine ⟨fun h50 => ?_, fun h50 => ?_⟩
        · have e51 : s9 170 35 = st 170 35 := fs9 170 35 rfl rfl
          have g54 := g_sumFrom hG (2 * st 170 35 + 1 : Int).toNat
          have e53 : s9 186 (2 * s9 170 35 + 1 : Int).toNat = st 186 (2 * st 170 35 + 1 : Int).toNat := (fs9 186 (2 * s9 170 35 + 1 : Int).toNat rfl rfl).trans (by rw [e51] <;> rfl)
          have u52 : ((2 * s9 170 35 + 1 : Int).toNat = (k2 : Int).toNat → (zup (zup s9 170 36 1) 186 (k2 : Int).toNat (s9 170 34)) 186 (2 * s9 170 35 + 1 : Int).toNat = (s9 170 34)) ∧ (¬ (2 * s9 170 35 + 1 : Int).toNat = (k2 : Int).toNat → (zup (zup s9 170 36 1) 186 (k2 : Int).toNat (s9 170 34)) 186 (2 * s9 170 35 + 1 : Int).toNat = s9 186 (2 * s9 170 35 + 1 : Int).toNat) := zup_two _ _ _ _ _
          refine ⟨rfl, ⟨(gInv_up (gInv_up gs9 (p_isClever (by omega))) (p_sumFrom (by omega))), (show s9 170 4 ≤ s9 170 5 ∧ s9 170 5 ≤ s9 170 2 ∧ (s9 170 3 = 0 ∧ s9 170 4 = s9 170 2 ∨ 1 ≤ s9 170 3 ∧ s9 170 4 < s9 170 5) from by omega), (show s9 170 34 ≤ s9 170 4 ∧ (zup (zup s9 170 36 1) 186 (k2 : Int).toNat (s9 170 34)) 186 (2 * s9 170 35 + 1 : Int).toNat = s9 170 34 from by omega), (show (0) = 0 ∨ (0) = 1 from by omega)⟩, fun s12 q12 => ?_⟩
          obtain ⟨gs12, fs12, p12, e12, o12, c12⟩ := q12
          change s12 170 4 ≤ s12 170 5 ∧ s12 170 5 ≤ s12 170 2 ∧ (s12 170 3 = 0 ∧ s12 170 4 = s12 170 2 ∨ 1 ≤ s12 170 3 ∧ s12 170 4 < s12 170 5) ∧ s9 170 4 ≤ s12 170 4 ∧ (0 < s9 170 8 → 0 < s12 170 8) at p12
          have g55 := g_signAt gs12
          have g56 := g_signEnd gs12
          have e57 : s12 170 2 = s9 170 2 := fs12 170 2 rfl rfl
          have g58 := g_sign gs12
          have g59 := g_faultKind gs12
          change s12 170 8 = 0 → cgd (s12 188) (1600 * s9 170 35 + s9 170 34) (1600 * s9 170 35 + s12 170 34) ∧ s12 170 34 ≤ s12 170 4 at e12
          have g60 := g_codes gs12
          change ∀ i : Nat, (i : Int) < 1600 * s9 170 35 + s9 170 34 ∨ 1600 * s9 170 35 + 1600 ≤ (i : Int) → s12 188 i = (zup (zup s9 170 36 1) 186 (k2 : Int).toNat (s9 170 34)) 188 i at o12
          change s9 170 34 ≤ s12 170 34 at c12
          refine ⟨by omega, ?_⟩
          have e61 : s12 170 35 = s9 170 35 := fs12 170 35 rfl rfl
          have e63 : s9 170 13 = st 170 13 := fs9 170 13 rfl rfl
          have e62 : s12 170 13 = s9 170 13 := fs12 170 13 rfl rfl
          exact hQ _ ⟨(gInv_up gs12 (p_sumBehind (by omega))), (fr_a (fr_tr (fr_a (fr_f (fr_tr (fr_rf _ _) fs9 rfl) rfl) rfl) fs12 rfl) rfl), (show s12 170 4 ≤ s12 170 5 ∧ s12 170 5 ≤ s12 170 2 ∧ (s12 170 3 = 0 ∧ s12 170 4 = s12 170 2 ∨ 1 ≤ s12 170 3 ∧ s12 170 4 < s12 170 5) ∧ st 170 4 ≤ s12 170 4 from by omega), (show jR st (zup s12 187 (k2 : Int).toNat (s12 170 34)) from jR_up (jR_tr (s1 := (zup (zup s9 170 36 1) 186 (k2 : Int).toNat (s9 170 34))) (jR_up (jR_up (jR_tr (s1 := st) (jR_rf _) (jR_fr rfl fs9)) (by unfold jrel; omega)) (by unfold jrel; omega)) (fun c i hr => by
            have hr : jrel (s9 170 13) c i := hr
            by_cases z1 : c = 188
            · subst z1
              exact o12 i (by unfold jrel at hr; omega)
            · exact fs12 c i (rmask_f z1 (jrel_j hr)) (rmask_a z1 (jrel_j hr)))) (by unfold jrel; omega)), (show bR st (zup s12 187 (k2 : Int).toNat (s12 170 34)) from (bR_up (bR_tr (s1 := (zup (zup s9 170 36 1) 186 (k2 : Int).toNat (s9 170 34))) (bR_up (bR_up (bR_tr (s1 := st) (bR_rf _) (bR_fr rfl fs9)) (by unfold brel; omega)) (by unfold brel; omega)) (bR_fr rfl fs12)) (by unfold brel; omega))), (show s12 170 8 = 0 → TS (zup s12 187 (k2 : Int).toNat (s12 170 34)) ∧ s12 170 34 ≤ s12 170 4 from fun z => by
          have z0 := e12 z
          refine ⟨TS_rd (w := k) (s1 := s9) (TS_fr rfl fs9 ts) (by omega) (fun i => fs12 172 i rfl rfl) (fun i => fs12 173 i rfl rfl) (fun i => fs12 176 i rfl rfl) (fun i => fs12 177 i rfl rfl) (fun i => fs12 178 i rfl rfl) (fun i => fs12 179 i rfl rfl) (fun i => fs12 186 i rfl rfl) (fun i => fs12 187 i rfl rfl) (by omega) (by omega) (fun i => (g_sumFrom gs9 i).1) (by omega) (by omega) (fun i hi => o12 i (by omega)) z0.1 (by omega), by omega⟩)⟩
        · have e64 : s9 170 35 = st 170 35 := fs9 170 35 rfl rfl
          have g67 := g_sumFrom hG (2 * st 170 35 + 1 : Int).toNat
          have e66 : s9 186 (2 * s9 170 35 + 1 : Int).toNat = st 186 (2 * st 170 35 + 1 : Int).toNat := (fs9 186 (2 * s9 170 35 + 1 : Int).toNat rfl rfl).trans (by rw [e64] <;> rfl)
          have u65 : ((2 * s9 170 35 + 1 : Int).toNat = (k2 : Int).toNat → (zup (zup s9 170 36 1) 186 (k2 : Int).toNat (s9 170 34)) 186 (2 * s9 170 35 + 1 : Int).toNat = (s9 170 34)) ∧ (¬ (2 * s9 170 35 + 1 : Int).toNat = (k2 : Int).toNat → (zup (zup s9 170 36 1) 186 (k2 : Int).toNat (s9 170 34)) 186 (2 * s9 170 35 + 1 : Int).toNat = s9 186 (2 * s9 170 35 + 1 : Int).toNat) := zup_two _ _ _ _ _
          refine ⟨rfl, ⟨(gInv_up (gInv_up gs9 (p_isClever (by omega))) (p_sumFrom (by omega))), (show s9 170 4 ≤ s9 170 5 ∧ s9 170 5 ≤ s9 170 2 ∧ (s9 170 3 = 0 ∧ s9 170 4 = s9 170 2 ∨ 1 ≤ s9 170 3 ∧ s9 170 4 < s9 170 5) from by omega), (show s9 170 34 ≤ s9 170 4 ∧ (zup (zup s9 170 36 1) 186 (k2 : Int).toNat (s9 170 34)) 186 (2 * s9 170 35 + 1 : Int).toNat = s9 170 34 from by omega), (show (1) = 0 ∨ (1) = 1 from by omega)⟩, fun s13 q13 => ?_⟩
          obtain ⟨gs13, fs13, p13, e13, o13, c13⟩ := q13
          change s13 170 4 ≤ s13 170 5 ∧ s13 170 5 ≤ s13 170 2 ∧ (s13 170 3 = 0 ∧ s13 170 4 = s13 170 2 ∨ 1 ≤ s13 170 3 ∧ s13 170 4 < s13 170 5) ∧ s9 170 4 ≤ s13 170 4 ∧ (0 < s9 170 8 → 0 < s13 170 8) at p13
          have g68 := g_signAt gs13
          have g69 := g_signEnd gs13
          have e70 : s13 170 2 = s9 170 2 := fs13 170 2 rfl rfl
          have g71 := g_sign gs13
          have g72 := g_faultKind gs13
          change s13 170 8 = 0 → cgd (s13 188) (1600 * s9 170 35 + s9 170 34) (1600 * s9 170 35 + s13 170 34) ∧ s13 170 34 ≤ s13 170 4 at e13
          have g73 := g_codes gs13
          change ∀ i : Nat, (i : Int) < 1600 * s9 170 35 + s9 170 34 ∨ 1600 * s9 170 35 + 1600 ≤ (i : Int) → s13 188 i = (zup (zup s9 170 36 1) 186 (k2 : Int).toNat (s9 170 34)) 188 i at o13
          change s9 170 34 ≤ s13 170 34 at c13
          refine ⟨by omega, ?_⟩
          have e74 : s13 170 35 = s9 170 35 := fs13 170 35 rfl rfl
          have e76 : s9 170 13 = st 170 13 := fs9 170 13 rfl rfl
          have e75 : s13 170 13 = s9 170 13 := fs13 170 13 rfl rfl
          exact hQ _ ⟨(gInv_up gs13 (p_sumBehind (by omega))), (fr_a (fr_tr (fr_a (fr_f (fr_tr (fr_rf _ _) fs9 rfl) rfl) rfl) fs13 rfl) rfl), (show s13 170 4 ≤ s13 170 5 ∧ s13 170 5 ≤ s13 170 2 ∧ (s13 170 3 = 0 ∧ s13 170 4 = s13 170 2 ∨ 1 ≤ s13 170 3 ∧ s13 170 4 < s13 170 5) ∧ st 170 4 ≤ s13 170 4 from by omega), (show jR st (zup s13 187 (k2 : Int).toNat (s13 170 34)) from jR_up (jR_tr (s1 := (zup (zup s9 170 36 1) 186 (k2 : Int).toNat (s9 170 34))) (jR_up (jR_up (jR_tr (s1 := st) (jR_rf _) (jR_fr rfl fs9)) (by unfold jrel; omega)) (by unfold jrel; omega)) (fun c i hr => by
            have hr : jrel (s9 170 13) c i := hr
            by_cases z1 : c = 188
            · subst z1
              exact o13 i (by unfold jrel at hr; omega)
            · exact fs13 c i (rmask_f z1 (jrel_j hr)) (rmask_a z1 (jrel_j hr)))) (by unfold jrel; omega)), (show bR st (zup s13 187 (k2 : Int).toNat (s13 170 34)) from (bR_up (bR_tr (s1 := (zup (zup s9 170 36 1) 186 (k2 : Int).toNat (s9 170 34))) (bR_up (bR_up (bR_tr (s1 := st) (bR_rf _) (bR_fr rfl fs9)) (by unfold brel; omega)) (by unfold brel; omega)) (bR_fr rfl fs13)) (by unfold brel; omega))), (show s13 170 8 = 0 → TS (zup s13 187 (k2 : Int).toNat (s13 170 34)) ∧ s13 170 34 ≤ s13 170 4 from fun z => by
          have z0 := e13 z
          refine ⟨TS_rd (w := k) (s1 := s9) (TS_fr rfl fs9 ts) (by omega) (fun i => fs13 172 i rfl rfl) (fun i => fs13 173 i rfl rfl) (fun i => fs13 176 i rfl rfl) (fun i => fs13 177 i rfl rfl) (fun i => fs13 178 i rfl rfl) (fun i => fs13 179 i rfl rfl) (fun i => fs13 186 i rfl rfl) (fun i => fs13 187 i rfl rfl) (by omega) (by omega) (fun i => (g_sumFrom gs9 i).1) (by omega) (by omega) (fun i hi => o13 i (by omega)) z0.1 (by omega), by omega⟩)⟩
    · have e77 : s9 170 34 = st 170 34 := fs9 170 34 rfl rfl
      exact hQ _ ⟨gs9, (fr_tr (fr_rf _ _) fs9 rfl), (show s9 170 4 ≤ s9 170 5 ∧ s9 170 5 ≤ s9 170 2 ∧ (s9 170 3 = 0 ∧ s9 170 4 = s9 170 2 ∨ 1 ≤ s9 170 3 ∧ s9 170 4 < s9 170 5) ∧ st 170 4 ≤ s9 170 4 from by omega), (show jR st s9 from (jR_tr (s1 := st) (jR_rf _) (jR_fr rfl fs9))), (show bR st s9 from (bR_tr (s1 := st) (bR_rf _) (bR_fr rfl fs9))), (show s9 170 8 = 0 → TS s9 ∧ s9 170 34 ≤ s9 170 4 from fun z => absurd z (by omega))⟩
  have g78 := g_signAt hG
  have g79 := g_signEnd hG
  have g80 := g_size hG
  have g81 := g_sign hG
  have g82 := g_faultKind hG
  have g83 := g_codes hG
  have g84 := g_in hG
  have g85 := g_bank hG
  refine yr1_ok (Rt := Q) (wc := (wcL [(199, k_counts), (198, k_reads)])) (stp := [25]) hcm hcl [] 69 ?_
  show ((-2147483648 ≤ (2 : Int) * (st 170 35) ∧ (2 : Int) * (st 170 35) ≤ 2147483647) ∧ ((-2147483648 ≤ ((2 : Int) * (st 170 35)) + k ∧ ((2 : Int) * (st 170 35)) + k ≤ 2147483647) ∧ ((0 ≤ ((2 : Int) * (st 170 35)) + k ∧ ((2 : Int) * (st 170 35)) + k < 4) ∧ ((st 186 (((2 : Int) * (st 170 35)) + k : Int).toNat = ((-1) : Int) → K (rx_find rx_m208 25) [(2, .inl (((2 : Int) * (st 170 35)) + k)), (0, .inr (.inr (.inl 170))), (1, .inl k)] [.inl 0, .inr (.inr (.inl 170))] st) ∧ (¬ (st 186 (((2 : Int) * (st 170 35)) + k : Int).toNat = ((-1) : Int)) → K (rx_find rx_m208 25) [(2, .inl (((2 : Int) * (st 170 35)) + k)), (0, .inr (.inr (.inl 170))), (1, .inl k)] [.inl 1, .inr (.inr (.inl 170))] st)))))
  refine ⟨by omega, ?_⟩
  refine ⟨by omega, ?_⟩
  have g86 := g_sumFrom hG (((2 : Int) * (st 170 35)) + k : Int).toNat
  refine ⟨by omega, ?_⟩
  refine ⟨fun h87 => ?_, fun h87 => ?_⟩
  · exact m25 0 (((2 : Int) * (st 170 35)) + k) (show ((0 : Int) = 0 ∨ (0 : Int) = 1) ∧ (((2 : Int) * (st 170 35)) + k) = 2 * st 170 35 + k from by omega)
  · exact m25 1 (((2 : Int) * (st 170 35)) + k) (show ((1 : Int) = 0 ∨ (1 : Int) = 1) ∧ (((2 : Int) * (st 170 35)) + k) = 2 * st 170 35 + k from by omega)
theorem k_xreading_m (hTb : aTb zSh rx_tb cl) {D : Nat} (hD : 6 ≤ D) : ∀ as st (Q Q' : zQ), (∀ r st', Q r st' → Q' r st') → k_xreading 208 as st Q → cl D 208 as st Q' := by
  intro as st Q Q' hQ h
  unfold k_xreading at h
  split at h
  · obtain ⟨rfl, h⟩ := h
    exact c_xreading hTb hD (ct_xreading_m hQ h)
  · exact h.elim
end R6g
/-! printed by wip/p32/lib9.py: a statement and its end -/
section R6h
variable {cl : Nat → zCall}
set_option maxHeartbeats 4000000 in
set_option maxRecDepth 100000 in
theorem c_xstatement (hTb : aTb zSh rx_tb cl) {D : Nat} (hD : 7 ≤ D) {st : zS} {Q : zQ} (h : ct_xstatement  st Q) : cl D 210 [.inr (.inr (.inl 170))] st Q := by
  obtain ⟨d, rfl⟩ : ∃ d, D = d + 1 := ⟨D - 1, by omega⟩
  refine hTb d 210 (rx_m210, 1, 0, 0, 0) rfl _ _ _ (Nat.le_of_ble_eq_true rfl) (fun K hcl hsf hsl => ?_)
  have hcm : zmo (wcL [(181, k_lex), (183, k_isWord), (204, k_xplacing), (205, k_xstreeting), (206, k_xstepping), (207, k_xthinging), (208, k_xreading), (209, k_xheating), (178, k_blame)]) (cl d) := (wcL_m (wm_cons (k_lex_m hTb (by omega)) (wm_cons (k_isWord_m hTb (by omega)) (wm_cons (k_xplacing_m hTb (by omega)) (wm_cons (k_xstreeting_m hTb (by omega)) (wm_cons (k_xstepping_m hTb (by omega)) (wm_cons (k_xthinging_m hTb (by omega)) (wm_cons (k_xreading_m hTb (by omega)) (wm_cons (k_xheating_m hTb (by omega)) (wm_cons (k_blame_m hTb (by omega)) wm_nil))))))))))
  obtain ⟨hR, hQ⟩ := h
  obtain ⟨hG, lx, ts, q, bk⟩ := hR
  change st 170 4 ≤ st 170 5 ∧ st 170 5 ≤ st 170 2 ∧ (st 170 3 = 0 ∧ st 170 4 = st 170 2 ∨ 1 ≤ st 170 3 ∧ st 170 4 < st 170 5) at lx
  change TS st at ts
  change st 170 8 = 0 ∧ st 170 34 ≤ st 170 4 ∧ 1 ≤ st 170 3 at q
  change st 170 35 = 1 - st 170 13 at bk
  have g1 := g_signAt hG
  have g2 := g_signEnd hG
  have g3 := g_size hG
  have g4 := g_sign hG
  have g5 := g_faultKind hG
  have g6 := g_codes hG
  have g7 := g_in hG
  have g8 := g_bank hG
  refine yr1_ok (Rt := Q) (wc := (wcL [(181, k_lex), (183, k_isWord), (204, k_xplacing), (205, k_xstreeting), (206, k_xstepping), (207, k_xthinging), (208, k_xreading), (209, k_xheating), (178, k_blame)])) (stp := []) hcm hcl [] 92 ?_
  show (170 = 170 ∧ (rq_lex  st ∧ (∀ (s9 : zS), en_lex  st s9 → ((s9 170 8 ≤ (0 : Int) → (170 = 170 ∧ (∀ (r10 : Int), en_isWord (482854658917) s9 r10 → ((r10 = (0 : Int) → (170 = 170 ∧ (∀ (r11 : Int), en_isWord (126943972648308) s9 r11 → ((r11 = (0 : Int) → (170 = 170 ∧ (∀ (r12 : Int), en_isWord (1937007984) s9 r12 → ((r12 = (0 : Int) → (170 = 170 ∧ (∀ (r13 : Int), en_isWord (499967946343) s9 r13 → ((r13 = (0 : Int) → (170 = 170 ∧ (∀ (r14 : Int), en_isWord (126943688025203) s9 r14 → ((r14 = (0 : Int) → (170 = 170 ∧ (∀ (r15 : Int), en_isWord (109317209875826) s9 r15 → ((r15 = (0 : Int) → (170 = 170 ∧ (∀ (r16 : Int), en_isWord (1751474548) s9 r16 → ((r16 = (0 : Int) → (170 = 170 ∧ (∀ (r17 : Int), en_isWord (6844276) s9 r17 → ((r17 = (0 : Int) → (170 = 170 ∧ (rq_blame (1) (s9 170 4) s9 ∧ (∀ (s18 : zS), en_blame (1) (s9 170 4) s9 s18 → Q none s18)))) ∧ (¬ (r17 = (0 : Int)) → (170 = 170 ∧ (rq_xheating (1) s9 ∧ (∀ (s19 : zS), en_xheating (1) s9 s19 → Q none s19)))))))) ∧ (¬ (r16 = (0 : Int)) → (170 = 170 ∧ (rq_xheating (0) s9 ∧ (∀ (s20 : zS), en_xheating (0) s9 s20 → Q none s20)))))))) ∧ (¬ (r15 = (0 : Int)) → (170 = 170 ∧ (rq_xreading (1) s9 ∧ (∀ (s21 : zS), en_xreading (1) s9 s21 → Q none s21)))))))) ∧ (¬ (r14 = (0 : Int)) → (170 = 170 ∧ (rq_xreading (0) s9 ∧ (∀ (s22 : zS), en_xreading (0) s9 s22 → Q none s22)))))))) ∧ (¬ (r13 = (0 : Int)) → (170 = 170 ∧ (rq_xthinging  s9 ∧ (∀ (s23 : zS), en_xthinging  s9 s23 → Q none s23)))))))) ∧ (¬ (r12 = (0 : Int)) → (170 = 170 ∧ (rq_xstepping  s9 ∧ (∀ (s24 : zS), en_xstepping  s9 s24 → Q none s24)))))))) ∧ (¬ (r11 = (0 : Int)) → (170 = 170 ∧ (rq_xstreeting  s9 ∧ (∀ (s25 : zS), en_xstreeting  s9 s25 → Q none s25)))))))) ∧ (¬ (r10 = (0 : Int)) → (170 = 170 ∧ (rq_xplacing  s9 ∧ (∀ (s26 : zS), en_xplacing  s9 s26 → Q none s26)))))))) ∧ (¬ (s9 170 8 ≤ (0 : Int)) → Q none s9)))))
  refine ⟨rfl, hG, fun s9 q9 => ?_⟩
  obtain ⟨gs9, fs9, p9⟩ := q9
  change 0 < st 170 8 → 0 < s9 170 8 at p9
  have g27 := g_faultKind gs9
  refine ⟨fun h28 => ?_, fun h28 => ?_⟩
  · refine ⟨rfl, fun r10 q10 => ?_⟩
    have b10 := q10
    change (r10 = 0 ∨ r10 = 1) ∧ (r10 = 1 ↔ s9 170 3 = 1 ∧ s9 170 7 = (482854658917)) at b10
    have e29 : s9 170 3 = st 170 3 := fs9 170 3 rfl rfl
    have g31 := g_word hG
    have e30 : s9 170 7 = st 170 7 := fs9 170 7 rfl rfl
    refine ⟨fun h32 => ?_, fun h32 => ?_⟩
    · clear b10
      refine ⟨rfl, fun r11 q11 => ?_⟩
      have b11 := q11
      change (r11 = 0 ∨ r11 = 1) ∧ (r11 = 1 ↔ s9 170 3 = 1 ∧ s9 170 7 = (126943972648308)) at b11
      refine ⟨fun h33 => ?_, fun h33 => ?_⟩
      · clear b11
        refine ⟨rfl, fun r12 q12 => ?_⟩
        have b12 := q12
        change (r12 = 0 ∨ r12 = 1) ∧ (r12 = 1 ↔ s9 170 3 = 1 ∧ s9 170 7 = (1937007984)) at b12
        refine ⟨fun h34 => ?_, fun h34 => ?_⟩
        · clear b12
          refine ⟨rfl, fun r13 q13 => ?_⟩
          have b13 := q13
          change (r13 = 0 ∨ r13 = 1) ∧ (r13 = 1 ↔ s9 170 3 = 1 ∧ s9 170 7 = (499967946343)) at b13
          refine ⟨fun h35 => ?_, fun h35 => ?_⟩
          · clear b13
            refine ⟨rfl, fun r14 q14 => ?_⟩
            have b14 := q14
            change (r14 = 0 ∨ r14 = 1) ∧ (r14 = 1 ↔ s9 170 3 = 1 ∧ s9 170 7 = (126943688025203)) at b14
            refine ⟨fun h36 => ?_, fun h36 => ?_⟩
            · clear b14
              refine ⟨rfl, fun r15 q15 => ?_⟩
              have b15 := q15
              change (r15 = 0 ∨ r15 = 1) ∧ (r15 = 1 ↔ s9 170 3 = 1 ∧ s9 170 7 = (109317209875826)) at b15
              refine ⟨fun h37 => ?_, fun h37 => ?_⟩
              · clear b15
                refine ⟨rfl, fun r16 q16 => ?_⟩
                have b16 := q16
                change (r16 = 0 ∨ r16 = 1) ∧ (r16 = 1 ↔ s9 170 3 = 1 ∧ s9 170 7 = (1751474548)) at b16
                refine ⟨fun h38 => ?_, fun h38 => ?_⟩
                · clear b16
                  refine ⟨rfl, fun r17 q17 => ?_⟩
                  have b17 := q17
                  change (r17 = 0 ∨ r17 = 1) ∧ (r17 = 1 ↔ s9 170 3 = 1 ∧ s9 170 7 = (6844276)) at b17
                  refine ⟨fun h39 => ?_, fun h39 => ?_⟩
                  · clear b17
                    have e40 : s9 170 4 = st 170 4 := fs9 170 4 rfl rfl
                    refine ⟨rfl, ⟨gs9, (show 1 ≤ (1) ∧ (1) ≤ 6 from by omega), (show -2147483648 ≤ (s9 170 4) ∧ (s9 170 4) ≤ 2147483647 from by omega)⟩, fun s18 q18 => ?_⟩
                    obtain ⟨gs18, fs18, p18⟩ := q18
                    change (s9 170 8 = 0 → s18 170 8 = (1)) ∧ (0 < s9 170 8 → s18 170 8 = s9 170 8) at p18
                    have g41 := g_faultKind gs18
                    have e42 : s18 170 4 = s9 170 4 := fs18 170 4 rfl rfl
                    have e44 : s9 170 5 = st 170 5 := fs9 170 5 rfl rfl
                    have e43 : s18 170 5 = s9 170 5 := fs18 170 5 rfl rfl
                    have e46 : s9 170 2 = st 170 2 := fs9 170 2 rfl rfl
                    have e45 : s18 170 2 = s9 170 2 := fs18 170 2 rfl rfl
                    have e47 : s18 170 3 = s9 170 3 := fs18 170 3 rfl rfl
                    have e49 : s9 170 34 = st 170 34 := fs9 170 34 rfl rfl
                    have e48 : s18 170 34 = s9 170 34 := fs18 170 34 rfl rfl
                    exact hQ _ ⟨gs18, (fr_tr (fr_tr (fr_rf _ _) fs9 rfl) fs18 rfl), (show s18 170 4 ≤ s18 170 5 ∧ s18 170 5 ≤ s18 170 2 ∧ (s18 170 3 = 0 ∧ s18 170 4 = s18 170 2 ∨ 1 ≤ s18 170 3 ∧ s18 170 4 < s18 170 5) ∧ st 170 4 ≤ s18 170 4 from by omega), (show jR st s18 from (jR_tr (s1 := s9) (jR_tr (s1 := st) (jR_rf _) (jR_fr rfl fs9)) (jR_fr rfl fs18))), (show bR st s18 from (bR_tr (s1 := s9) (bR_tr (s1 := st) (bR_rf _) (bR_fr rfl fs9)) (bR_fr rfl fs18))), (show s18 170 8 = 0 → TS s18 ∧ s18 170 34 ≤ s18 170 4 from fun z => absurd z (by omega))⟩
                  · have b17_ : r17 = 1 := by omega
                    replace b17 := b17.2.mp b17_
                    have e50 : s9 170 4 = st 170 4 := fs9 170 4 rfl rfl
                    have e51 : s9 170 5 = st 170 5 := fs9 170 5 rfl rfl
                    have e52 : s9 170 2 = st 170 2 := fs9 170 2 rfl rfl
                    have e53 : s9 170 34 = st 170 34 := fs9 170 34 rfl rfl
                    have e54 : s9 170 35 = st 170 35 := fs9 170 35 rfl rfl
                    have e55 : s9 170 13 = st 170 13 := fs9 170 13 rfl rfl
                    refine ⟨rfl, ⟨gs9, (show s9 170 4 ≤ s9 170 5 ∧ s9 170 5 ≤ s9 170 2 ∧ (s9 170 3 = 0 ∧ s9 170 4 = s9 170 2 ∨ 1 ≤ s9 170 3 ∧ s9 170 4 < s9 170 5) from by omega), (show TS s9 from (TS_fr rfl fs9 ts)), (show s9 170 8 = 0 ∧ s9 170 34 ≤ s9 170 4 ∧ 1 ≤ s9 170 3 from by omega), (show s9 170 35 = 1 - s9 170 13 from by omega), (show (1) = 0 ∨ (1) = 1 from by omega)⟩, fun s19 q19 => ?_⟩
                    obtain ⟨gs19, fs19, p19, R19, B19, e19⟩ := q19
                    change s19 170 4 ≤ s19 170 5 ∧ s19 170 5 ≤ s19 170 2 ∧ (s19 170 3 = 0 ∧ s19 170 4 = s19 170 2 ∨ 1 ≤ s19 170 3 ∧ s19 170 4 < s19 170 5) ∧ s9 170 4 ≤ s19 170 4 at p19
                    have g56 := g_signAt gs19
                    have g57 := g_signEnd gs19
                    have e58 : s19 170 2 = s9 170 2 := fs19 170 2 rfl rfl
                    have g59 := g_sign gs19
                    change jR s9 s19 at R19
                    change bR s9 s19 at B19
                    change s19 170 8 = 0 → TS s19 ∧ s19 170 34 ≤ s19 170 4 at e19
                    have g60 := g_faultKind gs19
                    have g61 := g_codes gs19
                    exact hQ _ ⟨gs19, (fr_tr (fr_tr (fr_rf _ _) fs9 rfl) fs19 rfl), (show s19 170 4 ≤ s19 170 5 ∧ s19 170 5 ≤ s19 170 2 ∧ (s19 170 3 = 0 ∧ s19 170 4 = s19 170 2 ∨ 1 ≤ s19 170 3 ∧ s19 170 4 < s19 170 5) ∧ st 170 4 ≤ s19 170 4 from by omega), (show jR st s19 from (jR_tr (s1 := s9) (jR_tr (s1 := st) (jR_rf _) (jR_fr rfl fs9)) R19)), (show bR st s19 from (bR_tr (s1 := s9) (bR_tr (s1 := st) (bR_rf _) (bR_fr rfl fs9)) B19)), (show s19 170 8 = 0 → TS s19 ∧ s19 170 34 ≤ s19 170 4 from e19)⟩
                · have b16_ : r16 = 1 := by omega
                  replace b16 := b16.2.mp b16_
                  have e62 : s9 170 4 = st 170 4 := fs9 170 4 rfl rfl
                  have e63 : s9 170 5 = st 170 5 := fs9 170 5 rfl rfl
                  have e64 : s9 170 2 = st 170 2 := fs9 170 2 rfl rfl
                  have e65 : s9 170 34 = st 170 34 := fs9 170 34 rfl rfl
                  have e66 : s9 170 35 = st 170 35 := fs9 170 35 rfl rfl
                  have e67 : s9 170 13 = st 170 13 := fs9 170 13 rfl rfl
                  refine ⟨rfl, ⟨gs9, (show s9 170 4 ≤ s9 170 5 ∧ s9 170 5 ≤ s9 170 2 ∧ (s9 170 3 = 0 ∧ s9 170 4 = s9 170 2 ∨ 1 ≤ s9 170 3 ∧ s9 170 4 < s9 170 5) from by omega), (show TS s9 from (TS_fr rfl fs9 ts)), (show s9 170 8 = 0 ∧ s9 170 34 ≤ s9 170 4 ∧ 1 ≤ s9 170 3 from by omega), (show s9 170 35 = 1 - s9 170 13 from by omega), (show (0) = 0 ∨ (0) = 1 from by omega)⟩, fun s20 q20 => ?_⟩
                  obtain ⟨gs20, fs20, p20, R20, B20, e20⟩ := q20
                  change s20 170 4 ≤ s20 170 5 ∧ s20 170 5 ≤ s20 170 2 ∧ (s20 170 3 = 0 ∧ s20 170 4 = s20 170 2 ∨ 1 ≤ s20 170 3 ∧ s20 170 4 < s20 170 5) ∧ s9 170 4 ≤ s20 170 4 at p20
                  have g68 := g_signAt gs20
                  have g69 := g_signEnd gs20
                  have e70 : s20 170 2 = s9 170 2 := fs20 170 2 rfl rfl
                  have g71 := g_sign gs20
                  change jR s9 s20 at R20
                  change bR s9 s20 at B20
                  change s20 170 8 = 0 → TS s20 ∧ s20 170 34 ≤ s20 170 4 at e20
                  have g72 := g_faultKind gs20
                  have g73 := g_codes gs20
                  exact hQ _ ⟨gs20, (fr_tr (fr_tr (fr_rf _ _) fs9 rfl) fs20 rfl), (show s20 170 4 ≤ s20 170 5 ∧ s20 170 5 ≤ s20 170 2 ∧ (s20 170 3 = 0 ∧ s20 170 4 = s20 170 2 ∨ 1 ≤ s20 170 3 ∧ s20 170 4 < s20 170 5) ∧ st 170 4 ≤ s20 170 4 from by omega), (show jR st s20 from (jR_tr (s1 := s9) (jR_tr (s1 := st) (jR_rf _) (jR_fr rfl fs9)) R20)), (show bR st s20 from (bR_tr (s1 := s9) (bR_tr (s1 := st) (bR_rf _) (bR_fr rfl fs9)) B20)), (show s20 170 8 = 0 → TS s20 ∧ s20 170 34 ≤ s20 170 4 from e20)⟩
              · have b15_ : r15 = 1 := by omega
                replace b15 := b15.2.mp b15_
                have e74 : s9 170 4 = st 170 4 := fs9 170 4 rfl rfl
                have e75 : s9 170 5 = st 170 5 := fs9 170 5 rfl rfl
                have e76 : s9 170 2 = st 170 2 := fs9 170 2 rfl rfl
                have e77 : s9 170 34 = st 170 34 := fs9 170 34 rfl rfl
                have e78 : s9 170 35 = st 170 35 := fs9 170 35 rfl rfl
                have e79 : s9 170 13 = st 170 13 := fs9 170 13 rfl rfl
                refine ⟨rfl, ⟨gs9, (show s9 170 4 ≤ s9 170 5 ∧ s9 170 5 ≤ s9 170 2 ∧ (s9 170 3 = 0 ∧ s9 170 4 = s9 170 2 ∨ 1 ≤ s9 170 3 ∧ s9 170 4 < s9 170 5) from by omega), (show TS s9 from (TS_fr rfl fs9 ts)), (show s9 170 8 = 0 ∧ s9 170 34 ≤ s9 170 4 ∧ 1 ≤ s9 170 3 from by omega), (show s9 170 35 = 1 - s9 170 13 from by omega), (show (1) = 0 ∨ (1) = 1 from by omega)⟩, fun s21 q21 => ?_⟩
                obtain ⟨gs21, fs21, p21, R21, B21, e21⟩ := q21
                change s21 170 4 ≤ s21 170 5 ∧ s21 170 5 ≤ s21 170 2 ∧ (s21 170 3 = 0 ∧ s21 170 4 = s21 170 2 ∨ 1 ≤ s21 170 3 ∧ s21 170 4 < s21 170 5) ∧ s9 170 4 ≤ s21 170 4 at p21
                have g80 := g_signAt gs21
                have g81 := g_signEnd gs21
                have e82 : s21 170 2 = s9 170 2 := fs21 170 2 rfl rfl
                have g83 := g_sign gs21
                change jR s9 s21 at R21
                change bR s9 s21 at B21
                change s21 170 8 = 0 → TS s21 ∧ s21 170 34 ≤ s21 170 4 at e21
                have g84 := g_faultKind gs21
                have g85 := g_codes gs21
                exact hQ _ ⟨gs21, (fr_tr (fr_tr (fr_rf _ _) fs9 rfl) fs21 rfl), (show s21 170 4 ≤ s21 170 5 ∧ s21 170 5 ≤ s21 170 2 ∧ (s21 170 3 = 0 ∧ s21 170 4 = s21 170 2 ∨ 1 ≤ s21 170 3 ∧ s21 170 4 < s21 170 5) ∧ st 170 4 ≤ s21 170 4 from by omega), (show jR st s21 from (jR_tr (s1 := s9) (jR_tr (s1 := st) (jR_rf _) (jR_fr rfl fs9)) R21)), (show bR st s21 from (bR_tr (s1 := s9) (bR_tr (s1 := st) (bR_rf _) (bR_fr rfl fs9)) B21)), (show s21 170 8 = 0 → TS s21 ∧ s21 170 34 ≤ s21 170 4 from e21)⟩
            · have b14_ : r14 = 1 := by omega
              replace b14 := b14.2.mp b14_
              have e86 : s9 170 4 = st 170 4 := fs9 170 4 rfl rfl
              have e87 : s9 170 5 = st 170 5 := fs9 170 5 rfl rfl
              have e88 : s9 170 2 = st 170 2 := fs9 170 2 rfl rfl
              have e89 : s9 170 34 = st 170 34 := fs9 170 34 rfl rfl
              have e90 : s9 170 35 = st 170 35 := fs9 170 35 rfl rfl
              have e91 : s9 170 13 = st 170 13 := fs9 170 13 rfl rfl
              refine ⟨rfl, ⟨gs9, (show s9 170 4 ≤ s9 170 5 ∧ s9 170 5 ≤ s9 170 2 ∧ (s9 170 3 = 0 ∧ s9 170 4 = s9 170 2 ∨ 1 ≤ s9 170 3 ∧ s9 170 4 < s9 170 5) from by omega), (show TS s9 from (TS_fr rfl fs9 ts)), (show s9 170 8 = 0 ∧ s9 170 34 ≤ s9 170 4 ∧ 1 ≤ s9 170 3 from by omega), (show s9 170 35 = 1 - s9 170 13 from by omega), (show (0) = 0 ∨ (0) = 1 from by omega)⟩, fun s22 q22 => ?_⟩
              obtain ⟨gs22, fs22, p22, R22, B22, e22⟩ := q22
              change s22 170 4 ≤ s22 170 5 ∧ s22 170 5 ≤ s22 170 2 ∧ (s22 170 3 = 0 ∧ s22 170 4 = s22 170 2 ∨ 1 ≤ s22 170 3 ∧ s22 170 4 < s22 170 5) ∧ s9 170 4 ≤ s22 170 4 at p22
              have g92 := g_signAt gs22
              have g93 := g_signEnd gs22
              have e94 : s22 170 2 = s9 170 2 := fs22 170 2 rfl rfl
              have g95 := g_sign gs22
              change jR s9 s22 at R22
              change bR s9 s22 at B22
              change s22 170 8 = 0 → TS s22 ∧ s22 170 34 ≤ s22 170 4 at e22
              have g96 := g_faultKind gs22
              have g97 := g_codes gs22
              exact hQ _ ⟨gs22, (fr_tr (fr_tr (fr_rf _ _) fs9 rfl) fs22 rfl), (show s22 170 4 ≤ s22 170 5 ∧ s22 170 5 ≤ s22 170 2 ∧ (s22 170 3 = 0 ∧ s22 170 4 = s22 170 2 ∨ 1 ≤ s22 170 3 ∧ s22 170 4 < s22 170 5) ∧ st 170 4 ≤ s22 170 4 from by omega), (show jR st s22 from (jR_tr (s1 := s9) (jR_tr (s1 := st) (jR_rf _) (jR_fr rfl fs9)) R22)), (show bR st s22 from (bR_tr (s1 := s9) (bR_tr (s1 := st) (bR_rf _) (bR_fr rfl fs9)) B22)), (show s22 170 8 = 0 → TS s22 ∧ s22 170 34 ≤ s22 170 4 from e22)⟩
          · have b13_ : r13 = 1 := by omega
            replace b13 := b13.2.mp b13_
            have e98 : s9 170 4 = st 170 4 := fs9 170 4 rfl rfl
            have e99 : s9 170 5 = st 170 5 := fs9 170 5 rfl rfl
            have e100 : s9 170 2 = st 170 2 := fs9 170 2 rfl rfl
            have e101 : s9 170 34 = st 170 34 := fs9 170 34 rfl rfl
            have e102 : s9 170 35 = st 170 35 := fs9 170 35 rfl rfl
            have e103 : s9 170 13 = st 170 13 := fs9 170 13 rfl rfl
            refine ⟨rfl, ⟨gs9, (show s9 170 4 ≤ s9 170 5 ∧ s9 170 5 ≤ s9 170 2 ∧ (s9 170 3 = 0 ∧ s9 170 4 = s9 170 2 ∨ 1 ≤ s9 170 3 ∧ s9 170 4 < s9 170 5) from by omega), (show TS s9 from (TS_fr rfl fs9 ts)), (show s9 170 8 = 0 ∧ s9 170 34 ≤ s9 170 4 ∧ 1 ≤ s9 170 3 from by omega), (show s9 170 35 = 1 - s9 170 13 from by omega)⟩, fun s23 q23 => ?_⟩
            obtain ⟨gs23, fs23, p23, R23, B23, e23⟩ := q23
            change s23 170 4 ≤ s23 170 5 ∧ s23 170 5 ≤ s23 170 2 ∧ (s23 170 3 = 0 ∧ s23 170 4 = s23 170 2 ∨ 1 ≤ s23 170 3 ∧ s23 170 4 < s23 170 5) ∧ s9 170 4 ≤ s23 170 4 at p23
            have g104 := g_signAt gs23
            have g105 := g_signEnd gs23
            have e106 : s23 170 2 = s9 170 2 := fs23 170 2 rfl rfl
            have g107 := g_sign gs23
            change jR s9 s23 at R23
            change bR s9 s23 at B23
            change s23 170 8 = 0 → TS s23 ∧ s23 170 34 ≤ s23 170 4 at e23
            have g108 := g_faultKind gs23
            have g109 := g_codes gs23
            exact hQ _ ⟨gs23, (fr_tr (fr_tr (fr_rf _ _) fs9 rfl) fs23 rfl), (show s23 170 4 ≤ s23 170 5 ∧ s23 170 5 ≤ s23 170 2 ∧ (s23 170 3 = 0 ∧ s23 170 4 = s23 170 2 ∨ 1 ≤ s23 170 3 ∧ s23 170 4 < s23 170 5) ∧ st 170 4 ≤ s23 170 4 from by omega), (show jR st s23 from (jR_tr (s1 := s9) (jR_tr (s1 := st) (jR_rf _) (jR_fr rfl fs9)) R23)), (show bR st s23 from (bR_tr (s1 := s9) (bR_tr (s1 := st) (bR_rf _) (bR_fr rfl fs9)) B23)), (show s23 170 8 = 0 → TS s23 ∧ s23 170 34 ≤ s23 170 4 from e23)⟩
        · have b12_ : r12 = 1 := by omega
          replace b12 := b12.2.mp b12_
          have e110 : s9 170 4 = st 170 4 := fs9 170 4 rfl rfl
          have e111 : s9 170 5 = st 170 5 := fs9 170 5 rfl rfl
          have e112 : s9 170 2 = st 170 2 := fs9 170 2 rfl rfl
          have e113 : s9 170 34 = st 170 34 := fs9 170 34 rfl rfl
          have e114 : s9 170 35 = st 170 35 := fs9 170 35 rfl rfl
          have e115 : s9 170 13 = st 170 13 := fs9 170 13 rfl rfl
          refine ⟨rfl, ⟨gs9, (show s9 170 4 ≤ s9 170 5 ∧ s9 170 5 ≤ s9 170 2 ∧ (s9 170 3 = 0 ∧ s9 170 4 = s9 170 2 ∨ 1 ≤ s9 170 3 ∧ s9 170 4 < s9 170 5) from by omega), (show TS s9 from (TS_fr rfl fs9 ts)), (show s9 170 8 = 0 ∧ s9 170 34 ≤ s9 170 4 ∧ 1 ≤ s9 170 3 from by omega), (show s9 170 35 = 1 - s9 170 13 from by omega)⟩, fun s24 q24 => ?_⟩
          obtain ⟨gs24, fs24, p24, R24, B24, e24⟩ := q24
          change s24 170 4 ≤ s24 170 5 ∧ s24 170 5 ≤ s24 170 2 ∧ (s24 170 3 = 0 ∧ s24 170 4 = s24 170 2 ∨ 1 ≤ s24 170 3 ∧ s24 170 4 < s24 170 5) ∧ s9 170 4 ≤ s24 170 4 at p24
          have g116 := g_signAt gs24
          have g117 := g_signEnd gs24
          have e118 : s24 170 2 = s9 170 2 := fs24 170 2 rfl rfl
          have g119 := g_sign gs24
          change jR s9 s24 at R24
          change bR s9 s24 at B24
          change s24 170 8 = 0 → TS s24 ∧ s24 170 34 ≤ s24 170 4 at e24
          have g120 := g_faultKind gs24
          have g121 := g_codes gs24
          exact hQ _ ⟨gs24, (fr_tr (fr_tr (fr_rf _ _) fs9 rfl) fs24 rfl), (show s24 170 4 ≤ s24 170 5 ∧ s24 170 5 ≤ s24 170 2 ∧ (s24 170 3 = 0 ∧ s24 170 4 = s24 170 2 ∨ 1 ≤ s24 170 3 ∧ s24 170 4 < s24 170 5) ∧ st 170 4 ≤ s24 170 4 from by omega), (show jR st s24 from (jR_tr (s1 := s9) (jR_tr (s1 := st) (jR_rf _) (jR_fr rfl fs9)) R24)), (show bR st s24 from (bR_tr (s1 := s9) (bR_tr (s1 := st) (bR_rf _) (bR_fr rfl fs9)) B24)), (show s24 170 8 = 0 → TS s24 ∧ s24 170 34 ≤ s24 170 4 from e24)⟩
      · have b11_ : r11 = 1 := by omega
        replace b11 := b11.2.mp b11_
        have e122 : s9 170 4 = st 170 4 := fs9 170 4 rfl rfl
        have e123 : s9 170 5 = st 170 5 := fs9 170 5 rfl rfl
        have e124 : s9 170 2 = st 170 2 := fs9 170 2 rfl rfl
        have e125 : s9 170 34 = st 170 34 := fs9 170 34 rfl rfl
        have e126 : s9 170 35 = st 170 35 := fs9 170 35 rfl rfl
        have e127 : s9 170 13 = st 170 13 := fs9 170 13 rfl rfl
        refine ⟨rfl, ⟨gs9, (show s9 170 4 ≤ s9 170 5 ∧ s9 170 5 ≤ s9 170 2 ∧ (s9 170 3 = 0 ∧ s9 170 4 = s9 170 2 ∨ 1 ≤ s9 170 3 ∧ s9 170 4 < s9 170 5) from by omega), (show TS s9 from (TS_fr rfl fs9 ts)), (show s9 170 8 = 0 ∧ s9 170 34 ≤ s9 170 4 ∧ 1 ≤ s9 170 3 from by omega), (show s9 170 35 = 1 - s9 170 13 from by omega)⟩, fun s25 q25 => ?_⟩
        obtain ⟨gs25, fs25, p25, R25, B25, e25⟩ := q25
        change s25 170 4 ≤ s25 170 5 ∧ s25 170 5 ≤ s25 170 2 ∧ (s25 170 3 = 0 ∧ s25 170 4 = s25 170 2 ∨ 1 ≤ s25 170 3 ∧ s25 170 4 < s25 170 5) ∧ s9 170 4 ≤ s25 170 4 at p25
        have g128 := g_signAt gs25
        have g129 := g_signEnd gs25
        have e130 : s25 170 2 = s9 170 2 := fs25 170 2 rfl rfl
        have g131 := g_sign gs25
        change jR s9 s25 at R25
        change bR s9 s25 at B25
        change s25 170 8 = 0 → TS s25 ∧ s25 170 34 ≤ s25 170 4 at e25
        have g132 := g_faultKind gs25
        have g133 := g_codes gs25
        exact hQ _ ⟨gs25, (fr_tr (fr_tr (fr_rf _ _) fs9 rfl) fs25 rfl), (show s25 170 4 ≤ s25 170 5 ∧ s25 170 5 ≤ s25 170 2 ∧ (s25 170 3 = 0 ∧ s25 170 4 = s25 170 2 ∨ 1 ≤ s25 170 3 ∧ s25 170 4 < s25 170 5) ∧ st 170 4 ≤ s25 170 4 from by omega), (show jR st s25 from (jR_tr (s1 := s9) (jR_tr (s1 := st) (jR_rf _) (jR_fr rfl fs9)) R25)), (show bR st s25 from (bR_tr (s1 := s9) (bR_tr (s1 := st) (bR_rf _) (bR_fr rfl fs9)) B25)), (show s25 170 8 = 0 → TS s25 ∧ s25 170 34 ≤ s25 170 4 from e25)⟩
    · have b10_ : r10 = 1 := by omega
      replace b10 := b10.2.mp b10_
      have e134 : s9 170 4 = st 170 4 := fs9 170 4 rfl rfl
      have e135 : s9 170 5 = st 170 5 := fs9 170 5 rfl rfl
      have e136 : s9 170 2 = st 170 2 := fs9 170 2 rfl rfl
      have e137 : s9 170 34 = st 170 34 := fs9 170 34 rfl rfl
      have e138 : s9 170 35 = st 170 35 := fs9 170 35 rfl rfl
      have e139 : s9 170 13 = st 170 13 := fs9 170 13 rfl rfl
      refine ⟨rfl, ⟨gs9, (show s9 170 4 ≤ s9 170 5 ∧ s9 170 5 ≤ s9 170 2 ∧ (s9 170 3 = 0 ∧ s9 170 4 = s9 170 2 ∨ 1 ≤ s9 170 3 ∧ s9 170 4 < s9 170 5) from by omega), (show TS s9 from (TS_fr rfl fs9 ts)), (show s9 170 8 = 0 ∧ s9 170 34 ≤ s9 170 4 ∧ 1 ≤ s9 170 3 from by omega), (show s9 170 35 = 1 - s9 170 13 from by omega)⟩, fun s26 q26 => ?_⟩
      obtain ⟨gs26, fs26, p26, R26, B26, e26⟩ := q26
      change s26 170 4 ≤ s26 170 5 ∧ s26 170 5 ≤ s26 170 2 ∧ (s26 170 3 = 0 ∧ s26 170 4 = s26 170 2 ∨ 1 ≤ s26 170 3 ∧ s26 170 4 < s26 170 5) ∧ s9 170 4 ≤ s26 170 4 at p26
      have g140 := g_signAt gs26
      have g141 := g_signEnd gs26
      have e142 : s26 170 2 = s9 170 2 := fs26 170 2 rfl rfl
      have g143 := g_sign gs26
      change jR s9 s26 at R26
      change bR s9 s26 at B26
      change s26 170 8 = 0 → TS s26 ∧ s26 170 34 ≤ s26 170 4 at e26
      have g144 := g_faultKind gs26
      have g145 := g_codes gs26
      exact hQ _ ⟨gs26, (fr_tr (fr_tr (fr_rf _ _) fs9 rfl) fs26 rfl), (show s26 170 4 ≤ s26 170 5 ∧ s26 170 5 ≤ s26 170 2 ∧ (s26 170 3 = 0 ∧ s26 170 4 = s26 170 2 ∨ 1 ≤ s26 170 3 ∧ s26 170 4 < s26 170 5) ∧ st 170 4 ≤ s26 170 4 from by omega), (show jR st s26 from (jR_tr (s1 := s9) (jR_tr (s1 := st) (jR_rf _) (jR_fr rfl fs9)) R26)), (show bR st s26 from (bR_tr (s1 := s9) (bR_tr (s1 := st) (bR_rf _) (bR_fr rfl fs9)) B26)), (show s26 170 8 = 0 → TS s26 ∧ s26 170 34 ≤ s26 170 4 from e26)⟩
  · have e146 : s9 170 4 = st 170 4 := fs9 170 4 rfl rfl
    have e147 : s9 170 5 = st 170 5 := fs9 170 5 rfl rfl
    have e148 : s9 170 2 = st 170 2 := fs9 170 2 rfl rfl
    have e149 : s9 170 3 = st 170 3 := fs9 170 3 rfl rfl
    have e150 : s9 170 34 = st 170 34 := fs9 170 34 rfl rfl
    exact hQ _ ⟨gs9, (fr_tr (fr_rf _ _) fs9 rfl), (show s9 170 4 ≤ s9 170 5 ∧ s9 170 5 ≤ s9 170 2 ∧ (s9 170 3 = 0 ∧ s9 170 4 = s9 170 2 ∨ 1 ≤ s9 170 3 ∧ s9 170 4 < s9 170 5) ∧ st 170 4 ≤ s9 170 4 from by omega), (show jR st s9 from (jR_tr (s1 := st) (jR_rf _) (jR_fr rfl fs9))), (show bR st s9 from (bR_tr (s1 := st) (bR_rf _) (bR_fr rfl fs9))), (show s9 170 8 = 0 → TS s9 ∧ s9 170 34 ≤ s9 170 4 from fun z => absurd z (by omega))⟩
theorem k_xstatement_m (hTb : aTb zSh rx_tb cl) {D : Nat} (hD : 7 ≤ D) : ∀ as st (Q Q' : zQ), (∀ r st', Q r st' → Q' r st') → k_xstatement 210 as st Q → cl D 210 as st Q' := by
  intro as st Q Q' hQ h
  unfold k_xstatement at h
  split at h
  · obtain ⟨rfl, h⟩ := h
    exact c_xstatement hTb hD (ct_xstatement_m hQ h)
  · exact h.elim
end R6h
