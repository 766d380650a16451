/-! printed by wip/p4/py/c5.py: bodies of statements, town 135 -/
def m_cPlaceBB : aM := ([(135, 1), (148, 3), (148, 4), (149, 2), (149, 3), (149, 4), (149, 5), (149, 6)], [136])
def rq_cPlaceBB  (st : zS) : Prop := gInv zgt st ∧ (RDc st) ∧ (cOW st) ∧ (st 148 1 = 135) ∧ (st 135 1 < 8)
def en_cPlaceBB  (st : zS) (r : Int) (s1 : zS) : Prop := gInv zgt s1 ∧ aFr m_cPlaceBB st s1 ∧ ((r = 1 ∧ bPl (ctx st) (st 1 1) (tn 135 st) (st 149 5) (tn 135 s1) (s1 149 5) ∧ RDc s1) ∨ (r = 0 ∧ ¬ ∃ (T' : zS) (q : Int), bPl (ctx st) (st 1 1) (tn 135 st) (st 149 5) T' q))
def ct_cPlaceBB  (st : zS) (Q : zQ) : Prop := rq_cPlaceBB  st ∧ (∀ (r : Int) (s1 : zS), en_cPlaceBB  st r s1 → Q (some (.inl r)) s1)
theorem ct_cPlaceBB_m {st : zS} {Q Q' : zQ} (hQ : ∀ r st', Q r st' → Q' r st') (h : ct_cPlaceBB  st Q) : ct_cPlaceBB  st Q' := ⟨h.1, fun x0 x1 x2 => hQ _ _ (h.2 x0 x1 x2)⟩
def k_cPlaceBB : zCall := fun _ as st Q => match as with
  | [.inr (.inr (.inl z_o))] => z_o = 148 ∧ ct_cPlaceBB  st Q
  | _ => False
def m_cStreetBB : aM := ([(135, 3), (148, 3), (148, 4), (149, 2), (149, 3), (149, 4), (149, 5), (149, 6)], [137, 138, 139, 140])
def rq_cStreetBB  (st : zS) : Prop := gInv zgt st ∧ (RDc st) ∧ (cOW st) ∧ (st 148 1 = 135) ∧ (st 135 3 < 14)
def en_cStreetBB  (st : zS) (r : Int) (s1 : zS) : Prop := gInv zgt s1 ∧ aFr m_cStreetBB st s1 ∧ ((r = 1 ∧ bSt (ctx st) (st 1 1) (tn 135 st) (st 149 5) (tn 135 s1) (s1 149 5) ∧ RDc s1) ∨ (r = 0 ∧ ¬ ∃ (T' : zS) (q : Int), bSt (ctx st) (st 1 1) (tn 135 st) (st 149 5) T' q))
def ct_cStreetBB  (st : zS) (Q : zQ) : Prop := rq_cStreetBB  st ∧ (∀ (r : Int) (s1 : zS), en_cStreetBB  st r s1 → Q (some (.inl r)) s1)
theorem ct_cStreetBB_m {st : zS} {Q Q' : zQ} (hQ : ∀ r st', Q r st' → Q' r st') (h : ct_cStreetBB  st Q) : ct_cStreetBB  st Q' := ⟨h.1, fun x0 x1 x2 => hQ _ _ (h.2 x0 x1 x2)⟩
def k_cStreetBB : zCall := fun _ as st Q => match as with
  | [.inr (.inr (.inl z_o))] => z_o = 148 ∧ ct_cStreetBB  st Q
  | _ => False
def m_cStepBB : aM := ([(144, 2), (148, 3), (148, 4), (149, 2), (149, 3), (149, 4), (149, 5), (149, 6)], [145, 146])
def rq_cStepBB  (st : zS) : Prop := gInv zgt st ∧ (RDc st) ∧ (cOW st) ∧ (st 148 1 = 135) ∧ (st 144 2 < 20) ∧ (TIv (tn 135 st))
def en_cStepBB  (st : zS) (r : Int) (s1 : zS) : Prop := gInv zgt s1 ∧ aFr m_cStepBB st s1 ∧ ((r = 1 ∧ bSp (ctx st) (st 1 1) (tn 135 st) (st 149 5) (tn 135 s1) (s1 149 5) ∧ RDc s1) ∨ (r = 0 ∧ ¬ ∃ (T' : zS) (q : Int), bSp (ctx st) (st 1 1) (tn 135 st) (st 149 5) T' q))
def ct_cStepBB  (st : zS) (Q : zQ) : Prop := rq_cStepBB  st ∧ (∀ (r : Int) (s1 : zS), en_cStepBB  st r s1 → Q (some (.inl r)) s1)
theorem ct_cStepBB_m {st : zS} {Q Q' : zQ} (hQ : ∀ r st', Q r st' → Q' r st') (h : ct_cStepBB  st Q) : ct_cStepBB  st Q' := ⟨h.1, fun x0 x1 x2 => hQ _ _ (h.2 x0 x1 x2)⟩
def k_cStepBB : zCall := fun _ as st Q => match as with
  | [.inr (.inr (.inl z_o))] => z_o = 148 ∧ ct_cStepBB  st Q
  | _ => False
def m_cThingBB : aM := ([(135, 8), (148, 3), (148, 4), (149, 2), (149, 3), (149, 4), (149, 5), (149, 6)], [141, 142, 143])
def rq_cThingBB  (st : zS) : Prop := gInv zgt st ∧ (RDc st) ∧ (cOW st) ∧ (st 148 1 = 135) ∧ (st 135 8 < 8)
def en_cThingBB  (st : zS) (r : Int) (s1 : zS) : Prop := gInv zgt s1 ∧ aFr m_cThingBB st s1 ∧ ((r = 1 ∧ bTh (ctx st) (st 1 1) (tn 135 st) (st 149 5) (tn 135 s1) (s1 149 5) ∧ RDc s1) ∨ (r = 0 ∧ ¬ ∃ (T' : zS) (q : Int), bTh (ctx st) (st 1 1) (tn 135 st) (st 149 5) T' q))
def ct_cThingBB  (st : zS) (Q : zQ) : Prop := rq_cThingBB  st ∧ (∀ (r : Int) (s1 : zS), en_cThingBB  st r s1 → Q (some (.inl r)) s1)
theorem ct_cThingBB_m {st : zS} {Q Q' : zQ} (hQ : ∀ r st', Q r st' → Q' r st') (h : ct_cThingBB  st Q) : ct_cThingBB  st Q' := ⟨h.1, fun x0 x1 x2 => hQ _ _ (h.2 x0 x1 x2)⟩
def k_cThingBB : zCall := fun _ as st Q => match as with
  | [.inr (.inr (.inl z_o))] => z_o = 148 ∧ ct_cThingBB  st Q
  | _ => False
def m_cHeatBB : aM := ([(135, 13), (148, 3), (148, 4), (149, 2), (149, 3), (149, 4), (149, 5), (149, 6)], [])
def rq_cHeatBB  (st : zS) : Prop := gInv zgt st ∧ (RDc st) ∧ (cOW st) ∧ (st 148 1 = 135)
def en_cHeatBB  (st : zS) (r : Int) (s1 : zS) : Prop := gInv zgt s1 ∧ aFr m_cHeatBB st s1 ∧ ((r = 1 ∧ bHe (ctx st) (st 1 1) (tn 135 st) (st 149 5) (tn 135 s1) (s1 149 5) 13 40 ∧ RDc s1) ∨ (r = 0 ∧ ¬ ∃ (T' : zS) (q : Int), bHe (ctx st) (st 1 1) (tn 135 st) (st 149 5) T' q 13 40))
def ct_cHeatBB  (st : zS) (Q : zQ) : Prop := rq_cHeatBB  st ∧ (∀ (r : Int) (s1 : zS), en_cHeatBB  st r s1 → Q (some (.inl r)) s1)
theorem ct_cHeatBB_m {st : zS} {Q Q' : zQ} (hQ : ∀ r st', Q r st' → Q' r st') (h : ct_cHeatBB  st Q) : ct_cHeatBB  st Q' := ⟨h.1, fun x0 x1 x2 => hQ _ _ (h.2 x0 x1 x2)⟩
def k_cHeatBB : zCall := fun _ as st Q => match as with
  | [.inr (.inr (.inl z_o))] => z_o = 148 ∧ ct_cHeatBB  st Q
  | _ => False
def m_cHotBB : aM := ([(135, 14), (148, 3), (148, 4), (149, 2), (149, 3), (149, 4), (149, 5), (149, 6)], [])
def rq_cHotBB  (st : zS) : Prop := gInv zgt st ∧ (RDc st) ∧ (cOW st) ∧ (st 148 1 = 135)
def en_cHotBB  (st : zS) (r : Int) (s1 : zS) : Prop := gInv zgt s1 ∧ aFr m_cHotBB st s1 ∧ ((r = 1 ∧ bHe (ctx st) (st 1 1) (tn 135 st) (st 149 5) (tn 135 s1) (s1 149 5) 14 100 ∧ RDc s1) ∨ (r = 0 ∧ ¬ ∃ (T' : zS) (q : Int), bHe (ctx st) (st 1 1) (tn 135 st) (st 149 5) T' q 14 100))
def ct_cHotBB  (st : zS) (Q : zQ) : Prop := rq_cHotBB  st ∧ (∀ (r : Int) (s1 : zS), en_cHotBB  st r s1 → Q (some (.inl r)) s1)
theorem ct_cHotBB_m {st : zS} {Q Q' : zQ} (hQ : ∀ r st', Q r st' → Q' r st') (h : ct_cHotBB  st Q) : ct_cHotBB  st Q' := ⟨h.1, fun x0 x1 x2 => hQ _ _ (h.2 x0 x1 x2)⟩
def k_cHotBB : zCall := fun _ as st Q => match as with
  | [.inr (.inr (.inl z_o))] => z_o = 148 ∧ ct_cHotBB  st Q
  | _ => False
def m_cBeginB : aM := ([(135, 17), (135, 18), (148, 2)], [])
def rq_cBeginB (hb : Int) (st : zS) : Prop := gInv zgt st ∧ (hb = 0 ∨ hb = 1) ∧ (st 148 1 = 135)
def en_cBeginB (hb : Int) (st : zS) (r : Int) (s1 : zS) : Prop := gInv zgt s1 ∧ aFr m_cBeginB st s1 ∧ (r = 1) ∧ (s1 148 2 = hb) ∧ ((hb = 0 → s1 135 17 = st 135 16 ∧ s1 135 18 = st 135 18) ∧ (hb = 1 → s1 135 18 = st 135 16 ∧ s1 135 17 = st 135 17))
def ct_cBeginB (hb : Int) (st : zS) (Q : zQ) : Prop := rq_cBeginB hb st ∧ (∀ (r : Int) (s1 : zS), en_cBeginB hb st r s1 → Q (some (.inl r)) s1)
theorem ct_cBeginB_m {hb : Int} {st : zS} {Q Q' : zQ} (hQ : ∀ r st', Q r st' → Q' r st') (h : ct_cBeginB hb st Q) : ct_cBeginB hb st Q' := ⟨h.1, fun x0 x1 x2 => hQ _ _ (h.2 x0 x1 x2)⟩
def k_cBeginB : zCall := fun _ as st Q => match as with
  | [.inr (.inr (.inl z_o)), .inl hb] => z_o = 148 ∧ ct_cBeginB hb st Q
  | _ => False
def m_cEndCodeB : aM := ([(135, 16)], [147])
def rq_cEndCodeB  (st : zS) : Prop := gInv zgt st ∧ (st 148 1 = 135) ∧ (st 135 16 ≤ 1599)
def en_cEndCodeB  (st : zS) (r : Int) (s1 : zS) : Prop := gInv zgt s1 ∧ aFr m_cEndCodeB st s1 ∧ (r = 1) ∧ (s1 135 16 = st 135 16 + 1) ∧ ((s1 147) = up1 (st 147) (st 135 16).toNat 13238272)
def ct_cEndCodeB  (st : zS) (Q : zQ) : Prop := rq_cEndCodeB  st ∧ (∀ (r : Int) (s1 : zS), en_cEndCodeB  st r s1 → Q (some (.inl r)) s1)
theorem ct_cEndCodeB_m {st : zS} {Q Q' : zQ} (hQ : ∀ r st', Q r st' → Q' r st') (h : ct_cEndCodeB  st Q) : ct_cEndCodeB  st Q' := ⟨h.1, fun x0 x1 x2 => hQ _ _ (h.2 x0 x1 x2)⟩
def k_cEndCodeB : zCall := fun _ as st Q => match as with
  | [.inr (.inr (.inl z_o))] => z_o = 148 ∧ ct_cEndCodeB  st Q
  | _ => False
def en_cHasStandsB  (st : zS) (r : Int) : Prop := ((r = 0 ∨ r = 1) ∧ (r = 1 ↔ ¬ st 135 17 = -1))
def ct_cHasStandsB  (st : zS) (Q : zQ) : Prop := ∀ (r : Int), en_cHasStandsB  st r → Q (some (.inl r)) st
theorem ct_cHasStandsB_m {st : zS} {Q Q' : zQ} (hQ : ∀ r st', Q r st' → Q' r st') (h : ct_cHasStandsB  st Q) : ct_cHasStandsB  st Q' := fun x0 x1 => hQ _ _ (h x0 x1)
def k_cHasStandsB : zCall := fun _ as st Q => match as with
  | [.inr (.inr (.inl z_o))] => z_o = 135 ∧ ct_cHasStandsB  st Q
  | _ => False
def en_cHasCleverB  (st : zS) (r : Int) : Prop := ((r = 0 ∨ r = 1) ∧ (r = 1 ↔ ¬ st 135 18 = -1))
def ct_cHasCleverB  (st : zS) (Q : zQ) : Prop := ∀ (r : Int), en_cHasCleverB  st r → Q (some (.inl r)) st
theorem ct_cHasCleverB_m {st : zS} {Q Q' : zQ} (hQ : ∀ r st', Q r st' → Q' r st') (h : ct_cHasCleverB  st Q) : ct_cHasCleverB  st Q' := fun x0 x1 => hQ _ _ (h x0 x1)
def k_cHasCleverB : zCall := fun _ as st Q => match as with
  | [.inr (.inr (.inl z_o))] => z_o = 135 ∧ ct_cHasCleverB  st Q
  | _ => False
section R9s
variable {cl : Nat → zCall}
set_option maxHeartbeats 4000000 in
set_option maxRecDepth 100000 in
theorem c_cPlaceBB (hTb : aTb zSh rx_tb cl) {D : Nat} (hD : 5 ≤ D) {st : zS} {Q : zQ} (h : ct_cPlaceBB  st Q) : cl D 239 [.inr (.inr (.inl 148))] st Q := by
  obtain ⟨d, rfl⟩ : ∃ d, D = d + 1 := ⟨D - 1, by omega⟩
  refine hTb d 239 (rx_m239, 2, 0, 0, 2) rfl _ _ _ (Nat.le_of_ble_eq_true rfl) (fun K hcl hsf hsl => ?_)
  have hcm : zmo (wcL [(247, k_cNewNameB), (279, k_cAddPlaceB)]) (cl d) := (wcL_m (wm_cons (k_cNewNameB_m hTb (by omega)) (wm_cons (k_cAddPlaceB_m hTb (by omega)) wm_nil)))
  obtain ⟨hR, hQ⟩ := h
  obtain ⟨hG, rd, ow, tw, lim⟩ := hR
  change RDc st at rd
  change cOW st at ow
  change st 148 1 = 135 at tw
  change st 135 1 < 8 at lim
  have rb := rd.1
  have g1 := g_f148_1 hG
  have g2 := g_f135_1 hG
  have g3 := g_wKind hG
  have g4 := g_wValue hG
  refine dr1_ok (Rt := Q) (wc := (wcL [(247, k_cNewNameB), (279, k_cAddPlaceB)])) (stp := []) hcm hcl [(11, 135)] [] 35 ?_
  show (148 = 148 ∧ (rq_cNewNameB  st ∧ (∀ (r5 : Int) (s5 : zS), en_cNewNameB  st r5 s5 → ((r5 = ((-1) : Int) → ((0 = (0 : Int) ∨ 0 = (1 : Int)) ∧ Q (some (.inl 0)) s5)) ∧ (¬ (r5 = ((-1) : Int)) → ((s5 148 1 = (135 : Int)) ∧ (135 = 135 ∧ (rq_cAddPlaceB r5 s5 ∧ ((((1 : Int) = (0 : Int) → _) ∧ (¬ ((1 : Int) = (0 : Int)) → ((1 = (0 : Int) ∨ 1 = (1 : Int)) ∧ Q (some (.inl 1)) (zup (zup s5 136 (s5 135 1 : Int).toNat r5) 135 1 ((s5 135 1) + 1))))))))))))))
  refine ⟨rfl, ⟨hG, (show RDc st from rd), (show cOW st from ow), (show st 148 1 = 135 from by omega)⟩, fun r5 s5 q5 => ?_⟩
  obtain ⟨gs5, fs5, o5⟩ := q5
  change (∃ v : Int, tk (ctx st) (st 1 1) (st 149 5) 1 v (s5 149 5) ∧ NOwn v ∧ isN6 v r5 ∧ FrN (tn 135 st) r5 ∧ RDc s5) ∨ (r5 = -1 ∧ ¬ ∃ v w e : Int, tk (ctx st) (st 1 1) (st 149 5) 1 v e ∧ NOwn v ∧ isN6 v w ∧ FrN (tn 135 st) w) at o5
  have g7 := g_tsize hG
  have g8 := g_wStart hG
  have g9 := g_wStart gs5
  rcases o5 with ⟨v5, t5, w5, x5, fr5, rd5⟩ | ⟨y5, l5⟩
  · have lo5 := isN6_lo x5
    refine ⟨fun h10 => (by exfalso; omega), fun h10 => ?_⟩
    have e11 : s5 148 1 = st 148 1 := fs5 148 1 rfl rfl
    refine ⟨by omega, ?_⟩
    have e12 : s5 135 1 = st 135 1 := fs5 135 1 rfl rfl
    refine ⟨rfl, ⟨gs5, (show -2147483648 ≤ r5 ∧ r5 ≤ 2147483647 ∧ s5 135 1 < 8 from by omega)⟩, ?_⟩
    refine ⟨fun h13 => absurd h13 (by decide), fun h13 => ?_⟩
    refine ⟨by omega, ?_⟩
    exact hQ _ _ ⟨(gInv_up (gInv_up gs5 (p_a136 (by omega))) (p_f135_1 (by omega))), (fr_f (fr_a (fr_tr (fr_rf _ _) fs5 rfl) rfl) rfl), (show ((1 : Int) = 1 ∧ bPl (ctx st) (st 1 1) (tn 135 st) (st 149 5) (tn 135 (zup (zup s5 136 (s5 135 1 : Int).toNat r5) 135 1 ((s5 135 1) + 1))) (s5 149 5) ∧ RDc (zup (zup s5 136 (s5 135 1 : Int).toNat r5) 135 1 ((s5 135 1) + 1))) ∨ ((1 : Int) = 0 ∧ ¬ ∃ (T' : zS) (q : Int), bPl (ctx st) (st 1 1) (tn 135 st) (st 149 5) T' q) from Or.inl ⟨rfl, ⟨lim, v5, r5, t5, w5, x5, fr5, (by rw [show s5 135 1 = st 135 1 from by omega]; exact ((tn_up 135 _ (c := 0) 1 ((st 135 1) + 1) (by omega)).trans (congrArg (fun z_ : zS => zup z_ 0 1 ((st 135 1) + 1)) ((tn_up 135 _ (c := 1) (st 135 1 : Int).toNat r5 (by omega)).trans (congrArg (fun z_ : zS => zup z_ 1 (st 135 1 : Int).toNat r5) ((tn_fr (x := 135) rfl fs5).trans (Eq.refl (tn 135 st))))))))⟩, (show RDc (zup (zup s5 136 (s5 135 1 : Int).toNat r5) 135 1 ((s5 135 1) + 1)) from rd5)⟩)⟩
  · refine ⟨fun h14 => ?_, fun h14 => (by exfalso; omega)⟩
    refine ⟨by omega, ?_⟩
    exact hQ _ _ ⟨gs5, (fr_tr (fr_rf _ _) fs5 rfl), (show ((0 : Int) = 1 ∧ bPl (ctx st) (st 1 1) (tn 135 st) (st 149 5) (tn 135 s5) (s5 149 5) ∧ RDc s5) ∨ ((0 : Int) = 0 ∧ ¬ ∃ (T' : zS) (q : Int), bPl (ctx st) (st 1 1) (tn 135 st) (st 149 5) T' q) from (by
            refine Or.inr ⟨rfl, fun hx => ?_⟩
            obtain ⟨T', q, h0, v, w, h1, h2, h3, h4, h5⟩ := hx
            exact l5 ⟨v, w, q, h1, h2, h3, h4⟩))⟩
theorem k_cPlaceBB_m (hTb : aTb zSh rx_tb cl) {D : Nat} (hD : 5 ≤ D) : ∀ as st (Q Q' : zQ), (∀ r st', Q r st' → Q' r st') → k_cPlaceBB 239 as st Q → cl D 239 as st Q' := by
  intro as st Q Q' hQ h
  unfold k_cPlaceBB at h
  split at h
  · obtain ⟨rfl, h⟩ := h
    exact c_cPlaceBB hTb hD (ct_cPlaceBB_m hQ h)
  · exact h.elim
set_option maxHeartbeats 4000000 in
set_option maxRecDepth 100000 in
theorem c_cThingBB (hTb : aTb zSh rx_tb cl) {D : Nat} (hD : 5 ≤ D) {st : zS} {Q : zQ} (h : ct_cThingBB  st Q) : cl D 242 [.inr (.inr (.inl 148))] st Q := by
  obtain ⟨d, rfl⟩ : ∃ d, D = d + 1 := ⟨D - 1, by omega⟩
  refine hTb d 242 (rx_m242, 4, 0, 0, 2) rfl _ _ _ (Nat.le_of_ble_eq_true rfl) (fun K hcl hsf hsl => ?_)
  have hcm : zmo (wcL [(247, k_cNewNameB), (250, k_cTakeOwn), (248, k_cKnownB), (249, k_cNumber), (281, k_cAddThingB)]) (cl d) := (wcL_m (wm_cons (k_cNewNameB_m hTb (by omega)) (wm_cons (k_cTakeOwn_m hTb (by omega)) (wm_cons (k_cKnownB_m hTb (by omega)) (wm_cons (k_cNumber_m hTb (by omega)) (wm_cons (k_cAddThingB_m hTb (by omega)) wm_nil))))))
  obtain ⟨hR, hQ⟩ := h
  obtain ⟨hG, rd, ow, tw, lim⟩ := hR
  change RDc st at rd
  change cOW st at ow
  change st 148 1 = 135 at tw
  change st 135 8 < 8 at lim
  have rb := rd.1
  have g1 := g_f148_1 hG
  have g2 := g_f135_8 hG
  have g3 := g_wKind hG
  have g4 := g_wValue hG
  refine dr1_ok (Rt := Q) (wc := (wcL [(247, k_cNewNameB), (250, k_cTakeOwn), (248, k_cKnownB), (249, k_cNumber), (281, k_cAddThingB)])) (stp := []) hcm hcl [(56, 135)] [] 63 ?_
  show (148 = 148 ∧ (rq_cNewNameB  st ∧ (∀ (r5 : Int) (s5 : zS), en_cNewNameB  st r5 s5 → ((r5 = ((-1) : Int) → ((0 = (0 : Int) ∨ 0 = (1 : Int)) ∧ Q (some (.inl 0)) s5)) ∧ (¬ (r5 = ((-1) : Int)) → (148 = 148 ∧ (rq_cTakeOwn (7) s5 ∧ (∀ (r6 : Int) (s6 : zS), en_cTakeOwn (7) s5 r6 s6 → ((¬ r6 = (0 : Int) → (148 = 148 ∧ (rq_cKnownB  s6 ∧ (∀ (r7 : Int) (s7 : zS), en_cKnownB  s6 r7 s7 → ((r7 = ((-1) : Int) → ((0 = (0 : Int) ∨ 0 = (1 : Int)) ∧ Q (some (.inl 0)) s7)) ∧ (¬ (r7 = ((-1) : Int)) → (148 = 148 ∧ (rq_cTakeOwn (8) s7 ∧ (∀ (r8 : Int) (s8 : zS), en_cTakeOwn (8) s7 r8 s8 → ((¬ r8 = (0 : Int) → (148 = 148 ∧ (rq_cNumber (0) (9) s8 ∧ (∀ (r9 : Int) (s9 : zS), en_cNumber (0) (9) s8 r9 s9 → ((r9 = ((-1) : Int) → ((0 = (0 : Int) ∨ 0 = (1 : Int)) ∧ Q (some (.inl 0)) s9)) ∧ (¬ (r9 = ((-1) : Int)) → ((s9 148 1 = (135 : Int)) ∧ (135 = 135 ∧ (rq_cAddThingB r5 r7 r9 s9 ∧ ((((1 : Int) = (0 : Int) → _) ∧ (¬ ((1 : Int) = (0 : Int)) → ((1 = (0 : Int) ∨ 1 = (1 : Int)) ∧ Q (some (.inl 1)) (zup (zup (zup (zup s9 141 (s9 135 8 : Int).toNat r5) 142 (s9 135 8 : Int).toNat r7) 143 (s9 135 8 : Int).toNat r9) 135 8 ((s9 135 8) + 1))))))))))))))) ∧ (¬ (¬ r8 = (0 : Int)) → ((0 = (0 : Int) ∨ 0 = (1 : Int)) ∧ Q (some (.inl 0)) s8)))))))))))) ∧ (¬ (¬ r6 = (0 : Int)) → ((0 = (0 : Int) ∨ 0 = (1 : Int)) ∧ Q (some (.inl 0)) s6)))))))))))
  refine ⟨rfl, ⟨hG, (show RDc st from rd), (show cOW st from ow), (show st 148 1 = 135 from by omega)⟩, fun r5 s5 q5 => ?_⟩
  obtain ⟨gs5, fs5, o5⟩ := q5
  change (∃ v : Int, tk (ctx st) (st 1 1) (st 149 5) 1 v (s5 149 5) ∧ NOwn v ∧ isN6 v r5 ∧ FrN (tn 135 st) r5 ∧ RDc s5) ∨ (r5 = -1 ∧ ¬ ∃ v w e : Int, tk (ctx st) (st 1 1) (st 149 5) 1 v e ∧ NOwn v ∧ isN6 v w ∧ FrN (tn 135 st) w) at o5
  have g11 := g_tsize hG
  have g12 := g_wStart hG
  have g13 := g_wStart gs5
  rcases o5 with ⟨v5, t5, w5, x5, fr5, rd5⟩ | ⟨y5, l5⟩
  · have lo5 := isN6_lo x5
    refine ⟨fun h14 => (by exfalso; omega), fun h14 => ?_⟩
    refine ⟨rfl, ⟨gs5, (show RDc s5 from rd5)⟩, fun r6 s6 q6 => ?_⟩
    obtain ⟨gs6, fs6, o6⟩ := q6
    change (r6 = 1 ∧ s5 149 3 = 2 ∧ s5 149 4 = (7) ∧ RDc s6 ∧ NX s5 s6) ∨ (r6 = 0 ∧ ¬ (s5 149 3 = 2 ∧ s5 149 4 = (7))) at o6
    have g15 := g_wKind gs5
    have g16 := g_wValue gs5
    rcases o6 with ⟨y6, k6, v6, rd6, nx6⟩ | ⟨y6, k6⟩
    · refine ⟨fun h17 => ?_, fun h17 => (by exfalso; omega)⟩
      have e19 : s5 148 1 = st 148 1 := fs5 148 1 rfl rfl
      have e18 : s6 148 1 = s5 148 1 := fs6 148 1 rfl rfl
      refine ⟨rfl, ⟨gs6, (show RDc s6 from rd6), (show cOW s6 from (fun i hi => ((show aFr m_cThingBB st s6 from (fr_tr (fr_tr (fr_rf _ _) fs5 rfl) fs6 rfl)) 150 i rfl rfl).trans (ow i hi))), (show s6 148 1 = 135 from by omega)⟩, fun r7 s7 q7 => ?_⟩
      obtain ⟨gs7, fs7, o7⟩ := q7
      change (∃ v : Int, tk (ctx s6) (s6 1 1) (s6 149 5) 1 v (s7 149 5) ∧ KnP (tn 135 s6) v r7 ∧ RDc s7) ∨ (r7 = -1 ∧ ¬ ∃ v a e : Int, tk (ctx s6) (s6 1 1) (s6 149 5) 1 v e ∧ KnP (tn 135 s6) v a) at o7
      have e21 : s5 1 1 = st 1 1 := fs5 1 1 rfl rfl
      have e20 : s6 1 1 = s5 1 1 := fs6 1 1 rfl rfl
      have g22 := g_wStart gs6
      have g23 := g_wStart gs7
      rcases o7 with ⟨v7, t7, kn7, rd7⟩ | ⟨y7, l7⟩
      · have xk7 : 0 ≤ r7 ∧ r7 < s6 135 1 := KnP_b kn7
        have xm7 := g_f135_1 gs6
        refine ⟨fun h24 => (by exfalso; omega), fun h24 => ?_⟩
        refine ⟨rfl, ⟨gs7, (show RDc s7 from rd7)⟩, fun r8 s8 q8 => ?_⟩
        obtain ⟨gs8, fs8, o8⟩ := q8
        change (r8 = 1 ∧ s7 149 3 = 2 ∧ s7 149 4 = (8) ∧ RDc s8 ∧ NX s7 s8) ∨ (r8 = 0 ∧ ¬ (s7 149 3 = 2 ∧ s7 149 4 = (8))) at o8
        have g25 := g_wKind gs7
        have g26 := g_wValue gs7
        rcases o8 with ⟨y8, k8, v8, rd8, nx8⟩ | ⟨y8, k8⟩
        · refine ⟨fun h27 => ?_, fun h27 => (by exfalso; omega)⟩
          refine ⟨rfl, ⟨gs8, (show RDc s8 from rd8), (show cOW s8 from (fun i hi => ((show aFr m_cThingBB st s8 from (fr_tr (fr_tr (fr_tr (fr_tr (fr_rf _ _) fs5 rfl) fs6 rfl) fs7 rfl) fs8 rfl)) 150 i rfl rfl).trans (ow i hi))), (show 0 ≤ (0) ∧ (0) ≤ 1 ∧ (9) ≤ 9999 from by omega)⟩, fun r9 s9 q9 => ?_⟩
          obtain ⟨gs9, fs9, o9⟩ := q9
          change ((0) ≤ r9 ∧ r9 ≤ (9) ∧ tk (ctx s8) (s8 1 1) (s8 149 5) 2 r9 (s9 149 5) ∧ RDc s9) ∨ (r9 = -1 ∧ ¬ ∃ v e : Int, tk (ctx s8) (s8 1 1) (s8 149 5) 2 v e ∧ (0) ≤ v ∧ v ≤ (9)) at o9
          have e29 : s7 1 1 = s6 1 1 := fs7 1 1 rfl rfl
          have e28 : s8 1 1 = s7 1 1 := fs8 1 1 rfl rfl
          have g30 := g_wStart gs8
          have g31 := g_wStart gs9
          rcases o9 with ⟨la9, lb9, t9, rd9⟩ | ⟨y9, l9⟩
          · refine ⟨fun h32 => (by exfalso; omega), fun h32 => ?_⟩
            have e35 : s7 148 1 = s6 148 1 := fs7 148 1 rfl rfl
            have e34 : s8 148 1 = s7 148 1 := fs8 148 1 rfl rfl
            have e33 : s9 148 1 = s8 148 1 := fs9 148 1 rfl rfl
            refine ⟨by omega, ?_⟩
            have e40 : s5 135 8 = st 135 8 := fs5 135 8 rfl rfl
            have e39 : s6 135 8 = s5 135 8 := fs6 135 8 rfl rfl
            have e38 : s7 135 8 = s6 135 8 := fs7 135 8 rfl rfl
            have e37 : s8 135 8 = s7 135 8 := fs8 135 8 rfl rfl
            have e36 : s9 135 8 = s8 135 8 := fs9 135 8 rfl rfl
            refine ⟨rfl, ⟨gs9, (show -2147483648 ≤ r5 ∧ r5 ≤ 2147483647 ∧ s9 135 8 < 8 ∧ 0 ≤ r7 ∧ r7 ≤ 7 ∧ 0 ≤ r9 ∧ r9 ≤ 9 from by omega)⟩, ?_⟩
            refine ⟨fun h41 => absurd h41 (by decide), fun h41 => ?_⟩
            refine ⟨by omega, ?_⟩
            exact hQ _ _ ⟨(gInv_up (gInv_up (gInv_up (gInv_up gs9 (p_a141 (by omega))) (p_a142 (by omega))) (p_a143 (by omega))) (p_f135_8 (by omega))), (fr_f (fr_a (fr_a (fr_a (fr_tr (fr_tr (fr_tr (fr_tr (fr_tr (fr_rf _ _) fs5 rfl) fs6 rfl) fs7 rfl) fs8 rfl) fs9 rfl) rfl) rfl) rfl) rfl), (show ((1 : Int) = 1 ∧ bTh (ctx st) (st 1 1) (tn 135 st) (st 149 5) (tn 135 (zup (zup (zup (zup s9 141 (s9 135 8 : Int).toNat r5) 142 (s9 135 8 : Int).toNat r7) 143 (s9 135 8 : Int).toNat r9) 135 8 ((s9 135 8) + 1))) (s9 149 5) ∧ RDc (zup (zup (zup (zup s9 141 (s9 135 8 : Int).toNat r5) 142 (s9 135 8 : Int).toNat r7) 143 (s9 135 8 : Int).toNat r9) 135 8 ((s9 135 8) + 1))) ∨ ((1 : Int) = 0 ∧ ¬ ∃ (T' : zS) (q : Int), bTh (ctx st) (st 1 1) (tn 135 st) (st 149 5) T' q) from Or.inl ⟨rfl, ⟨lim, v5, r5, _, _, v7, r7, _, _, r9, t5, w5, x5, fr5, (show tk (ctx st) (st 1 1) _ 1 (24948 : Int) _ from tkS_e (sT_of (fun i => (show aFr m_cThingBB st s5 from (fr_tr (fr_rf _ _) fs5 rfl)) 2 i rfl rfl) ((show aFr m_cThingBB st s5 from (fr_tr (fr_rf _ _) fs5 rfl)) 1 1 rfl rfl) ((show aFr m_cThingBB st s5 from (fr_tr (fr_rf _ _) fs5 rfl)) 148 2 rfl rfl)) (nx_ow 7 rd5 (fun i hi => ((show aFr m_cThingBB st s5 from (fr_tr (fr_rf _ _) fs5 rfl)) 150 i rfl rfl).trans (ow i hi)) nx6 (by omega) (by omega) rfl)), (tkS_e (sT_of (fun i => (show aFr m_cThingBB st s6 from (fr_tr (fr_tr (fr_rf _ _) fs5 rfl) fs6 rfl)) 2 i rfl rfl) ((show aFr m_cThingBB st s6 from (fr_tr (fr_tr (fr_rf _ _) fs5 rfl) fs6 rfl)) 1 1 rfl rfl) ((show aFr m_cThingBB st s6 from (fr_tr (fr_tr (fr_rf _ _) fs5 rfl) fs6 rfl)) 148 2 rfl rfl)) t7), (show KnP (tn 135 st) v7 r7 from (show tn 135 s6 = tn 135 st from (by exact ((tn_fr (x := 135) rfl fs6).trans ((tn_fr (x := 135) rfl fs5).trans (Eq.refl (tn 135 st)))))) ▸ kn7), (show tk (ctx st) (st 1 1) _ 1 (1886743660 : Int) _ from tkS_e (sT_of (fun i => (show aFr m_cThingBB st s7 from (fr_tr (fr_tr (fr_tr (fr_rf _ _) fs5 rfl) fs6 rfl) fs7 rfl)) 2 i rfl rfl) ((show aFr m_cThingBB st s7 from (fr_tr (fr_tr (fr_tr (fr_rf _ _) fs5 rfl) fs6 rfl) fs7 rfl)) 1 1 rfl rfl) ((show aFr m_cThingBB st s7 from (fr_tr (fr_tr (fr_tr (fr_rf _ _) fs5 rfl) fs6 rfl) fs7 rfl)) 148 2 rfl rfl)) (nx_ow 8 rd7 (fun i hi => ((show aFr m_cThingBB st s7 from (fr_tr (fr_tr (fr_tr (fr_rf _ _) fs5 rfl) fs6 rfl) fs7 rfl)) 150 i rfl rfl).trans (ow i hi)) nx8 (by omega) (by omega) rfl)), (tkS_e (sT_of (fun i => (show aFr m_cThingBB st s8 from (fr_tr (fr_tr (fr_tr (fr_tr (fr_rf _ _) fs5 rfl) fs6 rfl) fs7 rfl) fs8 rfl)) 2 i rfl rfl) ((show aFr m_cThingBB st s8 from (fr_tr (fr_tr (fr_tr (fr_tr (fr_rf _ _) fs5 rfl) fs6 rfl) fs7 rfl) fs8 rfl)) 1 1 rfl rfl) ((show aFr m_cThingBB st s8 from (fr_tr (fr_tr (fr_tr (fr_tr (fr_rf _ _) fs5 rfl) fs6 rfl) fs7 rfl) fs8 rfl)) 148 2 rfl rfl)) t9), by omega, (by rw [show s9 135 8 = st 135 8 from by omega]; exact ((tn_up 135 _ (c := 0) 8 ((st 135 8) + 1) (by omega)).trans (congrArg (fun z_ : zS => zup z_ 0 8 ((st 135 8) + 1)) ((tn_up 135 _ (c := 8) (st 135 8 : Int).toNat r9 (by omega)).trans (congrArg (fun z_ : zS => zup z_ 8 (st 135 8 : Int).toNat r9) ((tn_up 135 _ (c := 7) (st 135 8 : Int).toNat r7 (by omega)).trans (congrArg (fun z_ : zS => zup z_ 7 (st 135 8 : Int).toNat r7) ((tn_up 135 _ (c := 6) (st 135 8 : Int).toNat r5 (by omega)).trans (congrArg (fun z_ : zS => zup z_ 6 (st 135 8 : Int).toNat r5) ((tn_fr (x := 135) rfl fs9).trans ((tn_fr (x := 135) rfl fs8).trans ((tn_fr (x := 135) rfl fs7).trans ((tn_fr (x := 135) rfl fs6).trans ((tn_fr (x := 135) rfl fs5).trans (Eq.refl (tn 135 st))))))))))))))))⟩, (show RDc (zup (zup (zup (zup s9 141 (s9 135 8 : Int).toNat r5) 142 (s9 135 8 : Int).toNat r7) 143 (s9 135 8 : Int).toNat r9) 135 8 ((s9 135 8) + 1)) from rd9)⟩)⟩
          · refine ⟨fun h42 => ?_, fun h42 => (by exfalso; omega)⟩
            refine ⟨by omega, ?_⟩
            exact hQ _ _ ⟨gs9, (fr_tr (fr_tr (fr_tr (fr_tr (fr_tr (fr_rf _ _) fs5 rfl) fs6 rfl) fs7 rfl) fs8 rfl) fs9 rfl), (show ((0 : Int) = 1 ∧ bTh (ctx st) (st 1 1) (tn 135 st) (st 149 5) (tn 135 s9) (s9 149 5) ∧ RDc s9) ∨ ((0 : Int) = 0 ∧ ¬ ∃ (T' : zS) (q : Int), bTh (ctx st) (st 1 1) (tn 135 st) (st 149 5) T' q) from (by
            refine Or.inr ⟨rfl, fun hx => ?_⟩
            obtain ⟨T', q, h0, v, w, e1, e2, u, a, e3, e4, m, h1, h2, h3, h4, h5, h6, h7, h8, h9, h10, h11⟩ := hx
            obtain ⟨-, rfl, rfl⟩ := tk_u t5 h1
            obtain ⟨-, -, rfl⟩ := tk_u (show tk (ctx st) (st 1 1) _ 1 (24948 : Int) _ from tkS_e (sT_of (fun i => (show aFr m_cThingBB st s5 from (fr_tr (fr_rf _ _) fs5 rfl)) 2 i rfl rfl) ((show aFr m_cThingBB st s5 from (fr_tr (fr_rf _ _) fs5 rfl)) 1 1 rfl rfl) ((show aFr m_cThingBB st s5 from (fr_tr (fr_rf _ _) fs5 rfl)) 148 2 rfl rfl)) (nx_ow 7 rd5 (fun i hi => ((show aFr m_cThingBB st s5 from (fr_tr (fr_rf _ _) fs5 rfl)) 150 i rfl rfl).trans (ow i hi)) nx6 (by omega) (by omega) rfl)) h5
            obtain ⟨-, rfl, rfl⟩ := tk_u (tkS_e (sT_of (fun i => (show aFr m_cThingBB st s6 from (fr_tr (fr_tr (fr_rf _ _) fs5 rfl) fs6 rfl)) 2 i rfl rfl) ((show aFr m_cThingBB st s6 from (fr_tr (fr_tr (fr_rf _ _) fs5 rfl) fs6 rfl)) 1 1 rfl rfl) ((show aFr m_cThingBB st s6 from (fr_tr (fr_tr (fr_rf _ _) fs5 rfl) fs6 rfl)) 148 2 rfl rfl)) t7) h6
            obtain ⟨-, -, rfl⟩ := tk_u (show tk (ctx st) (st 1 1) _ 1 (1886743660 : Int) _ from tkS_e (sT_of (fun i => (show aFr m_cThingBB st s7 from (fr_tr (fr_tr (fr_tr (fr_rf _ _) fs5 rfl) fs6 rfl) fs7 rfl)) 2 i rfl rfl) ((show aFr m_cThingBB st s7 from (fr_tr (fr_tr (fr_tr (fr_rf _ _) fs5 rfl) fs6 rfl) fs7 rfl)) 1 1 rfl rfl) ((show aFr m_cThingBB st s7 from (fr_tr (fr_tr (fr_tr (fr_rf _ _) fs5 rfl) fs6 rfl) fs7 rfl)) 148 2 rfl rfl)) (nx_ow 8 rd7 (fun i hi => ((show aFr m_cThingBB st s7 from (fr_tr (fr_tr (fr_tr (fr_rf _ _) fs5 rfl) fs6 rfl) fs7 rfl)) 150 i rfl rfl).trans (ow i hi)) nx8 (by omega) (by omega) rfl)) h8
            have hb := tk_num h9
            exact l9 ⟨m, q, (by rw [(sT_of (fun i => (show aFr m_cThingBB st s8 from (fr_tr (fr_tr (fr_tr (fr_tr (fr_rf _ _) fs5 rfl) fs6 rfl) fs7 rfl) fs8 rfl)) 2 i rfl rfl) ((show aFr m_cThingBB st s8 from (fr_tr (fr_tr (fr_tr (fr_tr (fr_rf _ _) fs5 rfl) fs6 rfl) fs7 rfl) fs8 rfl)) 1 1 rfl rfl) ((show aFr m_cThingBB st s8 from (fr_tr (fr_tr (fr_tr (fr_tr (fr_rf _ _) fs5 rfl) fs6 rfl) fs7 rfl) fs8 rfl)) 148 2 rfl rfl)).1, (sT_of (fun i => (show aFr m_cThingBB st s8 from (fr_tr (fr_tr (fr_tr (fr_tr (fr_rf _ _) fs5 rfl) fs6 rfl) fs7 rfl) fs8 rfl)) 2 i rfl rfl) ((show aFr m_cThingBB st s8 from (fr_tr (fr_tr (fr_tr (fr_tr (fr_rf _ _) fs5 rfl) fs6 rfl) fs7 rfl) fs8 rfl)) 1 1 rfl rfl) ((show aFr m_cThingBB st s8 from (fr_tr (fr_tr (fr_tr (fr_tr (fr_rf _ _) fs5 rfl) fs6 rfl) fs7 rfl) fs8 rfl)) 148 2 rfl rfl)).2.1]; exact h9), hb.1, h10⟩))⟩
        · refine ⟨fun h43 => (by exfalso; omega), fun h43 => ?_⟩
          refine ⟨by omega, ?_⟩
          have g44 := g_wStart gs8
          exact hQ _ _ ⟨gs8, (fr_tr (fr_tr (fr_tr (fr_tr (fr_rf _ _) fs5 rfl) fs6 rfl) fs7 rfl) fs8 rfl), (show ((0 : Int) = 1 ∧ bTh (ctx st) (st 1 1) (tn 135 st) (st 149 5) (tn 135 s8) (s8 149 5) ∧ RDc s8) ∨ ((0 : Int) = 0 ∧ ¬ ∃ (T' : zS) (q : Int), bTh (ctx st) (st 1 1) (tn 135 st) (st 149 5) T' q) from (by
            refine Or.inr ⟨rfl, fun hx => ?_⟩
            obtain ⟨T', q, h0, v, w, e1, e2, u, a, e3, e4, m, h1, h2, h3, h4, h5, h6, h7, h8, h9, h10, h11⟩ := hx
            obtain ⟨-, rfl, rfl⟩ := tk_u t5 h1
            obtain ⟨-, -, rfl⟩ := tk_u (show tk (ctx st) (st 1 1) _ 1 (24948 : Int) _ from tkS_e (sT_of (fun i => (show aFr m_cThingBB st s5 from (fr_tr (fr_rf _ _) fs5 rfl)) 2 i rfl rfl) ((show aFr m_cThingBB st s5 from (fr_tr (fr_rf _ _) fs5 rfl)) 1 1 rfl rfl) ((show aFr m_cThingBB st s5 from (fr_tr (fr_rf _ _) fs5 rfl)) 148 2 rfl rfl)) (nx_ow 7 rd5 (fun i hi => ((show aFr m_cThingBB st s5 from (fr_tr (fr_rf _ _) fs5 rfl)) 150 i rfl rfl).trans (ow i hi)) nx6 (by omega) (by omega) rfl)) h5
            obtain ⟨-, rfl, rfl⟩ := tk_u (tkS_e (sT_of (fun i => (show aFr m_cThingBB st s6 from (fr_tr (fr_tr (fr_rf _ _) fs5 rfl) fs6 rfl)) 2 i rfl rfl) ((show aFr m_cThingBB st s6 from (fr_tr (fr_tr (fr_rf _ _) fs5 rfl) fs6 rfl)) 1 1 rfl rfl) ((show aFr m_cThingBB st s6 from (fr_tr (fr_tr (fr_rf _ _) fs5 rfl) fs6 rfl)) 148 2 rfl rfl)) t7) h6
            exact (tk_ex (sT_of (fun i => (show aFr m_cThingBB st s7 from (fr_tr (fr_tr (fr_tr (fr_rf _ _) fs5 rfl) fs6 rfl) fs7 rfl)) 2 i rfl rfl) ((show aFr m_cThingBB st s7 from (fr_tr (fr_tr (fr_tr (fr_rf _ _) fs5 rfl) fs6 rfl) fs7 rfl)) 1 1 rfl rfl) ((show aFr m_cThingBB st s7 from (fr_tr (fr_tr (fr_tr (fr_rf _ _) fs5 rfl) fs6 rfl) fs7 rfl)) 148 2 rfl rfl)) (own_no rd7 (fun i hi => ((show aFr m_cThingBB st s7 from (fr_tr (fr_tr (fr_tr (fr_rf _ _) fs5 rfl) fs6 rfl) fs7 rfl)) 150 i rfl rfl).trans (ow i hi)) (i := 8) (by omega) (by omega))) ⟨e4, h8⟩))⟩
      · refine ⟨fun h45 => ?_, fun h45 => (by exfalso; omega)⟩
        refine ⟨by omega, ?_⟩
        exact hQ _ _ ⟨gs7, (fr_tr (fr_tr (fr_tr (fr_rf _ _) fs5 rfl) fs6 rfl) fs7 rfl), (show ((0 : Int) = 1 ∧ bTh (ctx st) (st 1 1) (tn 135 st) (st 149 5) (tn 135 s7) (s7 149 5) ∧ RDc s7) ∨ ((0 : Int) = 0 ∧ ¬ ∃ (T' : zS) (q : Int), bTh (ctx st) (st 1 1) (tn 135 st) (st 149 5) T' q) from (by
            refine Or.inr ⟨rfl, fun hx => ?_⟩
            obtain ⟨T', q, h0, v, w, e1, e2, u, a, e3, e4, m, h1, h2, h3, h4, h5, h6, h7, h8, h9, h10, h11⟩ := hx
            obtain ⟨-, rfl, rfl⟩ := tk_u t5 h1
            obtain ⟨-, -, rfl⟩ := tk_u (show tk (ctx st) (st 1 1) _ 1 (24948 : Int) _ from tkS_e (sT_of (fun i => (show aFr m_cThingBB st s5 from (fr_tr (fr_rf _ _) fs5 rfl)) 2 i rfl rfl) ((show aFr m_cThingBB st s5 from (fr_tr (fr_rf _ _) fs5 rfl)) 1 1 rfl rfl) ((show aFr m_cThingBB st s5 from (fr_tr (fr_rf _ _) fs5 rfl)) 148 2 rfl rfl)) (nx_ow 7 rd5 (fun i hi => ((show aFr m_cThingBB st s5 from (fr_tr (fr_rf _ _) fs5 rfl)) 150 i rfl rfl).trans (ow i hi)) nx6 (by omega) (by omega) rfl)) h5
            rw [← (show tn 135 s6 = tn 135 st from (by exact ((tn_fr (x := 135) rfl fs6).trans ((tn_fr (x := 135) rfl fs5).trans (Eq.refl (tn 135 st))))))] at h7
            exact l7 ⟨u, a, e3, (by rw [(sT_of (fun i => (show aFr m_cThingBB st s6 from (fr_tr (fr_tr (fr_rf _ _) fs5 rfl) fs6 rfl)) 2 i rfl rfl) ((show aFr m_cThingBB st s6 from (fr_tr (fr_tr (fr_rf _ _) fs5 rfl) fs6 rfl)) 1 1 rfl rfl) ((show aFr m_cThingBB st s6 from (fr_tr (fr_tr (fr_rf _ _) fs5 rfl) fs6 rfl)) 148 2 rfl rfl)).1, (sT_of (fun i => (show aFr m_cThingBB st s6 from (fr_tr (fr_tr (fr_rf _ _) fs5 rfl) fs6 rfl)) 2 i rfl rfl) ((show aFr m_cThingBB st s6 from (fr_tr (fr_tr (fr_rf _ _) fs5 rfl) fs6 rfl)) 1 1 rfl rfl) ((show aFr m_cThingBB st s6 from (fr_tr (fr_tr (fr_rf _ _) fs5 rfl) fs6 rfl)) 148 2 rfl rfl)).2.1]; exact h6), h7⟩))⟩
    · refine ⟨fun h46 => (by exfalso; omega), fun h46 => ?_⟩
      refine ⟨by omega, ?_⟩
      have g47 := g_wStart gs6
      exact hQ _ _ ⟨gs6, (fr_tr (fr_tr (fr_rf _ _) fs5 rfl) fs6 rfl), (show ((0 : Int) = 1 ∧ bTh (ctx st) (st 1 1) (tn 135 st) (st 149 5) (tn 135 s6) (s6 149 5) ∧ RDc s6) ∨ ((0 : Int) = 0 ∧ ¬ ∃ (T' : zS) (q : Int), bTh (ctx st) (st 1 1) (tn 135 st) (st 149 5) T' q) from (by
            refine Or.inr ⟨rfl, fun hx => ?_⟩
            obtain ⟨T', q, h0, v, w, e1, e2, u, a, e3, e4, m, h1, h2, h3, h4, h5, h6, h7, h8, h9, h10, h11⟩ := hx
            obtain ⟨-, rfl, rfl⟩ := tk_u t5 h1
            exact (tk_ex (sT_of (fun i => (show aFr m_cThingBB st s5 from (fr_tr (fr_rf _ _) fs5 rfl)) 2 i rfl rfl) ((show aFr m_cThingBB st s5 from (fr_tr (fr_rf _ _) fs5 rfl)) 1 1 rfl rfl) ((show aFr m_cThingBB st s5 from (fr_tr (fr_rf _ _) fs5 rfl)) 148 2 rfl rfl)) (own_no rd5 (fun i hi => ((show aFr m_cThingBB st s5 from (fr_tr (fr_rf _ _) fs5 rfl)) 150 i rfl rfl).trans (ow i hi)) (i := 7) (by omega) (by omega))) ⟨e2, h5⟩))⟩
  · refine ⟨fun h48 => ?_, fun h48 => (by exfalso; omega)⟩
    refine ⟨by omega, ?_⟩
    exact hQ _ _ ⟨gs5, (fr_tr (fr_rf _ _) fs5 rfl), (show ((0 : Int) = 1 ∧ bTh (ctx st) (st 1 1) (tn 135 st) (st 149 5) (tn 135 s5) (s5 149 5) ∧ RDc s5) ∨ ((0 : Int) = 0 ∧ ¬ ∃ (T' : zS) (q : Int), bTh (ctx st) (st 1 1) (tn 135 st) (st 149 5) T' q) from (by
            refine Or.inr ⟨rfl, fun hx => ?_⟩
            obtain ⟨T', q, h0, v, w, e1, e2, u, a, e3, e4, m, h1, h2, h3, h4, h5, h6, h7, h8, h9, h10, h11⟩ := hx
            exact l5 ⟨v, w, e1, h1, h2, h3, h4⟩))⟩
theorem k_cThingBB_m (hTb : aTb zSh rx_tb cl) {D : Nat} (hD : 5 ≤ D) : ∀ as st (Q Q' : zQ), (∀ r st', Q r st' → Q' r st') → k_cThingBB 242 as st Q → cl D 242 as st Q' := by
  intro as st Q Q' hQ h
  unfold k_cThingBB at h
  split at h
  · obtain ⟨rfl, h⟩ := h
    exact c_cThingBB hTb hD (ct_cThingBB_m hQ h)
  · exact h.elim
set_option maxHeartbeats 4000000 in
set_option maxRecDepth 100000 in
theorem c_cHeatBB (hTb : aTb zSh rx_tb cl) {D : Nat} (hD : 5 ≤ D) {st : zS} {Q : zQ} (h : ct_cHeatBB  st Q) : cl D 245 [.inr (.inr (.inl 148))] st Q := by
  obtain ⟨d, rfl⟩ : ∃ d, D = d + 1 := ⟨D - 1, by omega⟩
  refine hTb d 245 (rx_m245, 1, 0, 0, 2) rfl _ _ _ (Nat.le_of_ble_eq_true rfl) (fun K hcl hsf hsl => ?_)
  have hcm : zmo (wcL [(249, k_cNumber)]) (cl d) := (wcL_m (wm_cons (k_cNumber_m hTb (by omega)) wm_nil))
  obtain ⟨hR, hQ⟩ := h
  obtain ⟨hG, rd, ow, tw⟩ := hR
  change RDc st at rd
  change cOW st at ow
  change st 148 1 = 135 at tw
  have rb := rd.1
  have g1 := g_f148_1 hG
  have g2 := g_wKind hG
  have g3 := g_wValue hG
  refine dr1_ok (Rt := Q) (wc := (wcL [(249, k_cNumber)])) (stp := []) hcm hcl [(1, 135), (15, 135)] [] 36 ?_
  show ((st 148 1 = (135 : Int)) ∧ (148 = 148 ∧ (rq_cNumber (0) (40) st ∧ (∀ (r4 : Int) (s4 : zS), en_cNumber (0) (40) st r4 s4 → ((s4 148 1 = (135 : Int)) ∧ ((r4 = ((-1) : Int) → ((0 = (0 : Int) ∨ 0 = (1 : Int)) ∧ Q (some (.inl 0)) (zup s4 135 13 r4))) ∧ (¬ (r4 = ((-1) : Int)) → ((1 = (0 : Int) ∨ 1 = (1 : Int)) ∧ Q (some (.inl 1)) (zup s4 135 13 r4)))))))))
  refine ⟨by omega, ?_⟩
  refine ⟨rfl, ⟨hG, (show RDc st from rd), (show cOW st from ow), (show 0 ≤ (0) ∧ (0) ≤ 1 ∧ (40) ≤ 9999 from by omega)⟩, fun r4 s4 q4 => ?_⟩
  obtain ⟨gs4, fs4, o4⟩ := q4
  change ((0) ≤ r4 ∧ r4 ≤ (40) ∧ tk (ctx st) (st 1 1) (st 149 5) 2 r4 (s4 149 5) ∧ RDc s4) ∨ (r4 = -1 ∧ ¬ ∃ v e : Int, tk (ctx st) (st 1 1) (st 149 5) 2 v e ∧ (0) ≤ v ∧ v ≤ (40)) at o4
  have g5 := g_tsize hG
  have g6 := g_wStart hG
  have g7 := g_wStart gs4
  rcases o4 with ⟨la4, lb4, t4, rd4⟩ | ⟨y4, l4⟩
  · have e8 : s4 148 1 = st 148 1 := fs4 148 1 rfl rfl
    refine ⟨by omega, ?_⟩
    refine ⟨fun h9 => (by exfalso; omega), fun h9 => ?_⟩
    refine ⟨by omega, ?_⟩
    exact hQ _ _ ⟨(gInv_up gs4 (p_f135_13 (by omega))), (fr_f (fr_tr (fr_rf _ _) fs4 rfl) rfl), (show ((1 : Int) = 1 ∧ bHe (ctx st) (st 1 1) (tn 135 st) (st 149 5) (tn 135 (zup s4 135 13 r4)) (s4 149 5) 13 40 ∧ RDc (zup s4 135 13 r4)) ∨ ((1 : Int) = 0 ∧ ¬ ∃ (T' : zS) (q : Int), bHe (ctx st) (st 1 1) (tn 135 st) (st 149 5) T' q 13 40) from Or.inl ⟨rfl, ⟨r4, t4, by omega, (by exact ((tn_up 135 _ (c := 0) 13 r4 (by omega)).trans (congrArg (fun z_ : zS => zup z_ 0 13 r4) ((tn_fr (x := 135) rfl fs4).trans (Eq.refl (tn 135 st))))))⟩, (show RDc (zup s4 135 13 r4) from rd4)⟩)⟩
  · have e10 : s4 148 1 = st 148 1 := fs4 148 1 rfl rfl
    refine ⟨by omega, ?_⟩
    refine ⟨fun h11 => ?_, fun h11 => (by exfalso; omega)⟩
    refine ⟨by omega, ?_⟩
    exact hQ _ _ ⟨(gInv_up gs4 (p_f135_13 (by omega))), (fr_f (fr_tr (fr_rf _ _) fs4 rfl) rfl), (show ((0 : Int) = 1 ∧ bHe (ctx st) (st 1 1) (tn 135 st) (st 149 5) (tn 135 (zup s4 135 13 r4)) (s4 149 5) 13 40 ∧ RDc (zup s4 135 13 r4)) ∨ ((0 : Int) = 0 ∧ ¬ ∃ (T' : zS) (q : Int), bHe (ctx st) (st 1 1) (tn 135 st) (st 149 5) T' q 13 40) from (by
            refine Or.inr ⟨rfl, fun hx => ?_⟩
            obtain ⟨T', q, m, h1, h2, h3⟩ := hx
            have hb := tk_num h1
            exact l4 ⟨m, q, h1, hb.1, h2⟩))⟩
theorem k_cHeatBB_m (hTb : aTb zSh rx_tb cl) {D : Nat} (hD : 5 ≤ D) : ∀ as st (Q Q' : zQ), (∀ r st', Q r st' → Q' r st') → k_cHeatBB 245 as st Q → cl D 245 as st Q' := by
  intro as st Q Q' hQ h
  unfold k_cHeatBB at h
  split at h
  · obtain ⟨rfl, h⟩ := h
    exact c_cHeatBB hTb hD (ct_cHeatBB_m hQ h)
  · exact h.elim
set_option maxHeartbeats 4000000 in
set_option maxRecDepth 100000 in
theorem c_cHotBB (hTb : aTb zSh rx_tb cl) {D : Nat} (hD : 5 ≤ D) {st : zS} {Q : zQ} (h : ct_cHotBB  st Q) : cl D 246 [.inr (.inr (.inl 148))] st Q := by
  obtain ⟨d, rfl⟩ : ∃ d, D = d + 1 := ⟨D - 1, by omega⟩
  refine hTb d 246 (rx_m246, 1, 0, 0, 2) rfl _ _ _ (Nat.le_of_ble_eq_true rfl) (fun K hcl hsf hsl => ?_)
  have hcm : zmo (wcL [(249, k_cNumber)]) (cl d) := (wcL_m (wm_cons (k_cNumber_m hTb (by omega)) wm_nil))
  obtain ⟨hR, hQ⟩ := h
  obtain ⟨hG, rd, ow, tw⟩ := hR
  change RDc st at rd
  change cOW st at ow
  change st 148 1 = 135 at tw
  have rb := rd.1
  have g1 := g_f148_1 hG
  have g2 := g_wKind hG
  have g3 := g_wValue hG
  refine dr1_ok (Rt := Q) (wc := (wcL [(249, k_cNumber)])) (stp := []) hcm hcl [(1, 135), (15, 135)] [] 36 ?_
  show ((st 148 1 = (135 : Int)) ∧ (148 = 148 ∧ (rq_cNumber (0) (100) st ∧ (∀ (r4 : Int) (s4 : zS), en_cNumber (0) (100) st r4 s4 → ((s4 148 1 = (135 : Int)) ∧ ((r4 = ((-1) : Int) → ((0 = (0 : Int) ∨ 0 = (1 : Int)) ∧ Q (some (.inl 0)) (zup s4 135 14 r4))) ∧ (¬ (r4 = ((-1) : Int)) → ((1 = (0 : Int) ∨ 1 = (1 : Int)) ∧ Q (some (.inl 1)) (zup s4 135 14 r4)))))))))
  refine ⟨by omega, ?_⟩
  refine ⟨rfl, ⟨hG, (show RDc st from rd), (show cOW st from ow), (show 0 ≤ (0) ∧ (0) ≤ 1 ∧ (100) ≤ 9999 from by omega)⟩, fun r4 s4 q4 => ?_⟩
  obtain ⟨gs4, fs4, o4⟩ := q4
  change ((0) ≤ r4 ∧ r4 ≤ (100) ∧ tk (ctx st) (st 1 1) (st 149 5) 2 r4 (s4 149 5) ∧ RDc s4) ∨ (r4 = -1 ∧ ¬ ∃ v e : Int, tk (ctx st) (st 1 1) (st 149 5) 2 v e ∧ (0) ≤ v ∧ v ≤ (100)) at o4
  have g5 := g_tsize hG
  have g6 := g_wStart hG
  have g7 := g_wStart gs4
  rcases o4 with ⟨la4, lb4, t4, rd4⟩ | ⟨y4, l4⟩
  · have e8 : s4 148 1 = st 148 1 := fs4 148 1 rfl rfl
    refine ⟨by omega, ?_⟩
    refine ⟨fun h9 => (by exfalso; omega), fun h9 => ?_⟩
    refine ⟨by omega, ?_⟩
    exact hQ _ _ ⟨(gInv_up gs4 (p_f135_14 (by omega))), (fr_f (fr_tr (fr_rf _ _) fs4 rfl) rfl), (show ((1 : Int) = 1 ∧ bHe (ctx st) (st 1 1) (tn 135 st) (st 149 5) (tn 135 (zup s4 135 14 r4)) (s4 149 5) 14 100 ∧ RDc (zup s4 135 14 r4)) ∨ ((1 : Int) = 0 ∧ ¬ ∃ (T' : zS) (q : Int), bHe (ctx st) (st 1 1) (tn 135 st) (st 149 5) T' q 14 100) from Or.inl ⟨rfl, ⟨r4, t4, by omega, (by exact ((tn_up 135 _ (c := 0) 14 r4 (by omega)).trans (congrArg (fun z_ : zS => zup z_ 0 14 r4) ((tn_fr (x := 135) rfl fs4).trans (Eq.refl (tn 135 st))))))⟩, (show RDc (zup s4 135 14 r4) from rd4)⟩)⟩
  · have e10 : s4 148 1 = st 148 1 := fs4 148 1 rfl rfl
    refine ⟨by omega, ?_⟩
    refine ⟨fun h11 => ?_, fun h11 => (by exfalso; omega)⟩
    refine ⟨by omega, ?_⟩
    exact hQ _ _ ⟨(gInv_up gs4 (p_f135_14 (by omega))), (fr_f (fr_tr (fr_rf _ _) fs4 rfl) rfl), (show ((0 : Int) = 1 ∧ bHe (ctx st) (st 1 1) (tn 135 st) (st 149 5) (tn 135 (zup s4 135 14 r4)) (s4 149 5) 14 100 ∧ RDc (zup s4 135 14 r4)) ∨ ((0 : Int) = 0 ∧ ¬ ∃ (T' : zS) (q : Int), bHe (ctx st) (st 1 1) (tn 135 st) (st 149 5) T' q 14 100) from (by
            refine Or.inr ⟨rfl, fun hx => ?_⟩
            obtain ⟨T', q, m, h1, h2, h3⟩ := hx
            have hb := tk_num h1
            exact l4 ⟨m, q, h1, hb.1, h2⟩))⟩
theorem k_cHotBB_m (hTb : aTb zSh rx_tb cl) {D : Nat} (hD : 5 ≤ D) : ∀ as st (Q Q' : zQ), (∀ r st', Q r st' → Q' r st') → k_cHotBB 246 as st Q → cl D 246 as st Q' := by
  intro as st Q Q' hQ h
  unfold k_cHotBB at h
  split at h
  · obtain ⟨rfl, h⟩ := h
    exact c_cHotBB hTb hD (ct_cHotBB_m hQ h)
  · exact h.elim
set_option maxHeartbeats 4000000 in
set_option maxRecDepth 100000 in
theorem c_cStepBB (hTb : aTb zSh rx_tb cl) {D : Nat} (hD : 5 ≤ D) {st : zS} {Q : zQ} (h : ct_cStepBB  st Q) : cl D 241 [.inr (.inr (.inl 148))] st Q := by
  obtain ⟨d, rfl⟩ : ∃ d, D = d + 1 := ⟨D - 1, by omega⟩
  refine hTb d 241 (rx_m241, 4, 0, 0, 2) rfl _ _ _ (Nat.le_of_ble_eq_true rfl) (fun K hcl hsf hsl => ?_)
  have hcm : zmo (wcL [(248, k_cKnownB), (288, k_cCanFollowB), (235, k_cWrong), (250, k_cTakeOwn), (249, k_cNumber), (263, k_cAppendB)]) (cl d) := (wcL_m (wm_cons (k_cKnownB_m hTb (by omega)) (wm_cons (k_cCanFollowB_m hTb (by omega)) (wm_cons (k_cWrong_m hTb (by omega)) (wm_cons (k_cTakeOwn_m hTb (by omega)) (wm_cons (k_cNumber_m hTb (by omega)) (wm_cons (k_cAppendB_m hTb (by omega)) wm_nil)))))))
  obtain ⟨hR, hQ⟩ := h
  obtain ⟨hG, rd, ow, tw, lim, ti⟩ := hR
  change RDc st at rd
  change cOW st at ow
  change st 148 1 = 135 at tw
  change st 144 2 < 20 at lim
  change TIv (tn 135 st) at ti
  have rb := rd.1
  have g1 := g_f148_1 hG
  have g2 := g_f144_2 hG
  have g3 := g_wKind hG
  have g4 := g_wValue hG
  refine dr1_ok (Rt := Q) (wc := (wcL [(248, k_cKnownB), (288, k_cCanFollowB), (235, k_cWrong), (250, k_cTakeOwn), (249, k_cNumber), (263, k_cAppendB)])) (stp := []) hcm hcl [(21, 135), (25, 135), (69, 135)] [] 70 ?_
  show (148 = 148 ∧ (rq_cKnownB  st ∧ (∀ (r5 : Int) (s5 : zS), en_cKnownB  st r5 s5 → ((¬ r5 = ((-1) : Int) → ((s5 148 1 = (135 : Int)) ∧ ((s5 148 1 = (135 : Int)) ∧ (135 = 135 ∧ ((144) = 144 ∧ (rq_cCanFollowB r5 s5 ∧ (∀ (r6 : Int), en_cCanFollowB r5 s5 r6 → ((¬ r6 = (0 : Int) → (148 = 148 ∧ (rq_cTakeOwn (5) s5 ∧ (∀ (r7 : Int) (s7 : zS), en_cTakeOwn (5) s5 r7 s7 → ((¬ r7 = (0 : Int) → (148 = 148 ∧ (rq_cNumber (0) (30) s7 ∧ (∀ (r8 : Int) (s8 : zS), en_cNumber (0) (30) s7 r8 s8 → ((r8 = ((-1) : Int) → ((0 = (0 : Int) ∨ 0 = (1 : Int)) ∧ Q (some (.inl 0)) s8)) ∧ (¬ (r8 = ((-1) : Int)) → ((s8 148 1 = (135 : Int)) ∧ (144 = 144 ∧ (rq_cAppendB r5 r8 s8 ∧ ((((1 : Int) = (0 : Int) → _) ∧ (¬ ((1 : Int) = (0 : Int)) → ((1 = (0 : Int) ∨ 1 = (1 : Int)) ∧ Q (some (.inl 1)) (zup (zup (zup s8 145 (s8 144 2 : Int).toNat r5) 146 (s8 144 2 : Int).toNat r8) 144 2 ((s8 144 2) + 1))))))))))))))) ∧ (¬ (¬ r7 = (0 : Int)) → ((0 = (0 : Int) ∨ 0 = (1 : Int)) ∧ Q (some (.inl 0)) s7))))))) ∧ (¬ (¬ r6 = (0 : Int)) → (148 = 148 ∧ (rq_cWrong (3) (st 149 5) s5 ∧ (((0 = (0 : Int) ∨ 0 = (1 : Int)) ∧ Q (some (.inl 0)) (zup (zup s5 148 3 (3)) 148 4 (st 149 5))))))))))))))) ∧ (¬ (¬ r5 = ((-1) : Int)) → ((0 = (0 : Int) ∨ 0 = (1 : Int)) ∧ Q (some (.inl 0)) s5))))))
  have g11 := g_wStart hG
  refine ⟨rfl, ⟨hG, (show RDc st from rd), (show cOW st from ow), (show st 148 1 = 135 from by omega)⟩, fun r5 s5 q5 => ?_⟩
  obtain ⟨gs5, fs5, o5⟩ := q5
  change (∃ v : Int, tk (ctx st) (st 1 1) (st 149 5) 1 v (s5 149 5) ∧ KnP (tn 135 st) v r5 ∧ RDc s5) ∨ (r5 = -1 ∧ ¬ ∃ v a e : Int, tk (ctx st) (st 1 1) (st 149 5) 1 v e ∧ KnP (tn 135 st) v a) at o5
  have g12 := g_tsize hG
  have g13 := g_wStart gs5
  rcases o5 with ⟨v5, t5, kn5, rd5⟩ | ⟨y5, l5⟩
  · have xk5 : 0 ≤ r5 ∧ r5 < st 135 1 := KnP_b kn5
    have xm5 := g_f135_1 hG
    refine ⟨fun h14 => ?_, fun h14 => (by exfalso; omega)⟩
    have e15 : s5 148 1 = st 148 1 := fs5 148 1 rfl rfl
    refine ⟨by omega, ?_⟩
    refine ⟨by omega, ?_⟩
    have g17 := g_f135_1 hG
    have e16 : s5 135 1 = st 135 1 := fs5 135 1 rfl rfl
    have e18 : s5 144 2 = st 144 2 := fs5 144 2 rfl rfl
    refine ⟨rfl, rfl, ⟨gs5, (show 0 ≤ r5 ∧ r5 < s5 135 1 ∧ ∀ j : Int, 0 ≤ j → j < s5 144 2 → 0 ≤ s5 145 j.toNat ∧ s5 145 j.toNat < s5 135 1 from (by
          refine ⟨by omega, by omega, fun j z1 z2 => ?_⟩
          have z3 : tn 135 s5 = tn 135 st := (by exact ((tn_fr (x := 135) rfl fs5).trans (Eq.refl (tn 135 st))))
          have z4 := ti
          rw [← z3] at z4
          exact z4 j z1 z2))⟩, fun r6 q6 => ?_⟩
    have e6 := q6
    change (r6 = 1 ∧ (s5 144 2 = 0 ∨ ¬ s5 140 (8 * s5 145 (s5 144 2 - 1 : Int).toNat + r5 : Int).toNat = -1)) ∨ (r6 = 0 ∧ ¬ (s5 144 2 = 0 ∨ ¬ s5 140 (8 * s5 145 (s5 144 2 - 1 : Int).toNat + r5 : Int).toNat = -1)) at e6
    refine ⟨fun h19 => ?_, fun h19 => ?_⟩
    · refine ⟨rfl, ⟨gs5, (show RDc s5 from rd5)⟩, fun r7 s7 q7 => ?_⟩
      obtain ⟨gs7, fs7, o7⟩ := q7
      change (r7 = 1 ∧ s5 149 3 = 2 ∧ s5 149 4 = (5) ∧ RDc s7 ∧ NX s5 s7) ∨ (r7 = 0 ∧ ¬ (s5 149 3 = 2 ∧ s5 149 4 = (5))) at o7
      have g20 := g_wKind gs5
      have g21 := g_wValue gs5
      rcases o7 with ⟨y7, k7, v7, rd7, nx7⟩ | ⟨y7, k7⟩
      · refine ⟨fun h22 => ?_, fun h22 => (by exfalso; omega)⟩
        refine ⟨rfl, ⟨gs7, (show RDc s7 from rd7), (show cOW s7 from (fun i hi => ((show aFr m_cStepBB st s7 from (fr_tr (fr_tr (fr_rf _ _) fs5 rfl) fs7 rfl)) 150 i rfl rfl).trans (ow i hi))), (show 0 ≤ (0) ∧ (0) ≤ 1 ∧ (30) ≤ 9999 from by omega)⟩, fun r8 s8 q8 => ?_⟩
        obtain ⟨gs8, fs8, o8⟩ := q8
        change ((0) ≤ r8 ∧ r8 ≤ (30) ∧ tk (ctx s7) (s7 1 1) (s7 149 5) 2 r8 (s8 149 5) ∧ RDc s8) ∨ (r8 = -1 ∧ ¬ ∃ v e : Int, tk (ctx s7) (s7 1 1) (s7 149 5) 2 v e ∧ (0) ≤ v ∧ v ≤ (30)) at o8
        have e24 : s5 1 1 = st 1 1 := fs5 1 1 rfl rfl
        have e23 : s7 1 1 = s5 1 1 := fs7 1 1 rfl rfl
        have g25 := g_wStart gs7
        have g26 := g_wStart gs8
        rcases o8 with ⟨la8, lb8, t8, rd8⟩ | ⟨y8, l8⟩
        · refine ⟨fun h27 => (by exfalso; omega), fun h27 => ?_⟩
          have e29 : s7 148 1 = s5 148 1 := fs7 148 1 rfl rfl
          have e28 : s8 148 1 = s7 148 1 := fs8 148 1 rfl rfl
          refine ⟨by omega, ?_⟩
          have e31 : s7 144 2 = s5 144 2 := fs7 144 2 rfl rfl
          have e30 : s8 144 2 = s7 144 2 := fs8 144 2 rfl rfl
          refine ⟨rfl, ⟨gs8, (show s8 144 2 < 30 ∧ 0 ≤ r5 ∧ r5 ≤ 7 ∧ 0 ≤ r8 ∧ r8 ≤ 30 from by omega)⟩, ?_⟩
          refine ⟨fun h32 => absurd h32 (by decide), fun h32 => ?_⟩
          refine ⟨by omega, ?_⟩
          exact hQ _ _ ⟨(gInv_up (gInv_up (gInv_up gs8 (p_a145 (by omega))) (p_a146 (by omega))) (p_f144_2 (by omega))), (fr_f (fr_a (fr_a (fr_tr (fr_tr (fr_tr (fr_rf _ _) fs5 rfl) fs7 rfl) fs8 rfl) rfl) rfl) rfl), (show ((1 : Int) = 1 ∧ bSp (ctx st) (st 1 1) (tn 135 st) (st 149 5) (tn 135 (zup (zup (zup s8 145 (s8 144 2 : Int).toNat r5) 146 (s8 144 2 : Int).toNat r8) 144 2 ((s8 144 2) + 1))) (s8 149 5) ∧ RDc (zup (zup (zup s8 145 (s8 144 2 : Int).toNat r5) 146 (s8 144 2 : Int).toNat r8) 144 2 ((s8 144 2) + 1))) ∨ ((1 : Int) = 0 ∧ ¬ ∃ (T' : zS) (q : Int), bSp (ctx st) (st 1 1) (tn 135 st) (st 149 5) T' q) from (by
            have tq : tn 135 s5 = tn 135 st := (by exact ((tn_fr (x := 135) rfl fs5).trans (Eq.refl (tn 135 st))))
            have g0 : tn 135 s5 9 2 = tn 135 st 9 2 := by rw [tq]
            have g1 : tn 135 s5 5 = tn 135 st 5 := by rw [tq]
            have g2 : tn 135 s5 10 = tn 135 st 10 := by rw [tq]
            have g0 : s5 144 2 = st 144 2 := g0
            have g1 : s5 140 = st 140 := g1
            have g2 : s5 145 = st 145 := g2
            have hc : (st 144 2 = 0 ∨ ¬ st 140 (8 * st 145 (st 144 2 - 1).toNat + r5).toNat = -1) := by
              rw [← g0, ← g1, ← g2]
              rcases e6 with ⟨z1, z2⟩ | ⟨z1, z2⟩
              · exact z2
              · omega
            exact Or.inl ⟨rfl, ⟨lim, v5, r5, _, _, r8, t5, kn5, hc, (show tk (ctx st) (st 1 1) _ 1 (6713202 : Int) _ from tkS_e (sT_of (fun i => (show aFr m_cStepBB st s5 from (fr_tr (fr_rf _ _) fs5 rfl)) 2 i rfl rfl) ((show aFr m_cStepBB st s5 from (fr_tr (fr_rf _ _) fs5 rfl)) 1 1 rfl rfl) ((show aFr m_cStepBB st s5 from (fr_tr (fr_rf _ _) fs5 rfl)) 148 2 rfl rfl)) (nx_ow 5 rd5 (fun i hi => ((show aFr m_cStepBB st s5 from (fr_tr (fr_rf _ _) fs5 rfl)) 150 i rfl rfl).trans (ow i hi)) nx7 (by omega) (by omega) rfl)), (tkS_e (sT_of (fun i => (show aFr m_cStepBB st s7 from (fr_tr (fr_tr (fr_rf _ _) fs5 rfl) fs7 rfl)) 2 i rfl rfl) ((show aFr m_cStepBB st s7 from (fr_tr (fr_tr (fr_rf _ _) fs5 rfl) fs7 rfl)) 1 1 rfl rfl) ((show aFr m_cStepBB st s7 from (fr_tr (fr_tr (fr_rf _ _) fs5 rfl) fs7 rfl)) 148 2 rfl rfl)) t8), by omega, (by rw [show s8 144 2 = st 144 2 from by omega]; exact ((tn_up 135 _ (c := 9) 2 ((st 144 2) + 1) (by omega)).trans (congrArg (fun z_ : zS => zup z_ 9 2 ((st 144 2) + 1)) ((tn_up 135 _ (c := 11) (st 144 2 : Int).toNat r8 (by omega)).trans (congrArg (fun z_ : zS => zup z_ 11 (st 144 2 : Int).toNat r8) ((tn_up 135 _ (c := 10) (st 144 2 : Int).toNat r5 (by omega)).trans (congrArg (fun z_ : zS => zup z_ 10 (st 144 2 : Int).toNat r5) ((tn_fr (x := 135) rfl fs8).trans ((tn_fr (x := 135) rfl fs7).trans ((tn_fr (x := 135) rfl fs5).trans (Eq.refl (tn 135 st))))))))))))⟩, (show RDc (zup (zup (zup s8 145 (s8 144 2 : Int).toNat r5) 146 (s8 144 2 : Int).toNat r8) 144 2 ((s8 144 2) + 1)) from rd8)⟩))⟩
        · refine ⟨fun h33 => ?_, fun h33 => (by exfalso; omega)⟩
          refine ⟨by omega, ?_⟩
          exact hQ _ _ ⟨gs8, (fr_tr (fr_tr (fr_tr (fr_rf _ _) fs5 rfl) fs7 rfl) fs8 rfl), (show ((0 : Int) = 1 ∧ bSp (ctx st) (st 1 1) (tn 135 st) (st 149 5) (tn 135 s8) (s8 149 5) ∧ RDc s8) ∨ ((0 : Int) = 0 ∧ ¬ ∃ (T' : zS) (q : Int), bSp (ctx st) (st 1 1) (tn 135 st) (st 149 5) T' q) from (by
            refine Or.inr ⟨rfl, fun hx => ?_⟩
            obtain ⟨T', q, h0, v, a, e1, e2, m, h1, h2, h3, h4, h5, h6, h7⟩ := hx
            obtain ⟨-, rfl, rfl⟩ := tk_u t5 h1
            have ea := KnP_u kn5 h2
            subst ea
            obtain ⟨-, -, rfl⟩ := tk_u (show tk (ctx st) (st 1 1) _ 1 (6713202 : Int) _ from tkS_e (sT_of (fun i => (show aFr m_cStepBB st s5 from (fr_tr (fr_rf _ _) fs5 rfl)) 2 i rfl rfl) ((show aFr m_cStepBB st s5 from (fr_tr (fr_rf _ _) fs5 rfl)) 1 1 rfl rfl) ((show aFr m_cStepBB st s5 from (fr_tr (fr_rf _ _) fs5 rfl)) 148 2 rfl rfl)) (nx_ow 5 rd5 (fun i hi => ((show aFr m_cStepBB st s5 from (fr_tr (fr_rf _ _) fs5 rfl)) 150 i rfl rfl).trans (ow i hi)) nx7 (by omega) (by omega) rfl)) h4
            have hb := tk_num h5
            exact l8 ⟨m, q, (by rw [(sT_of (fun i => (show aFr m_cStepBB st s7 from (fr_tr (fr_tr (fr_rf _ _) fs5 rfl) fs7 rfl)) 2 i rfl rfl) ((show aFr m_cStepBB st s7 from (fr_tr (fr_tr (fr_rf _ _) fs5 rfl) fs7 rfl)) 1 1 rfl rfl) ((show aFr m_cStepBB st s7 from (fr_tr (fr_tr (fr_rf _ _) fs5 rfl) fs7 rfl)) 148 2 rfl rfl)).1, (sT_of (fun i => (show aFr m_cStepBB st s7 from (fr_tr (fr_tr (fr_rf _ _) fs5 rfl) fs7 rfl)) 2 i rfl rfl) ((show aFr m_cStepBB st s7 from (fr_tr (fr_tr (fr_rf _ _) fs5 rfl) fs7 rfl)) 1 1 rfl rfl) ((show aFr m_cStepBB st s7 from (fr_tr (fr_tr (fr_rf _ _) fs5 rfl) fs7 rfl)) 148 2 rfl rfl)).2.1]; exact h5), hb.1, h6⟩))⟩
      · refine ⟨fun h34 => (by exfalso; omega), fun h34 => ?_⟩
        refine ⟨by omega, ?_⟩
        have g35 := g_wStart gs7
        exact hQ _ _ ⟨gs7, (fr_tr (fr_tr (fr_rf _ _) fs5 rfl) fs7 rfl), (show ((0 : Int) = 1 ∧ bSp (ctx st) (st 1 1) (tn 135 st) (st 149 5) (tn 135 s7) (s7 149 5) ∧ RDc s7) ∨ ((0 : Int) = 0 ∧ ¬ ∃ (T' : zS) (q : Int), bSp (ctx st) (st 1 1) (tn 135 st) (st 149 5) T' q) from (by
            refine Or.inr ⟨rfl, fun hx => ?_⟩
            obtain ⟨T', q, h0, v, a, e1, e2, m, h1, h2, h3, h4, h5, h6, h7⟩ := hx
            obtain ⟨-, rfl, rfl⟩ := tk_u t5 h1
            have ea := KnP_u kn5 h2
            subst ea
            exact (tk_ex (sT_of (fun i => (show aFr m_cStepBB st s5 from (fr_tr (fr_rf _ _) fs5 rfl)) 2 i rfl rfl) ((show aFr m_cStepBB st s5 from (fr_tr (fr_rf _ _) fs5 rfl)) 1 1 rfl rfl) ((show aFr m_cStepBB st s5 from (fr_tr (fr_rf _ _) fs5 rfl)) 148 2 rfl rfl)) (own_no rd5 (fun i hi => ((show aFr m_cStepBB st s5 from (fr_tr (fr_rf _ _) fs5 rfl)) 150 i rfl rfl).trans (ow i hi)) (i := 5) (by omega) (by omega))) ⟨e2, h4⟩))⟩
    · refine ⟨rfl, ⟨gs5, (show -2147483648 ≤ (3) ∧ (3) ≤ 2147483647 ∧ -2147483648 ≤ (st 149 5) ∧ (st 149 5) ≤ 2147483647 from by omega)⟩, ?_⟩
      refine ⟨by omega, ?_⟩
      exact hQ _ _ ⟨(gInv_up (gInv_up gs5 (p_rFault (by omega))) (p_rFaultAt (by omega))), (fr_f (fr_f (fr_tr (fr_rf _ _) fs5 rfl) rfl) rfl), (show ((0 : Int) = 1 ∧ bSp (ctx st) (st 1 1) (tn 135 st) (st 149 5) (tn 135 (zup (zup s5 148 3 (3)) 148 4 (st 149 5))) (s5 149 5) ∧ RDc (zup (zup s5 148 3 (3)) 148 4 (st 149 5))) ∨ ((0 : Int) = 0 ∧ ¬ ∃ (T' : zS) (q : Int), bSp (ctx st) (st 1 1) (tn 135 st) (st 149 5) T' q) from (by
            refine Or.inr ⟨rfl, fun hx => ?_⟩
            obtain ⟨T', q, h0, v, a, e1, e2, m, h1, h2, h3, h4, h5, h6, h7⟩ := hx
            obtain ⟨-, rfl, rfl⟩ := tk_u t5 h1
            have ea := KnP_u kn5 h2
            subst ea
            have tq : tn 135 s5 = tn 135 st := (by exact ((tn_fr (x := 135) rfl fs5).trans (Eq.refl (tn 135 st))))
            have g0 : tn 135 s5 9 2 = tn 135 st 9 2 := by rw [tq]
            have g1 : tn 135 s5 5 = tn 135 st 5 := by rw [tq]
            have g2 : tn 135 s5 10 = tn 135 st 10 := by rw [tq]
            have g0 : s5 144 2 = st 144 2 := g0
            have g1 : s5 140 = st 140 := g1
            have g2 : s5 145 = st 145 := g2
            have h3 : (st 144 2 = 0 ∨ ¬ st 140 (8 * st 145 (st 144 2 - 1).toNat + r5).toNat = -1) := h3
            rw [← g0, ← g1, ← g2] at h3
            rcases e6 with ⟨z1, z2⟩ | ⟨z1, z2⟩
            · omega
            · exact z2 h3))⟩
  · refine ⟨fun h36 => (by exfalso; omega), fun h36 => ?_⟩
    refine ⟨by omega, ?_⟩
    exact hQ _ _ ⟨gs5, (fr_tr (fr_rf _ _) fs5 rfl), (show ((0 : Int) = 1 ∧ bSp (ctx st) (st 1 1) (tn 135 st) (st 149 5) (tn 135 s5) (s5 149 5) ∧ RDc s5) ∨ ((0 : Int) = 0 ∧ ¬ ∃ (T' : zS) (q : Int), bSp (ctx st) (st 1 1) (tn 135 st) (st 149 5) T' q) from (by
            refine Or.inr ⟨rfl, fun hx => ?_⟩
            obtain ⟨T', q, h0, v, a, e1, e2, m, h1, h2, h3, h4, h5, h6, h7⟩ := hx
            exact l5 ⟨v, a, e1, h1, h2⟩))⟩
theorem k_cStepBB_m (hTb : aTb zSh rx_tb cl) {D : Nat} (hD : 5 ≤ D) : ∀ as st (Q Q' : zQ), (∀ r st', Q r st' → Q' r st') → k_cStepBB 241 as st Q → cl D 241 as st Q' := by
  intro as st Q Q' hQ h
  unfold k_cStepBB at h
  split at h
  · obtain ⟨rfl, h⟩ := h
    exact c_cStepBB hTb hD (ct_cStepBB_m hQ h)
  · exact h.elim
set_option maxHeartbeats 4000000 in
set_option maxRecDepth 100000 in
theorem c_cStreetBB (hTb : aTb zSh rx_tb cl) {D : Nat} (hD : 5 ≤ D) {st : zS} {Q : zQ} (h : ct_cStreetBB  st Q) : cl D 240 [.inr (.inr (.inl 148))] st Q := by
  obtain ⟨d, rfl⟩ : ∃ d, D = d + 1 := ⟨D - 1, by omega⟩
  refine hTb d 240 (rx_m240, 5, 0, 0, 2) rfl _ _ _ (Nat.le_of_ble_eq_true rfl) (fun K hcl hsf hsl => ?_)
  have hcm : zmo (wcL [(248, k_cKnownB), (250, k_cTakeOwn), (286, k_cBetweenB), (235, k_cWrong), (249, k_cNumber), (280, k_cAddStreetB)]) (cl d) := (wcL_m (wm_cons (k_cKnownB_m hTb (by omega)) (wm_cons (k_cTakeOwn_m hTb (by omega)) (wm_cons (k_cBetweenB_m hTb (by omega)) (wm_cons (k_cWrong_m hTb (by omega)) (wm_cons (k_cNumber_m hTb (by omega)) (wm_cons (k_cAddStreetB_m hTb (by omega)) wm_nil)))))))
  obtain ⟨hR, hQ⟩ := h
  obtain ⟨hG, rd, ow, tw, lim⟩ := hR
  change RDc st at rd
  change cOW st at ow
  change st 148 1 = 135 at tw
  change st 135 3 < 14 at lim
  have rb := rd.1
  have g1 := g_f148_1 hG
  have g2 := g_f135_3 hG
  have g3 := g_wKind hG
  have g4 := g_wValue hG
  refine dr1_ok (Rt := Q) (wc := (wcL [(248, k_cKnownB), (250, k_cTakeOwn), (286, k_cBetweenB), (235, k_cWrong), (249, k_cNumber), (280, k_cAddStreetB)])) (stp := []) hcm hcl [(46, 135), (91, 135)] [] 84 ?_
  show (148 = 148 ∧ (rq_cKnownB  st ∧ (∀ (r5 : Int) (s5 : zS), en_cKnownB  st r5 s5 → ((r5 = ((-1) : Int) → ((0 = (0 : Int) ∨ 0 = (1 : Int)) ∧ Q (some (.inl 0)) s5)) ∧ (¬ (r5 = ((-1) : Int)) → (148 = 148 ∧ (rq_cTakeOwn (2) s5 ∧ (∀ (r6 : Int) (s6 : zS), en_cTakeOwn (2) s5 r6 s6 → ((¬ r6 = (0 : Int) → (148 = 148 ∧ (rq_cKnownB  s6 ∧ (∀ (r7 : Int) (s7 : zS), en_cKnownB  s6 r7 s7 → ((¬ r7 = ((-1) : Int) → ((r7 = r5 → (148 = 148 ∧ (rq_cWrong (3) (s6 149 5) s7 ∧ (((0 = (0 : Int) ∨ 0 = (1 : Int)) ∧ Q (some (.inl 0)) (zup (zup s7 148 3 (3)) 148 4 (s6 149 5))))))) ∧ (¬ (r7 = r5) → ((s7 148 1 = (135 : Int)) ∧ (135 = 135 ∧ (rq_cBetweenB r5 r7 s7 ∧ (∀ (r9 : Int), en_cBetweenB r5 r7 s7 r9 → ((r9 = ((-1) : Int) → (148 = 148 ∧ (rq_cTakeOwn (3) s7 ∧ (∀ (r10 : Int) (s10 : zS), en_cTakeOwn (3) s7 r10 s10 → ((¬ r10 = (0 : Int) → (148 = 148 ∧ (rq_cNumber (1) (99) s10 ∧ (∀ (r11 : Int) (s11 : zS), en_cNumber (1) (99) s10 r11 s11 → ((r11 = ((-1) : Int) → ((0 = (0 : Int) ∨ 0 = (1 : Int)) ∧ Q (some (.inl 0)) s11)) ∧ (¬ (r11 = ((-1) : Int)) → ((s11 148 1 = (135 : Int)) ∧ (135 = 135 ∧ (rq_cAddStreetB r5 r7 r11 s11 ∧ ((((1 : Int) = (0 : Int) → _) ∧ (¬ ((1 : Int) = (0 : Int)) → ((1 = (0 : Int) ∨ 1 = (1 : Int)) ∧ Q (some (.inl 1)) (zup (zup (zup (zup (zup (zup s11 137 (s11 135 3 : Int).toNat r5) 138 (s11 135 3 : Int).toNat r7) 139 (s11 135 3 : Int).toNat r11) 140 (r5 * 8 + r7 : Int).toNat (s11 135 3)) 140 (r7 * 8 + r5 : Int).toNat (s11 135 3)) 135 3 ((s11 135 3) + 1))))))))))))))) ∧ (¬ (¬ r10 = (0 : Int)) → ((0 = (0 : Int) ∨ 0 = (1 : Int)) ∧ Q (some (.inl 0)) s10))))))) ∧ (¬ (r9 = ((-1) : Int)) → (148 = 148 ∧ (rq_cWrong (3) (s6 149 5) s7 ∧ (((0 = (0 : Int) ∨ 0 = (1 : Int)) ∧ Q (some (.inl 0)) (zup (zup s7 148 3 (3)) 148 4 (s6 149 5))))))))))))))) ∧ (¬ (¬ r7 = ((-1) : Int)) → ((0 = (0 : Int) ∨ 0 = (1 : Int)) ∧ Q (some (.inl 0)) s7))))))) ∧ (¬ (¬ r6 = (0 : Int)) → ((0 = (0 : Int) ∨ 0 = (1 : Int)) ∧ Q (some (.inl 0)) s6)))))))))))
  refine ⟨rfl, ⟨hG, (show RDc st from rd), (show cOW st from ow), (show st 148 1 = 135 from by omega)⟩, fun r5 s5 q5 => ?_⟩
  obtain ⟨gs5, fs5, o5⟩ := q5
  change (∃ v : Int, tk (ctx st) (st 1 1) (st 149 5) 1 v (s5 149 5) ∧ KnP (tn 135 st) v r5 ∧ RDc s5) ∨ (r5 = -1 ∧ ¬ ∃ v a e : Int, tk (ctx st) (st 1 1) (st 149 5) 1 v e ∧ KnP (tn 135 st) v a) at o5
  have g14 := g_tsize hG
  have g15 := g_wStart hG
  have g16 := g_wStart gs5
  rcases o5 with ⟨v5, t5, kn5, rd5⟩ | ⟨y5, l5⟩
  · have xk5 : 0 ≤ r5 ∧ r5 < st 135 1 := KnP_b kn5
    have xm5 := g_f135_1 hG
    refine ⟨fun h17 => (by exfalso; omega), fun h17 => ?_⟩
    refine ⟨rfl, ⟨gs5, (show RDc s5 from rd5)⟩, fun r6 s6 q6 => ?_⟩
    obtain ⟨gs6, fs6, o6⟩ := q6
    change (r6 = 1 ∧ s5 149 3 = 2 ∧ s5 149 4 = (2) ∧ RDc s6 ∧ NX s5 s6) ∨ (r6 = 0 ∧ ¬ (s5 149 3 = 2 ∧ s5 149 4 = (2))) at o6
    have g18 := g_wKind gs5
    have g19 := g_wValue gs5
    rcases o6 with ⟨y6, k6, v6, rd6, nx6⟩ | ⟨y6, k6⟩
    · refine ⟨fun h20 => ?_, fun h20 => (by exfalso; omega)⟩
      have g21 := g_wStart gs6
      have e23 : s5 148 1 = st 148 1 := fs5 148 1 rfl rfl
      have e22 : s6 148 1 = s5 148 1 := fs6 148 1 rfl rfl
      refine ⟨rfl, ⟨gs6, (show RDc s6 from rd6), (show cOW s6 from (fun i hi => ((show aFr m_cStreetBB st s6 from (fr_tr (fr_tr (fr_rf _ _) fs5 rfl) fs6 rfl)) 150 i rfl rfl).trans (ow i hi))), (show s6 148 1 = 135 from by omega)⟩, fun r7 s7 q7 => ?_⟩
      obtain ⟨gs7, fs7, o7⟩ := q7
      change (∃ v : Int, tk (ctx s6) (s6 1 1) (s6 149 5) 1 v (s7 149 5) ∧ KnP (tn 135 s6) v r7 ∧ RDc s7) ∨ (r7 = -1 ∧ ¬ ∃ v a e : Int, tk (ctx s6) (s6 1 1) (s6 149 5) 1 v e ∧ KnP (tn 135 s6) v a) at o7
      have e25 : s5 1 1 = st 1 1 := fs5 1 1 rfl rfl
      have e24 : s6 1 1 = s5 1 1 := fs6 1 1 rfl rfl
      have g26 := g_wStart gs7
      rcases o7 with ⟨v7, t7, kn7, rd7⟩ | ⟨y7, l7⟩
      · have xk7 : 0 ≤ r7 ∧ r7 < s6 135 1 := KnP_b kn7
        have xm7 := g_f135_1 gs6
        refine ⟨fun h27 => ?_, fun h27 => (by exfalso; omega)⟩
        refine ⟨fun h28 => ?_, fun h28 => ?_⟩
        · refine ⟨rfl, ⟨gs7, (show -2147483648 ≤ (3) ∧ (3) ≤ 2147483647 ∧ -2147483648 ≤ (s6 149 5) ∧ (s6 149 5) ≤ 2147483647 from by omega)⟩, ?_⟩
          refine ⟨by omega, ?_⟩
          exact hQ _ _ ⟨(gInv_up (gInv_up gs7 (p_rFault (by omega))) (p_rFaultAt (by omega))), (fr_f (fr_f (fr_tr (fr_tr (fr_tr (fr_rf _ _) fs5 rfl) fs6 rfl) fs7 rfl) rfl) rfl), (show ((0 : Int) = 1 ∧ bSt (ctx st) (st 1 1) (tn 135 st) (st 149 5) (tn 135 (zup (zup s7 148 3 (3)) 148 4 (s6 149 5))) (s7 149 5) ∧ RDc (zup (zup s7 148 3 (3)) 148 4 (s6 149 5))) ∨ ((0 : Int) = 0 ∧ ¬ ∃ (T' : zS) (q : Int), bSt (ctx st) (st 1 1) (tn 135 st) (st 149 5) T' q) from (by
            refine Or.inr ⟨rfl, fun hx => ?_⟩
            obtain ⟨T', q, h0, v, a, e1, e2, u, b, e3, e4, m, h1, h2, h3, h4, h5, h6, h7, h8, h9, h10, h11, h12⟩ := hx
            obtain ⟨-, rfl, rfl⟩ := tk_u t5 h1
            have ea := KnP_u kn5 h2
            subst ea
            obtain ⟨-, -, rfl⟩ := tk_u (show tk (ctx st) (st 1 1) _ 1 (29807 : Int) _ from tkS_e (sT_of (fun i => (show aFr m_cStreetBB st s5 from (fr_tr (fr_rf _ _) fs5 rfl)) 2 i rfl rfl) ((show aFr m_cStreetBB st s5 from (fr_tr (fr_rf _ _) fs5 rfl)) 1 1 rfl rfl) ((show aFr m_cStreetBB st s5 from (fr_tr (fr_rf _ _) fs5 rfl)) 148 2 rfl rfl)) (nx_ow 2 rd5 (fun i hi => ((show aFr m_cStreetBB st s5 from (fr_tr (fr_rf _ _) fs5 rfl)) 150 i rfl rfl).trans (ow i hi)) nx6 (by omega) (by omega) rfl)) h3
            obtain ⟨-, rfl, rfl⟩ := tk_u (tkS_e (sT_of (fun i => (show aFr m_cStreetBB st s6 from (fr_tr (fr_tr (fr_rf _ _) fs5 rfl) fs6 rfl)) 2 i rfl rfl) ((show aFr m_cStreetBB st s6 from (fr_tr (fr_tr (fr_rf _ _) fs5 rfl) fs6 rfl)) 1 1 rfl rfl) ((show aFr m_cStreetBB st s6 from (fr_tr (fr_tr (fr_rf _ _) fs5 rfl) fs6 rfl)) 148 2 rfl rfl)) t7) h4
            have eb := KnP_u (show KnP (tn 135 st) v7 r7 from (show tn 135 s6 = tn 135 st from (by exact ((tn_fr (x := 135) rfl fs6).trans ((tn_fr (x := 135) rfl fs5).trans (Eq.refl (tn 135 st)))))) ▸ kn7) h5
            subst eb
            omega))⟩
        · have e29 : s7 148 1 = s6 148 1 := fs7 148 1 rfl rfl
          refine ⟨by omega, ?_⟩
          refine ⟨rfl, gs7, fun r9 q9 => ?_⟩
          have e9 := q9
          change (0 ≤ r5 ∧ r5 < s7 135 1 ∧ 0 ≤ r7 ∧ r7 < s7 135 1 → r9 = s7 140 (r5 * 8 + r7 : Int).toNat) ∧ (¬ (0 ≤ r5 ∧ r5 < s7 135 1 ∧ 0 ≤ r7 ∧ r7 < s7 135 1) → r9 = -1) at e9
          have g33 := g_f135_1 hG
          have e32 : s5 135 1 = st 135 1 := fs5 135 1 rfl rfl
          have e31 : s6 135 1 = s5 135 1 := fs6 135 1 rfl rfl
          have e30 : s7 135 1 = s6 135 1 := fs7 135 1 rfl rfl
          have g37 := g_a140 hG (r5 * 8 + r7 : Int).toNat
          have e36 : s5 140 (r5 * 8 + r7 : Int).toNat = st 140 (r5 * 8 + r7 : Int).toNat := fs5 140 (r5 * 8 + r7 : Int).toNat rfl rfl
          have e35 : s6 140 (r5 * 8 + r7 : Int).toNat = s5 140 (r5 * 8 + r7 : Int).toNat := fs6 140 (r5 * 8 + r7 : Int).toNat rfl rfl
          have e34 : s7 140 (r5 * 8 + r7 : Int).toNat = s6 140 (r5 * 8 + r7 : Int).toNat := fs7 140 (r5 * 8 + r7 : Int).toNat rfl rfl
          refine ⟨fun h38 => ?_, fun h38 => ?_⟩
          · refine ⟨rfl, ⟨gs7, (show RDc s7 from rd7)⟩, fun r10 s10 q10 => ?_⟩
            obtain ⟨gs10, fs10, o10⟩ := q10
            change (r10 = 1 ∧ s7 149 3 = 2 ∧ s7 149 4 = (3) ∧ RDc s10 ∧ NX s7 s10) ∨ (r10 = 0 ∧ ¬ (s7 149 3 = 2 ∧ s7 149 4 = (3))) at o10
            have g39 := g_wKind gs7
            have g40 := g_wValue gs7
            rcases o10 with ⟨y10, k10, v10, rd10, nx10⟩ | ⟨y10, k10⟩
            · refine ⟨fun h41 => ?_, fun h41 => (by exfalso; omega)⟩
              refine ⟨rfl, ⟨gs10, (show RDc s10 from rd10), (show cOW s10 from (fun i hi => ((show aFr m_cStreetBB st s10 from (fr_tr (fr_tr (fr_tr (fr_tr (fr_rf _ _) fs5 rfl) fs6 rfl) fs7 rfl) fs10 rfl)) 150 i rfl rfl).trans (ow i hi))), (show 0 ≤ (1) ∧ (1) ≤ 1 ∧ (99) ≤ 9999 from by omega)⟩, fun r11 s11 q11 => ?_⟩
              obtain ⟨gs11, fs11, o11⟩ := q11
              change ((1) ≤ r11 ∧ r11 ≤ (99) ∧ tk (ctx s10) (s10 1 1) (s10 149 5) 2 r11 (s11 149 5) ∧ RDc s11) ∨ (r11 = -1 ∧ ¬ ∃ v e : Int, tk (ctx s10) (s10 1 1) (s10 149 5) 2 v e ∧ (1) ≤ v ∧ v ≤ (99)) at o11
              have e43 : s7 1 1 = s6 1 1 := fs7 1 1 rfl rfl
              have e42 : s10 1 1 = s7 1 1 := fs10 1 1 rfl rfl
              have g44 := g_wStart gs10
              have g45 := g_wStart gs11
              rcases o11 with ⟨la11, lb11, t11, rd11⟩ | ⟨y11, l11⟩
              · refine ⟨fun h46 => (by exfalso; omega), fun h46 => ?_⟩
                have e48 : s10 148 1 = s7 148 1 := fs10 148 1 rfl rfl
                have e47 : s11 148 1 = s10 148 1 := fs11 148 1 rfl rfl
                refine ⟨by omega, ?_⟩
                have e53 : s5 135 3 = st 135 3 := fs5 135 3 rfl rfl
                have e52 : s6 135 3 = s5 135 3 := fs6 135 3 rfl rfl
                have e51 : s7 135 3 = s6 135 3 := fs7 135 3 rfl rfl
                have e50 : s10 135 3 = s7 135 3 := fs10 135 3 rfl rfl
                have e49 : s11 135 3 = s10 135 3 := fs11 135 3 rfl rfl
                have e55 : s10 135 1 = s7 135 1 := fs10 135 1 rfl rfl
                have e54 : s11 135 1 = s10 135 1 := fs11 135 1 rfl rfl
                refine ⟨rfl, ⟨gs11, (show s11 135 3 < 14 ∧ 0 ≤ r5 ∧ r5 < s11 135 1 ∧ 0 ≤ r7 ∧ r7 < s11 135 1 ∧ 0 ≤ r11 ∧ r11 ≤ 99 from by omega)⟩, ?_⟩
                refine ⟨fun h56 => absurd h56 (by decide), fun h56 => ?_⟩
                refine ⟨by omega, ?_⟩
                exact hQ _ _ ⟨(gInv_up (gInv_up (gInv_up (gInv_up (gInv_up (gInv_up gs11 (p_a137 (by omega))) (p_a138 (by omega))) (p_a139 (by omega))) (p_a140 (by omega))) (p_a140 (by omega))) (p_f135_3 (by omega))), (fr_f (fr_a (fr_a (fr_a (fr_a (fr_a (fr_tr (fr_tr (fr_tr (fr_tr (fr_tr (fr_rf _ _) fs5 rfl) fs6 rfl) fs7 rfl) fs10 rfl) fs11 rfl) rfl) rfl) rfl) rfl) rfl) rfl), (show ((1 : Int) = 1 ∧ bSt (ctx st) (st 1 1) (tn 135 st) (st 149 5) (tn 135 (zup (zup (zup (zup (zup (zup s11 137 (s11 135 3 : Int).toNat r5) 138 (s11 135 3 : Int).toNat r7) 139 (s11 135 3 : Int).toNat r11) 140 (r5 * 8 + r7 : Int).toNat (s11 135 3)) 140 (r7 * 8 + r5 : Int).toNat (s11 135 3)) 135 3 ((s11 135 3) + 1))) (s11 149 5) ∧ RDc (zup (zup (zup (zup (zup (zup s11 137 (s11 135 3 : Int).toNat r5) 138 (s11 135 3 : Int).toNat r7) 139 (s11 135 3 : Int).toNat r11) 140 (r5 * 8 + r7 : Int).toNat (s11 135 3)) 140 (r7 * 8 + r5 : Int).toNat (s11 135 3)) 135 3 ((s11 135 3) + 1))) ∨ ((1 : Int) = 0 ∧ ¬ ∃ (T' : zS) (q : Int), bSt (ctx st) (st 1 1) (tn 135 st) (st 149 5) T' q) from (by
            have tq : tn 135 s7 = tn 135 st := (by exact ((tn_fr (x := 135) rfl fs7).trans ((tn_fr (x := 135) rfl fs6).trans ((tn_fr (x := 135) rfl fs5).trans (Eq.refl (tn 135 st))))))
            have g1 : tn 135 s7 5 = tn 135 st 5 := by rw [tq]
            have g1 : s7 140 = st 140 := g1
            have zi : (8 * r5 + r7 : Int).toNat = (r5 * 8 + r7 : Int).toNat := by congr 1; omega
            have hl : st 140 (8 * r5 + r7 : Int).toNat = -1 := by
              rw [zi, ← g1]
              have zb := e9.1 (by omega)
              omega
            exact Or.inl ⟨rfl, ⟨lim, v5, r5, _, _, v7, r7, _, _, r11, t5, kn5, (show tk (ctx st) (st 1 1) _ 1 (29807 : Int) _ from tkS_e (sT_of (fun i => (show aFr m_cStreetBB st s5 from (fr_tr (fr_rf _ _) fs5 rfl)) 2 i rfl rfl) ((show aFr m_cStreetBB st s5 from (fr_tr (fr_rf _ _) fs5 rfl)) 1 1 rfl rfl) ((show aFr m_cStreetBB st s5 from (fr_tr (fr_rf _ _) fs5 rfl)) 148 2 rfl rfl)) (nx_ow 2 rd5 (fun i hi => ((show aFr m_cStreetBB st s5 from (fr_tr (fr_rf _ _) fs5 rfl)) 150 i rfl rfl).trans (ow i hi)) nx6 (by omega) (by omega) rfl)), (tkS_e (sT_of (fun i => (show aFr m_cStreetBB st s6 from (fr_tr (fr_tr (fr_rf _ _) fs5 rfl) fs6 rfl)) 2 i rfl rfl) ((show aFr m_cStreetBB st s6 from (fr_tr (fr_tr (fr_rf _ _) fs5 rfl) fs6 rfl)) 1 1 rfl rfl) ((show aFr m_cStreetBB st s6 from (fr_tr (fr_tr (fr_rf _ _) fs5 rfl) fs6 rfl)) 148 2 rfl rfl)) t7), (show KnP (tn 135 st) v7 r7 from (show tn 135 s6 = tn 135 st from (by exact ((tn_fr (x := 135) rfl fs6).trans ((tn_fr (x := 135) rfl fs5).trans (Eq.refl (tn 135 st)))))) ▸ kn7), by omega, hl, (show tk (ctx st) (st 1 1) _ 1 (482670241139 : Int) _ from tkS_e (sT_of (fun i => (show aFr m_cStreetBB st s7 from (fr_tr (fr_tr (fr_tr (fr_rf _ _) fs5 rfl) fs6 rfl) fs7 rfl)) 2 i rfl rfl) ((show aFr m_cStreetBB st s7 from (fr_tr (fr_tr (fr_tr (fr_rf _ _) fs5 rfl) fs6 rfl) fs7 rfl)) 1 1 rfl rfl) ((show aFr m_cStreetBB st s7 from (fr_tr (fr_tr (fr_tr (fr_rf _ _) fs5 rfl) fs6 rfl) fs7 rfl)) 148 2 rfl rfl)) (nx_ow 3 rd7 (fun i hi => ((show aFr m_cStreetBB st s7 from (fr_tr (fr_tr (fr_tr (fr_rf _ _) fs5 rfl) fs6 rfl) fs7 rfl)) 150 i rfl rfl).trans (ow i hi)) nx10 (by omega) (by omega) rfl)), (tkS_e (sT_of (fun i => (show aFr m_cStreetBB st s10 from (fr_tr (fr_tr (fr_tr (fr_tr (fr_rf _ _) fs5 rfl) fs6 rfl) fs7 rfl) fs10 rfl)) 2 i rfl rfl) ((show aFr m_cStreetBB st s10 from (fr_tr (fr_tr (fr_tr (fr_tr (fr_rf _ _) fs5 rfl) fs6 rfl) fs7 rfl) fs10 rfl)) 1 1 rfl rfl) ((show aFr m_cStreetBB st s10 from (fr_tr (fr_tr (fr_tr (fr_tr (fr_rf _ _) fs5 rfl) fs6 rfl) fs7 rfl) fs10 rfl)) 148 2 rfl rfl)) t11), by omega, by omega, (by rw [show s11 135 3 = st 135 3 from by omega]; exact ((tn_up 135 _ (c := 0) 3 ((st 135 3) + 1) (by omega)).trans (congrArg (fun z_ : zS => zup z_ 0 3 ((st 135 3) + 1)) ((tn_up 135 _ (c := 5) (r7 * 8 + r5 : Int).toNat (st 135 3) (by omega)).trans (congrArg (fun z_ : zS => zup z_ 5 (r7 * 8 + r5 : Int).toNat (st 135 3)) ((tn_up 135 _ (c := 5) (r5 * 8 + r7 : Int).toNat (st 135 3) (by omega)).trans (congrArg (fun z_ : zS => zup z_ 5 (r5 * 8 + r7 : Int).toNat (st 135 3)) ((tn_up 135 _ (c := 4) (st 135 3 : Int).toNat r11 (by omega)).trans (congrArg (fun z_ : zS => zup z_ 4 (st 135 3 : Int).toNat r11) ((tn_up 135 _ (c := 3) (st 135 3 : Int).toNat r7 (by omega)).trans (congrArg (fun z_ : zS => zup z_ 3 (st 135 3 : Int).toNat r7) ((tn_up 135 _ (c := 2) (st 135 3 : Int).toNat r5 (by omega)).trans (congrArg (fun z_ : zS => zup z_ 2 (st 135 3 : Int).toNat r5) ((tn_fr (x := 135) rfl fs11).trans ((tn_fr (x := 135) rfl fs10).trans ((tn_fr (x := 135) rfl fs7).trans ((tn_fr (x := 135) rfl fs6).trans ((tn_fr (x := 135) rfl fs5).trans (Eq.refl (tn 135 st))))))))))))))))))))⟩, (show RDc (zup (zup (zup (zup (zup (zup s11 137 (s11 135 3 : Int).toNat r5) 138 (s11 135 3 : Int).toNat r7) 139 (s11 135 3 : Int).toNat r11) 140 (r5 * 8 + r7 : Int).toNat (s11 135 3)) 140 (r7 * 8 + r5 : Int).toNat (s11 135 3)) 135 3 ((s11 135 3) + 1)) from rd11)⟩))⟩
              · refine ⟨fun h57 => ?_, fun h57 => (by exfalso; omega)⟩
                refine ⟨by omega, ?_⟩
                exact hQ _ _ ⟨gs11, (fr_tr (fr_tr (fr_tr (fr_tr (fr_tr (fr_rf _ _) fs5 rfl) fs6 rfl) fs7 rfl) fs10 rfl) fs11 rfl), (show ((0 : Int) = 1 ∧ bSt (ctx st) (st 1 1) (tn 135 st) (st 149 5) (tn 135 s11) (s11 149 5) ∧ RDc s11) ∨ ((0 : Int) = 0 ∧ ¬ ∃ (T' : zS) (q : Int), bSt (ctx st) (st 1 1) (tn 135 st) (st 149 5) T' q) from (by
            refine Or.inr ⟨rfl, fun hx => ?_⟩
            obtain ⟨T', q, h0, v, a, e1, e2, u, b, e3, e4, m, h1, h2, h3, h4, h5, h6, h7, h8, h9, h10, h11, h12⟩ := hx
            obtain ⟨-, rfl, rfl⟩ := tk_u t5 h1
            have ea := KnP_u kn5 h2
            subst ea
            obtain ⟨-, -, rfl⟩ := tk_u (show tk (ctx st) (st 1 1) _ 1 (29807 : Int) _ from tkS_e (sT_of (fun i => (show aFr m_cStreetBB st s5 from (fr_tr (fr_rf _ _) fs5 rfl)) 2 i rfl rfl) ((show aFr m_cStreetBB st s5 from (fr_tr (fr_rf _ _) fs5 rfl)) 1 1 rfl rfl) ((show aFr m_cStreetBB st s5 from (fr_tr (fr_rf _ _) fs5 rfl)) 148 2 rfl rfl)) (nx_ow 2 rd5 (fun i hi => ((show aFr m_cStreetBB st s5 from (fr_tr (fr_rf _ _) fs5 rfl)) 150 i rfl rfl).trans (ow i hi)) nx6 (by omega) (by omega) rfl)) h3
            obtain ⟨-, rfl, rfl⟩ := tk_u (tkS_e (sT_of (fun i => (show aFr m_cStreetBB st s6 from (fr_tr (fr_tr (fr_rf _ _) fs5 rfl) fs6 rfl)) 2 i rfl rfl) ((show aFr m_cStreetBB st s6 from (fr_tr (fr_tr (fr_rf _ _) fs5 rfl) fs6 rfl)) 1 1 rfl rfl) ((show aFr m_cStreetBB st s6 from (fr_tr (fr_tr (fr_rf _ _) fs5 rfl) fs6 rfl)) 148 2 rfl rfl)) t7) h4
            obtain ⟨-, -, rfl⟩ := tk_u (show tk (ctx st) (st 1 1) _ 1 (482670241139 : Int) _ from tkS_e (sT_of (fun i => (show aFr m_cStreetBB st s7 from (fr_tr (fr_tr (fr_tr (fr_rf _ _) fs5 rfl) fs6 rfl) fs7 rfl)) 2 i rfl rfl) ((show aFr m_cStreetBB st s7 from (fr_tr (fr_tr (fr_tr (fr_rf _ _) fs5 rfl) fs6 rfl) fs7 rfl)) 1 1 rfl rfl) ((show aFr m_cStreetBB st s7 from (fr_tr (fr_tr (fr_tr (fr_rf _ _) fs5 rfl) fs6 rfl) fs7 rfl)) 148 2 rfl rfl)) (nx_ow 3 rd7 (fun i hi => ((show aFr m_cStreetBB st s7 from (fr_tr (fr_tr (fr_tr (fr_rf _ _) fs5 rfl) fs6 rfl) fs7 rfl)) 150 i rfl rfl).trans (ow i hi)) nx10 (by omega) (by omega) rfl)) h8
            exact l11 ⟨m, q, (by rw [(sT_of (fun i => (show aFr m_cStreetBB st s10 from (fr_tr (fr_tr (fr_tr (fr_tr (fr_rf _ _) fs5 rfl) fs6 rfl) fs7 rfl) fs10 rfl)) 2 i rfl rfl) ((show aFr m_cStreetBB st s10 from (fr_tr (fr_tr (fr_tr (fr_tr (fr_rf _ _) fs5 rfl) fs6 rfl) fs7 rfl) fs10 rfl)) 1 1 rfl rfl) ((show aFr m_cStreetBB st s10 from (fr_tr (fr_tr (fr_tr (fr_tr (fr_rf _ _) fs5 rfl) fs6 rfl) fs7 rfl) fs10 rfl)) 148 2 rfl rfl)).1, (sT_of (fun i => (show aFr m_cStreetBB st s10 from (fr_tr (fr_tr (fr_tr (fr_tr (fr_rf _ _) fs5 rfl) fs6 rfl) fs7 rfl) fs10 rfl)) 2 i rfl rfl) ((show aFr m_cStreetBB st s10 from (fr_tr (fr_tr (fr_tr (fr_tr (fr_rf _ _) fs5 rfl) fs6 rfl) fs7 rfl) fs10 rfl)) 1 1 rfl rfl) ((show aFr m_cStreetBB st s10 from (fr_tr (fr_tr (fr_tr (fr_tr (fr_rf _ _) fs5 rfl) fs6 rfl) fs7 rfl) fs10 rfl)) 148 2 rfl rfl)).2.1]; exact h9), h10, h11⟩))⟩
            · refine ⟨fun h58 => (by exfalso; omega), fun h58 => ?_⟩
              refine ⟨by omega, ?_⟩
              have g59 := g_wStart gs10
              exact hQ _ _ ⟨gs10, (fr_tr (fr_tr (fr_tr (fr_tr (fr_rf _ _) fs5 rfl) fs6 rfl) fs7 rfl) fs10 rfl), (show ((0 : Int) = 1 ∧ bSt (ctx st) (st 1 1) (tn 135 st) (st 149 5) (tn 135 s10) (s10 149 5) ∧ RDc s10) ∨ ((0 : Int) = 0 ∧ ¬ ∃ (T' : zS) (q : Int), bSt (ctx st) (st 1 1) (tn 135 st) (st 149 5) T' q) from (by
            refine Or.inr ⟨rfl, fun hx => ?_⟩
            obtain ⟨T', q, h0, v, a, e1, e2, u, b, e3, e4, m, h1, h2, h3, h4, h5, h6, h7, h8, h9, h10, h11, h12⟩ := hx
            obtain ⟨-, rfl, rfl⟩ := tk_u t5 h1
            have ea := KnP_u kn5 h2
            subst ea
            obtain ⟨-, -, rfl⟩ := tk_u (show tk (ctx st) (st 1 1) _ 1 (29807 : Int) _ from tkS_e (sT_of (fun i => (show aFr m_cStreetBB st s5 from (fr_tr (fr_rf _ _) fs5 rfl)) 2 i rfl rfl) ((show aFr m_cStreetBB st s5 from (fr_tr (fr_rf _ _) fs5 rfl)) 1 1 rfl rfl) ((show aFr m_cStreetBB st s5 from (fr_tr (fr_rf _ _) fs5 rfl)) 148 2 rfl rfl)) (nx_ow 2 rd5 (fun i hi => ((show aFr m_cStreetBB st s5 from (fr_tr (fr_rf _ _) fs5 rfl)) 150 i rfl rfl).trans (ow i hi)) nx6 (by omega) (by omega) rfl)) h3
            obtain ⟨-, rfl, rfl⟩ := tk_u (tkS_e (sT_of (fun i => (show aFr m_cStreetBB st s6 from (fr_tr (fr_tr (fr_rf _ _) fs5 rfl) fs6 rfl)) 2 i rfl rfl) ((show aFr m_cStreetBB st s6 from (fr_tr (fr_tr (fr_rf _ _) fs5 rfl) fs6 rfl)) 1 1 rfl rfl) ((show aFr m_cStreetBB st s6 from (fr_tr (fr_tr (fr_rf _ _) fs5 rfl) fs6 rfl)) 148 2 rfl rfl)) t7) h4
            exact (tk_ex (sT_of (fun i => (show aFr m_cStreetBB st s7 from (fr_tr (fr_tr (fr_tr (fr_rf _ _) fs5 rfl) fs6 rfl) fs7 rfl)) 2 i rfl rfl) ((show aFr m_cStreetBB st s7 from (fr_tr (fr_tr (fr_tr (fr_rf _ _) fs5 rfl) fs6 rfl) fs7 rfl)) 1 1 rfl rfl) ((show aFr m_cStreetBB st s7 from (fr_tr (fr_tr (fr_tr (fr_rf _ _) fs5 rfl) fs6 rfl) fs7 rfl)) 148 2 rfl rfl)) (own_no rd7 (fun i hi => ((show aFr m_cStreetBB st s7 from (fr_tr (fr_tr (fr_tr (fr_rf _ _) fs5 rfl) fs6 rfl) fs7 rfl)) 150 i rfl rfl).trans (ow i hi)) (i := 3) (by omega) (by omega))) ⟨e4, h8⟩))⟩
          · refine ⟨rfl, ⟨gs7, (show -2147483648 ≤ (3) ∧ (3) ≤ 2147483647 ∧ -2147483648 ≤ (s6 149 5) ∧ (s6 149 5) ≤ 2147483647 from by omega)⟩, ?_⟩
            refine ⟨by omega, ?_⟩
            exact hQ _ _ ⟨(gInv_up (gInv_up gs7 (p_rFault (by omega))) (p_rFaultAt (by omega))), (fr_f (fr_f (fr_tr (fr_tr (fr_tr (fr_rf _ _) fs5 rfl) fs6 rfl) fs7 rfl) rfl) rfl), (show ((0 : Int) = 1 ∧ bSt (ctx st) (st 1 1) (tn 135 st) (st 149 5) (tn 135 (zup (zup s7 148 3 (3)) 148 4 (s6 149 5))) (s7 149 5) ∧ RDc (zup (zup s7 148 3 (3)) 148 4 (s6 149 5))) ∨ ((0 : Int) = 0 ∧ ¬ ∃ (T' : zS) (q : Int), bSt (ctx st) (st 1 1) (tn 135 st) (st 149 5) T' q) from (by
            refine Or.inr ⟨rfl, fun hx => ?_⟩
            obtain ⟨T', q, h0, v, a, e1, e2, u, b, e3, e4, m, h1, h2, h3, h4, h5, h6, h7, h8, h9, h10, h11, h12⟩ := hx
            obtain ⟨-, rfl, rfl⟩ := tk_u t5 h1
            have ea := KnP_u kn5 h2
            subst ea
            obtain ⟨-, -, rfl⟩ := tk_u (show tk (ctx st) (st 1 1) _ 1 (29807 : Int) _ from tkS_e (sT_of (fun i => (show aFr m_cStreetBB st s5 from (fr_tr (fr_rf _ _) fs5 rfl)) 2 i rfl rfl) ((show aFr m_cStreetBB st s5 from (fr_tr (fr_rf _ _) fs5 rfl)) 1 1 rfl rfl) ((show aFr m_cStreetBB st s5 from (fr_tr (fr_rf _ _) fs5 rfl)) 148 2 rfl rfl)) (nx_ow 2 rd5 (fun i hi => ((show aFr m_cStreetBB st s5 from (fr_tr (fr_rf _ _) fs5 rfl)) 150 i rfl rfl).trans (ow i hi)) nx6 (by omega) (by omega) rfl)) h3
            obtain ⟨-, rfl, rfl⟩ := tk_u (tkS_e (sT_of (fun i => (show aFr m_cStreetBB st s6 from (fr_tr (fr_tr (fr_rf _ _) fs5 rfl) fs6 rfl)) 2 i rfl rfl) ((show aFr m_cStreetBB st s6 from (fr_tr (fr_tr (fr_rf _ _) fs5 rfl) fs6 rfl)) 1 1 rfl rfl) ((show aFr m_cStreetBB st s6 from (fr_tr (fr_tr (fr_rf _ _) fs5 rfl) fs6 rfl)) 148 2 rfl rfl)) t7) h4
            have eb := KnP_u (show KnP (tn 135 st) v7 r7 from (show tn 135 s6 = tn 135 st from (by exact ((tn_fr (x := 135) rfl fs6).trans ((tn_fr (x := 135) rfl fs5).trans (Eq.refl (tn 135 st)))))) ▸ kn7) h5
            subst eb
            have tq : tn 135 s7 = tn 135 st := (by exact ((tn_fr (x := 135) rfl fs7).trans ((tn_fr (x := 135) rfl fs6).trans ((tn_fr (x := 135) rfl fs5).trans (Eq.refl (tn 135 st))))))
            have g1 : tn 135 s7 5 = tn 135 st 5 := by rw [tq]
            have g1 : s7 140 = st 140 := g1
            have zi : (8 * r5 + r7 : Int).toNat = (r5 * 8 + r7 : Int).toNat := by congr 1; omega
            have h7 : st 140 (8 * r5 + r7 : Int).toNat = -1 := h7
            rw [zi, ← g1] at h7
            have zb := e9.1 (by omega)
            omega))⟩
      · refine ⟨fun h60 => (by exfalso; omega), fun h60 => ?_⟩
        refine ⟨by omega, ?_⟩
        exact hQ _ _ ⟨gs7, (fr_tr (fr_tr (fr_tr (fr_rf _ _) fs5 rfl) fs6 rfl) fs7 rfl), (show ((0 : Int) = 1 ∧ bSt (ctx st) (st 1 1) (tn 135 st) (st 149 5) (tn 135 s7) (s7 149 5) ∧ RDc s7) ∨ ((0 : Int) = 0 ∧ ¬ ∃ (T' : zS) (q : Int), bSt (ctx st) (st 1 1) (tn 135 st) (st 149 5) T' q) from (by
            refine Or.inr ⟨rfl, fun hx => ?_⟩
            obtain ⟨T', q, h0, v, a, e1, e2, u, b, e3, e4, m, h1, h2, h3, h4, h5, h6, h7, h8, h9, h10, h11, h12⟩ := hx
            obtain ⟨-, rfl, rfl⟩ := tk_u t5 h1
            have ea := KnP_u kn5 h2
            subst ea
            obtain ⟨-, -, rfl⟩ := tk_u (show tk (ctx st) (st 1 1) _ 1 (29807 : Int) _ from tkS_e (sT_of (fun i => (show aFr m_cStreetBB st s5 from (fr_tr (fr_rf _ _) fs5 rfl)) 2 i rfl rfl) ((show aFr m_cStreetBB st s5 from (fr_tr (fr_rf _ _) fs5 rfl)) 1 1 rfl rfl) ((show aFr m_cStreetBB st s5 from (fr_tr (fr_rf _ _) fs5 rfl)) 148 2 rfl rfl)) (nx_ow 2 rd5 (fun i hi => ((show aFr m_cStreetBB st s5 from (fr_tr (fr_rf _ _) fs5 rfl)) 150 i rfl rfl).trans (ow i hi)) nx6 (by omega) (by omega) rfl)) h3
            rw [← (show tn 135 s6 = tn 135 st from (by exact ((tn_fr (x := 135) rfl fs6).trans ((tn_fr (x := 135) rfl fs5).trans (Eq.refl (tn 135 st))))))] at h5
            exact l7 ⟨u, b, e3, (by rw [(sT_of (fun i => (show aFr m_cStreetBB st s6 from (fr_tr (fr_tr (fr_rf _ _) fs5 rfl) fs6 rfl)) 2 i rfl rfl) ((show aFr m_cStreetBB st s6 from (fr_tr (fr_tr (fr_rf _ _) fs5 rfl) fs6 rfl)) 1 1 rfl rfl) ((show aFr m_cStreetBB st s6 from (fr_tr (fr_tr (fr_rf _ _) fs5 rfl) fs6 rfl)) 148 2 rfl rfl)).1, (sT_of (fun i => (show aFr m_cStreetBB st s6 from (fr_tr (fr_tr (fr_rf _ _) fs5 rfl) fs6 rfl)) 2 i rfl rfl) ((show aFr m_cStreetBB st s6 from (fr_tr (fr_tr (fr_rf _ _) fs5 rfl) fs6 rfl)) 1 1 rfl rfl) ((show aFr m_cStreetBB st s6 from (fr_tr (fr_tr (fr_rf _ _) fs5 rfl) fs6 rfl)) 148 2 rfl rfl)).2.1]; exact h4), h5⟩))⟩
    · refine ⟨fun h61 => (by exfalso; omega), fun h61 => ?_⟩
      refine ⟨by omega, ?_⟩
      have g62 := g_wStart gs6
      exact hQ _ _ ⟨gs6, (fr_tr (fr_tr (fr_rf _ _) fs5 rfl) fs6 rfl), (show ((0 : Int) = 1 ∧ bSt (ctx st) (st 1 1) (tn 135 st) (st 149 5) (tn 135 s6) (s6 149 5) ∧ RDc s6) ∨ ((0 : Int) = 0 ∧ ¬ ∃ (T' : zS) (q : Int), bSt (ctx st) (st 1 1) (tn 135 st) (st 149 5) T' q) from (by
            refine Or.inr ⟨rfl, fun hx => ?_⟩
            obtain ⟨T', q, h0, v, a, e1, e2, u, b, e3, e4, m, h1, h2, h3, h4, h5, h6, h7, h8, h9, h10, h11, h12⟩ := hx
            obtain ⟨-, rfl, rfl⟩ := tk_u t5 h1
            have ea := KnP_u kn5 h2
            subst ea
            exact (tk_ex (sT_of (fun i => (show aFr m_cStreetBB st s5 from (fr_tr (fr_rf _ _) fs5 rfl)) 2 i rfl rfl) ((show aFr m_cStreetBB st s5 from (fr_tr (fr_rf _ _) fs5 rfl)) 1 1 rfl rfl) ((show aFr m_cStreetBB st s5 from (fr_tr (fr_rf _ _) fs5 rfl)) 148 2 rfl rfl)) (own_no rd5 (fun i hi => ((show aFr m_cStreetBB st s5 from (fr_tr (fr_rf _ _) fs5 rfl)) 150 i rfl rfl).trans (ow i hi)) (i := 2) (by omega) (by omega))) ⟨e2, h3⟩))⟩
  · refine ⟨fun h63 => ?_, fun h63 => (by exfalso; omega)⟩
    refine ⟨by omega, ?_⟩
    exact hQ _ _ ⟨gs5, (fr_tr (fr_rf _ _) fs5 rfl), (show ((0 : Int) = 1 ∧ bSt (ctx st) (st 1 1) (tn 135 st) (st 149 5) (tn 135 s5) (s5 149 5) ∧ RDc s5) ∨ ((0 : Int) = 0 ∧ ¬ ∃ (T' : zS) (q : Int), bSt (ctx st) (st 1 1) (tn 135 st) (st 149 5) T' q) from (by
            refine Or.inr ⟨rfl, fun hx => ?_⟩
            obtain ⟨T', q, h0, v, a, e1, e2, u, b, e3, e4, m, h1, h2, h3, h4, h5, h6, h7, h8, h9, h10, h11, h12⟩ := hx
            exact l5 ⟨v, a, e1, h1, h2⟩))⟩
theorem k_cStreetBB_m (hTb : aTb zSh rx_tb cl) {D : Nat} (hD : 5 ≤ D) : ∀ as st (Q Q' : zQ), (∀ r st', Q r st' → Q' r st') → k_cStreetBB 240 as st Q → cl D 240 as st Q' := by
  intro as st Q Q' hQ h
  unfold k_cStreetBB at h
  split at h
  · obtain ⟨rfl, h⟩ := h
    exact c_cStreetBB hTb hD (ct_cStreetBB_m hQ h)
  · exact h.elim
set_option maxHeartbeats 4000000 in
set_option maxRecDepth 100000 in
theorem c_cBeginB (hTb : aTb zSh rx_tb cl) {D : Nat} (hD : 1 ≤ D) {hb : Int} {st : zS} {Q : zQ} (h : ct_cBeginB hb st Q) : cl D 243 [.inr (.inr (.inl 148)), .inl hb] st Q := by
  obtain ⟨d, rfl⟩ : ∃ d, D = d + 1 := ⟨D - 1, by omega⟩
  refine hTb d 243 (rx_m243, 2, 0, 0, 2) rfl _ _ _ (Nat.le_of_ble_eq_true rfl) (fun K hcl hsf hsl => ?_)
  have hcm : zmo (zno) (cl d) := zno_m
  obtain ⟨hR, hQ⟩ := h
  obtain ⟨hG, q, tw⟩ := hR
  change hb = 0 ∨ hb = 1 at q
  change st 148 1 = 135 at tw
  have g1 := g_f148_1 hG
  have g2 := g_f135_16 hG
  have g3 := g_f135_17 hG
  have g4 := g_f135_18 hG
  have g5 := g_f148_2 hG
  refine dr1_ok (Rt := Q) (wc := (zno)) (stp := []) hcm hcl [(10, 135), (14, 135), (27, 135), (31, 135)] [] 40 ?_
  show ((hb = (0 : Int) ∨ hb = (1 : Int)) ∧ ((hb = (0 : Int) → ((st 148 1 = (135 : Int)) ∧ ((st 148 1 = (135 : Int)) ∧ ((1 = (0 : Int) ∨ 1 = (1 : Int)) ∧ Q (some (.inl 1)) (zup (zup st 148 2 hb) 135 17 (st 135 16)))))) ∧ (¬ (hb = (0 : Int)) → ((st 148 1 = (135 : Int)) ∧ ((st 148 1 = (135 : Int)) ∧ ((1 = (0 : Int) ∨ 1 = (1 : Int)) ∧ Q (some (.inl 1)) (zup (zup st 148 2 hb) 135 18 (st 135 16))))))))
  refine ⟨by omega, ?_⟩
  refine ⟨fun h6 => ?_, fun h6 => ?_⟩
  · refine ⟨by omega, ?_⟩
    refine ⟨by omega, ?_⟩
    refine ⟨by omega, ?_⟩
    exact hQ _ _ ⟨(gInv_up (gInv_up hG (p_f148_2 (by omega))) (p_f135_17 (by omega))), (fr_f (fr_f (fr_rf _ _) rfl) rfl), (show (1 : Int) = 1 from by omega), (show hb = hb from by omega), (show (hb = 0 → (st 135 16) = st 135 16 ∧ st 135 18 = st 135 18) ∧ (hb = 1 → st 135 18 = st 135 16 ∧ (st 135 16) = st 135 17) from by omega)⟩
  · refine ⟨by omega, ?_⟩
    refine ⟨by omega, ?_⟩
    refine ⟨by omega, ?_⟩
    exact hQ _ _ ⟨(gInv_up (gInv_up hG (p_f148_2 (by omega))) (p_f135_18 (by omega))), (fr_f (fr_f (fr_rf _ _) rfl) rfl), (show (1 : Int) = 1 from by omega), (show hb = hb from by omega), (show (hb = 0 → st 135 17 = st 135 16 ∧ (st 135 16) = st 135 18) ∧ (hb = 1 → (st 135 16) = st 135 16 ∧ st 135 17 = st 135 17) from by omega)⟩
theorem k_cBeginB_m (hTb : aTb zSh rx_tb cl) {D : Nat} (hD : 1 ≤ D) : ∀ as st (Q Q' : zQ), (∀ r st', Q r st' → Q' r st') → k_cBeginB 243 as st Q → cl D 243 as st Q' := by
  intro as st Q Q' hQ h
  unfold k_cBeginB at h
  split at h
  · obtain ⟨rfl, h⟩ := h
    exact c_cBeginB hTb hD (ct_cBeginB_m hQ h)
  · exact h.elim
set_option maxHeartbeats 4000000 in
set_option maxRecDepth 100000 in
theorem c_cEndCodeB (hTb : aTb zSh rx_tb cl) {D : Nat} (hD : 3 ≤ D) {st : zS} {Q : zQ} (h : ct_cEndCodeB  st Q) : cl D 244 [.inr (.inr (.inl 148))] st Q := by
  obtain ⟨d, rfl⟩ : ∃ d, D = d + 1 := ⟨D - 1, by omega⟩
  refine hTb d 244 (rx_m244, 1, 0, 0, 2) rfl _ _ _ (Nat.le_of_ble_eq_true rfl) (fun K hcl hsf hsl => ?_)
  have hcm : zmo (wcL [(282, k_cAddCodeB)]) (cl d) := (wcL_m (wm_cons (k_cAddCodeB_m hTb (by omega)) wm_nil))
  obtain ⟨hR, hQ⟩ := h
  obtain ⟨hG, tw, cb⟩ := hR
  change st 148 1 = 135 at tw
  change st 135 16 ≤ 1599 at cb
  have g1 := g_f148_1 hG
  have g2 := g_f135_16 hG
  refine dr1_ok (Rt := Q) (wc := (wcL [(282, k_cAddCodeB)])) (stp := []) hcm hcl [(1, 135)] [] 27 ?_
  show ((st 148 1 = (135 : Int)) ∧ (135 = 135 ∧ (rq_cAddCodeB (202) (0) st ∧ (∀ (s3 : zS), en_cAddCodeB (202) (0) st s3 → ((1 = (0 : Int) ∨ 1 = (1 : Int)) ∧ Q (some (.inl 1)) s3)))))
  refine ⟨by omega, ?_⟩
  refine ⟨rfl, ⟨hG, (show (0 ≤ (202) ∧ (202) ≤ 255) ∧ 0 ≤ (0) ∧ (0) ≤ 9999 from by omega), (show st 135 16 ≤ 1599 from by omega)⟩, fun s3 q3 => ?_⟩
  obtain ⟨gs3, fs3, cc3, cf3⟩ := q3
  change s3 135 16 = st 135 16 + 1 at cc3
  have g4 := g_f135_16 gs3
  change (s3 147) = up1 (st 147) (st 135 16).toNat (65536 * (202) + (0)) at cf3
  refine ⟨by omega, ?_⟩
  exact hQ _ _ ⟨gs3, (fr_tr (fr_rf _ _) fs3 rfl), (show (1 : Int) = 1 from by omega), (show s3 135 16 = st 135 16 + 1 from by omega), (show (s3 147) = up1 (st 147) (st 135 16).toNat 13238272 from cf3)⟩
theorem k_cEndCodeB_m (hTb : aTb zSh rx_tb cl) {D : Nat} (hD : 3 ≤ D) : ∀ as st (Q Q' : zQ), (∀ r st', Q r st' → Q' r st') → k_cEndCodeB 244 as st Q → cl D 244 as st Q' := by
  intro as st Q Q' hQ h
  unfold k_cEndCodeB at h
  split at h
  · obtain ⟨rfl, h⟩ := h
    exact c_cEndCodeB hTb hD (ct_cEndCodeB_m hQ h)
  · exact h.elim
set_option maxHeartbeats 4000000 in
set_option maxRecDepth 100000 in
theorem c_cHasStandsB (hTb : aTb zSh rx_tb cl) {D : Nat} (hD : 1 ≤ D) {st : zS} {Q : zQ} (h : ct_cHasStandsB  st Q) : cl D 278 [.inr (.inr (.inl 135))] st Q := by
  obtain ⟨d, rfl⟩ : ∃ d, D = d + 1 := ⟨D - 1, by omega⟩
  refine hTb d 278 (rx_m278, 1, 0, 0, 2) rfl _ _ _ (Nat.le_of_ble_eq_true rfl) (fun K hcl hsf hsl => ?_)
  have hcm : zmo (zno) (cl d) := zno_m
  have hQ := h
  refine yr1_ok (Rt := Q) (wc := (zno)) (stp := []) hcm hcl [] 28 ?_
  show ((st 135 17 = ((-1) : Int) → ((0 = (0 : Int) ∨ 0 = (1 : Int)) ∧ Q (some (.inl 0)) st)) ∧ (¬ (st 135 17 = ((-1) : Int)) → ((1 = (0 : Int) ∨ 1 = (1 : Int)) ∧ Q (some (.inl 1)) st)))
  refine ⟨fun h1 => ?_, fun h1 => ?_⟩
  · refine ⟨by omega, ?_⟩
    exact hQ _ (show ((0 : Int) = 0 ∨ (0 : Int) = 1) ∧ ((0 : Int) = 1 ↔ ¬ st 135 17 = -1) from by omega)
  · refine ⟨by omega, ?_⟩
    exact hQ _ (show ((1 : Int) = 0 ∨ (1 : Int) = 1) ∧ ((1 : Int) = 1 ↔ ¬ st 135 17 = -1) from by omega)
theorem k_cHasStandsB_m (hTb : aTb zSh rx_tb cl) {D : Nat} (hD : 1 ≤ D) : ∀ as st (Q Q' : zQ), (∀ r st', Q r st' → Q' r st') → k_cHasStandsB 278 as st Q → cl D 278 as st Q' := by
  intro as st Q Q' hQ h
  unfold k_cHasStandsB at h
  split at h
  · obtain ⟨rfl, h⟩ := h
    exact c_cHasStandsB hTb hD (ct_cHasStandsB_m hQ h)
  · exact h.elim
set_option maxHeartbeats 4000000 in
set_option maxRecDepth 100000 in
theorem c_cHasCleverB (hTb : aTb zSh rx_tb cl) {D : Nat} (hD : 1 ≤ D) {st : zS} {Q : zQ} (h : ct_cHasCleverB  st Q) : cl D 18 [.inr (.inr (.inl 135))] st Q := by
  obtain ⟨d, rfl⟩ : ∃ d, D = d + 1 := ⟨D - 1, by omega⟩
  refine hTb d 18 (rx_m18, 1, 0, 0, 2) rfl _ _ _ (Nat.le_of_ble_eq_true rfl) (fun K hcl hsf hsl => ?_)
  have hcm : zmo (zno) (cl d) := zno_m
  have hQ := h
  refine yr1_ok (Rt := Q) (wc := (zno)) (stp := []) hcm hcl [] 28 ?_
  show ((st 135 18 = ((-1) : Int) → ((0 = (0 : Int) ∨ 0 = (1 : Int)) ∧ Q (some (.inl 0)) st)) ∧ (¬ (st 135 18 = ((-1) : Int)) → ((1 = (0 : Int) ∨ 1 = (1 : Int)) ∧ Q (some (.inl 1)) st)))
  refine ⟨fun h1 => ?_, fun h1 => ?_⟩
  · refine ⟨by omega, ?_⟩
    exact hQ _ (show ((0 : Int) = 0 ∨ (0 : Int) = 1) ∧ ((0 : Int) = 1 ↔ ¬ st 135 18 = -1) from by omega)
  · refine ⟨by omega, ?_⟩
    exact hQ _ (show ((1 : Int) = 0 ∨ (1 : Int) = 1) ∧ ((1 : Int) = 1 ↔ ¬ st 135 18 = -1) from by omega)
theorem k_cHasCleverB_m (hTb : aTb zSh rx_tb cl) {D : Nat} (hD : 1 ≤ D) : ∀ as st (Q Q' : zQ), (∀ r st', Q r st' → Q' r st') → k_cHasCleverB 18 as st Q → cl D 18 as st Q' := by
  intro as st Q Q' hQ h
  unfold k_cHasCleverB at h
  split at h
  · obtain ⟨rfl, h⟩ := h
    exact c_cHasCleverB hTb hD (ct_cHasCleverB_m hQ h)
  · exact h.elim
end R9s
