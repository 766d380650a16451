/-! printed by wip/p4/py/c4.py: names and places, town 135 -/
def m_cNewNameB : aM := ([(148, 3), (148, 4), (149, 2), (149, 3), (149, 4), (149, 5), (149, 6)], [])
def rq_cNewNameB  (st : zS) : Prop := gInv zgt st ∧ (RDc st) ∧ (cOW st) ∧ (st 148 1 = 135)
def en_cNewNameB  (st : zS) (r : Int) (s1 : zS) : Prop := gInv zgt s1 ∧ aFr m_cNewNameB st s1 ∧ ((∃ v : Int, tk (ctx st) (st 1 1) (st 149 5) 1 v (s1 149 5) ∧ NOwn v ∧ isN6 v r ∧ FrN (tn 135 st) r ∧ RDc s1) ∨ (r = -1 ∧ ¬ ∃ v w e : Int, tk (ctx st) (st 1 1) (st 149 5) 1 v e ∧ NOwn v ∧ isN6 v w ∧ FrN (tn 135 st) w))
def ct_cNewNameB  (st : zS) (Q : zQ) : Prop := rq_cNewNameB  st ∧ (∀ (r : Int) (s1 : zS), en_cNewNameB  st r s1 → Q (some (.inl r)) s1)
theorem ct_cNewNameB_m {st : zS} {Q Q' : zQ} (hQ : ∀ r st', Q r st' → Q' r st') (h : ct_cNewNameB  st Q) : ct_cNewNameB  st Q' := ⟨h.1, fun x0 x1 x2 => hQ _ _ (h.2 x0 x1 x2)⟩
def k_cNewNameB : zCall := fun _ as st Q => match as with
  | [.inr (.inr (.inl z_o))] => z_o = 148 ∧ ct_cNewNameB  st Q
  | _ => False
def m_cKnownB : aM := ([(148, 3), (148, 4), (149, 2), (149, 3), (149, 4), (149, 5), (149, 6)], [])
def rq_cKnownB  (st : zS) : Prop := gInv zgt st ∧ (RDc st) ∧ (cOW st) ∧ (st 148 1 = 135)
def en_cKnownB  (st : zS) (r : Int) (s1 : zS) : Prop := gInv zgt s1 ∧ aFr m_cKnownB st s1 ∧ ((∃ v : Int, tk (ctx st) (st 1 1) (st 149 5) 1 v (s1 149 5) ∧ KnP (tn 135 st) v r ∧ RDc s1) ∨ (r = -1 ∧ ¬ ∃ v a e : Int, tk (ctx st) (st 1 1) (st 149 5) 1 v e ∧ KnP (tn 135 st) v a))
def ct_cKnownB  (st : zS) (Q : zQ) : Prop := rq_cKnownB  st ∧ (∀ (r : Int) (s1 : zS), en_cKnownB  st r s1 → Q (some (.inl r)) s1)
theorem ct_cKnownB_m {st : zS} {Q Q' : zQ} (hQ : ∀ r st', Q r st' → Q' r st') (h : ct_cKnownB  st Q) : ct_cKnownB  st Q' := ⟨h.1, fun x0 x1 x2 => hQ _ _ (h.2 x0 x1 x2)⟩
def k_cKnownB : zCall := fun _ as st Q => match as with
  | [.inr (.inr (.inl z_o))] => z_o = 148 ∧ ct_cKnownB  st Q
  | _ => False
section R9q
variable {cl : Nat → zCall}
set_option maxHeartbeats 4000000 in
set_option maxRecDepth 100000 in
theorem c_cNewNameB (hTb : aTb zSh rx_tb cl) {D : Nat} (hD : 4 ≤ D) {st : zS} {Q : zQ} (h : ct_cNewNameB  st Q) : cl D 247 [.inr (.inr (.inl 148))] st Q := by
  obtain ⟨d, rfl⟩ : ∃ d, D = d + 1 := ⟨D - 1, by omega⟩
  refine hTb d 247 (rx_m247, 2, 0, 0, 1) rfl _ _ _ (Nat.le_of_ble_eq_true rfl) (fun K hcl hsf hsl => ?_)
  have hcm : zmo (wcL [(236, k_cUnfit), (284, k_cIsNamedB), (235, k_cWrong), (143, k_cNext)]) (cl d) := (wcL_m (wm_cons (k_cUnfit_m hTb (by omega)) (wm_cons (k_cIsNamedB_m hTb (by omega)) (wm_cons (k_cWrong_m hTb (by omega)) (wm_cons (k_cNext_m hTb (by omega)) wm_nil)))))
  obtain ⟨hR, hQ⟩ := h
  obtain ⟨hG, rd, ow, tw⟩ := hR
  change RDc st at rd
  change cOW st at ow
  change st 148 1 = 135 at tw
  have rb := rd.1
  have g1 := g_f148_1 hG
  have g2 := g_wKind hG
  have g3 := g_wValue hG
  refine dr1_ok (Rt := Q) (wc := (wcL [(236, k_cUnfit), (284, k_cIsNamedB), (235, k_cWrong), (143, k_cNext)])) (stp := []) hcm hcl [(27, 135)] [] 53 ?_
  show ((st 149 3 = (1 : Int) → ((st 148 1 = (135 : Int)) ∧ (135 = 135 ∧ (rq_cIsNamedB (st 149 4) st ∧ (∀ (r4 : Int), en_cIsNamedB (st 149 4) st r4 → ((r4 = (0 : Int) → (149 = 149 ∧ (rq_cNext  st ∧ (∀ (s5 : zS), en_cNext  st s5 → Q (some (.inl (st 149 4))) s5)))) ∧ (¬ (r4 = (0 : Int)) → (148 = 148 ∧ (rq_cWrong (2) (st 149 5) st ∧ (Q (some (.inl (-1))) (zup (zup st 148 3 (2)) 148 4 (st 149 5)))))))))))) ∧ (¬ (st 149 3 = (1 : Int)) → (148 = 148 ∧ (rq_cUnfit  st ∧ (Q (some (.inl (-1))) (zup (zup st 148 3 1) 148 4 (st 149 6)))))))
  refine ⟨fun h8 => ?_, fun h8 => ?_⟩
  · refine ⟨by omega, ?_⟩
    refine ⟨rfl, hG, fun r4 q4 => ?_⟩
    have e4 := q4
    change (r4 = 0 ∧ FrN (tn 135 st) (st 149 4)) ∨ (r4 = 1 ∧ ¬ FrN (tn 135 st) (st 149 4)) at e4
    refine ⟨fun h9 => ?_, fun h9 => ?_⟩
    · refine ⟨rfl, ⟨hG, (show RDc st from rd), (show 1 ≤ st 149 3 ∧ st 149 3 ≤ 4 from by omega)⟩, fun s5 q5 => ?_⟩
      obtain ⟨gs5, fs5, rd5, nx5⟩ := q5
      change RDc s5 at rd5
      change NX st s5 at nx5
      have g10 := g_tsize hG
      have g11 := g_wStart hG
      have g12 := g_wStart gs5
      exact hQ _ _ ⟨gs5, (fr_tr (fr_rf _ _) fs5 rfl), (show (∃ v : Int, tk (ctx st) (st 1 1) (st 149 5) 1 v (s5 149 5) ∧ NOwn v ∧ isN6 v (st 149 4) ∧ FrN (tn 135 st) (st 149 4) ∧ RDc s5) ∨ ((st 149 4) = -1 ∧ ¬ ∃ v w e : Int, tk (ctx st) (st 1 1) (st 149 5) 1 v e ∧ NOwn v ∧ isN6 v w ∧ FrN (tn 135 st) w) from (by
            obtain ⟨v, h1, h2, h3⟩ := nx_nam rd ow nx5 (by omega)
            rcases e4 with ⟨z1, z2⟩ | ⟨z1, z2⟩
            · exact Or.inl ⟨v, h1, h3, h2, z2, rd5⟩
            · exfalso; omega))⟩
    · have g13 := g_wStart hG
      refine ⟨rfl, ⟨hG, (show -2147483648 ≤ (2) ∧ (2) ≤ 2147483647 ∧ -2147483648 ≤ (st 149 5) ∧ (st 149 5) ≤ 2147483647 from by omega)⟩, ?_⟩
      have g14 := g_tsize hG
      exact hQ _ _ ⟨(gInv_up (gInv_up hG (p_rFault (by omega))) (p_rFaultAt (by omega))), (fr_f (fr_f (fr_rf _ _) rfl) rfl), (show (∃ v : Int, tk (ctx st) (st 1 1) (st 149 5) 1 v (st 149 5) ∧ NOwn v ∧ isN6 v ((-1) : Int) ∧ FrN (tn 135 st) ((-1) : Int) ∧ RDc (zup (zup st 148 3 (2)) 148 4 (st 149 5))) ∨ (((-1) : Int) = -1 ∧ ¬ ∃ v w e : Int, tk (ctx st) (st 1 1) (st 149 5) 1 v e ∧ NOwn v ∧ isN6 v w ∧ FrN (tn 135 st) w) from (by
            refine Or.inr ⟨rfl, fun hx => ?_⟩
            obtain ⟨v, w, e, h1, h2, h3, h4⟩ := hx
            obtain ⟨v2, e2, k1, k2, k3⟩ := nam_tk rd ow (by omega)
            have u := (tk_u k1 h1).2.1
            subst u
            have u2 := (isN6_u k2 h3).mp rfl
            rw [← u2] at h4
            rcases e4 with ⟨z1, z2⟩ | ⟨z1, z2⟩
            · omega
            · exact z2 h4))⟩
  · have g15 := g_wSpot hG
    refine ⟨rfl, hG, ?_⟩
    have g16 := g_tsize hG
    have g17 := g_wStart hG
    exact hQ _ _ ⟨(gInv_up (gInv_up hG (p_rFault (by omega))) (p_rFaultAt (by omega))), (fr_f (fr_f (fr_rf _ _) rfl) rfl), (show (∃ v : Int, tk (ctx st) (st 1 1) (st 149 5) 1 v (st 149 5) ∧ NOwn v ∧ isN6 v ((-1) : Int) ∧ FrN (tn 135 st) ((-1) : Int) ∧ RDc (zup (zup st 148 3 1) 148 4 (st 149 6))) ∨ (((-1) : Int) = -1 ∧ ¬ ∃ v w e : Int, tk (ctx st) (st 1 1) (st 149 5) 1 v e ∧ NOwn v ∧ isN6 v w ∧ FrN (tn 135 st) w) from (by
            refine Or.inr ⟨rfl, fun hx => ?_⟩
            obtain ⟨v, w, e, h1, h2, h3, h4⟩ := hx
            exact nam_no rd ow (by omega) ⟨v, e, h1, h2⟩))⟩
theorem k_cNewNameB_m (hTb : aTb zSh rx_tb cl) {D : Nat} (hD : 4 ≤ D) : ∀ as st (Q Q' : zQ), (∀ r st', Q r st' → Q' r st') → k_cNewNameB 247 as st Q → cl D 247 as st Q' := by
  intro as st Q Q' hQ h
  unfold k_cNewNameB at h
  split at h
  · obtain ⟨rfl, h⟩ := h
    exact c_cNewNameB hTb hD (ct_cNewNameB_m hQ h)
  · exact h.elim
set_option maxHeartbeats 4000000 in
set_option maxRecDepth 100000 in
theorem c_cKnownB (hTb : aTb zSh rx_tb cl) {D : Nat} (hD : 4 ≤ D) {st : zS} {Q : zQ} (h : ct_cKnownB  st Q) : cl D 248 [.inr (.inr (.inl 148))] st Q := by
  obtain ⟨d, rfl⟩ : ∃ d, D = d + 1 := ⟨D - 1, by omega⟩
  refine hTb d 248 (rx_m248, 2, 0, 0, 1) rfl _ _ _ (Nat.le_of_ble_eq_true rfl) (fun K hcl hsf hsl => ?_)
  have hcm : zmo (wcL [(236, k_cUnfit), (283, k_cPlaceNamedB), (235, k_cWrong), (143, k_cNext)]) (cl d) := (wcL_m (wm_cons (k_cUnfit_m hTb (by omega)) (wm_cons (k_cPlaceNamedB_m hTb (by omega)) (wm_cons (k_cWrong_m hTb (by omega)) (wm_cons (k_cNext_m hTb (by omega)) wm_nil)))))
  obtain ⟨hR, hQ⟩ := h
  obtain ⟨hG, rd, ow, tw⟩ := hR
  change RDc st at rd
  change cOW st at ow
  change st 148 1 = 135 at tw
  have rb := rd.1
  have g1 := g_f148_1 hG
  have g2 := g_wKind hG
  have g3 := g_wValue hG
  refine dr1_ok (Rt := Q) (wc := (wcL [(236, k_cUnfit), (283, k_cPlaceNamedB), (235, k_cWrong), (143, k_cNext)])) (stp := []) hcm hcl [(19, 135)] [] 54 ?_
  show ((st 149 3 = (1 : Int) → ((st 148 1 = (135 : Int)) ∧ (135 = 135 ∧ (rq_cPlaceNamedB (st 149 4) st ∧ (∀ (r4 : Int), en_cPlaceNamedB (st 149 4) st r4 → ((¬ r4 = ((-1) : Int) → (149 = 149 ∧ (rq_cNext  st ∧ (∀ (s5 : zS), en_cNext  st s5 → Q (some (.inl r4)) s5)))) ∧ (¬ (¬ r4 = ((-1) : Int)) → (148 = 148 ∧ (rq_cWrong (3) (st 149 5) st ∧ (Q (some (.inl (-1))) (zup (zup st 148 3 (3)) 148 4 (st 149 5)))))))))))) ∧ (¬ (st 149 3 = (1 : Int)) → (148 = 148 ∧ (rq_cUnfit  st ∧ (Q (some (.inl (-1))) (zup (zup st 148 3 1) 148 4 (st 149 6)))))))
  refine ⟨fun h8 => ?_, fun h8 => ?_⟩
  · refine ⟨by omega, ?_⟩
    refine ⟨rfl, hG, fun r4 q4 => ?_⟩
    have e4 := q4
    change (0 ≤ r4 ∧ r4 < st 135 1 ∧ st 136 (r4 : Int).toNat = (st 149 4) ∧ ∀ j : Int, 0 ≤ j → j < r4 → ¬ st 136 j.toNat = (st 149 4)) ∨ (r4 = -1 ∧ ∀ j : Int, 0 ≤ j → j < st 135 1 → ¬ st 136 j.toNat = (st 149 4)) at e4
    have g9 := g_f135_1 hG
    have g10 := g_a136 hG (r4 : Int).toNat
    refine ⟨fun h11 => ?_, fun h11 => ?_⟩
    · refine ⟨rfl, ⟨hG, (show RDc st from rd), (show 1 ≤ st 149 3 ∧ st 149 3 ≤ 4 from by omega)⟩, fun s5 q5 => ?_⟩
      obtain ⟨gs5, fs5, rd5, nx5⟩ := q5
      change RDc s5 at rd5
      change NX st s5 at nx5
      have g12 := g_tsize hG
      have g13 := g_wStart hG
      have g14 := g_wStart gs5
      exact hQ _ _ ⟨gs5, (fr_tr (fr_rf _ _) fs5 rfl), (show (∃ v : Int, tk (ctx st) (st 1 1) (st 149 5) 1 v (s5 149 5) ∧ KnP (tn 135 st) v r4 ∧ RDc s5) ∨ (r4 = -1 ∧ ¬ ∃ v a e : Int, tk (ctx st) (st 1 1) (st 149 5) 1 v e ∧ KnP (tn 135 st) v a) from (by
            obtain ⟨v, h1, h2, h3⟩ := nx_nam rd ow nx5 (by omega)
            rcases e4 with ⟨z1, z2, z3, z4⟩ | ⟨z1, z2⟩
            · exact Or.inl ⟨v, h1, ⟨h3, st 149 4, h2, ⟨z1, z2, z3⟩, z4⟩, rd5⟩
            · exfalso; omega))⟩
    · have g15 := g_wStart hG
      refine ⟨rfl, ⟨hG, (show -2147483648 ≤ (3) ∧ (3) ≤ 2147483647 ∧ -2147483648 ≤ (st 149 5) ∧ (st 149 5) ≤ 2147483647 from by omega)⟩, ?_⟩
      have g16 := g_tsize hG
      exact hQ _ _ ⟨(gInv_up (gInv_up hG (p_rFault (by omega))) (p_rFaultAt (by omega))), (fr_f (fr_f (fr_rf _ _) rfl) rfl), (show (∃ v : Int, tk (ctx st) (st 1 1) (st 149 5) 1 v (st 149 5) ∧ KnP (tn 135 st) v ((-1) : Int) ∧ RDc (zup (zup st 148 3 (3)) 148 4 (st 149 5))) ∨ (((-1) : Int) = -1 ∧ ¬ ∃ v a e : Int, tk (ctx st) (st 1 1) (st 149 5) 1 v e ∧ KnP (tn 135 st) v a) from (by
            refine Or.inr ⟨rfl, fun hx => ?_⟩
            obtain ⟨v, a, e, h1, h2, x, h3, ⟨h4, h5, h6⟩, h7⟩ := hx
            obtain ⟨v2, e2, k1, k2, k3⟩ := nam_tk rd ow (by omega)
            have u := (tk_u k1 h1).2.1
            subst u
            have u2 := (isN6_u k2 h3).mp rfl
            rcases e4 with ⟨z1, z2, z3, z4⟩ | ⟨z1, z2⟩
            · omega
            · exact z2 a h4 h5 (show st 136 a.toNat = st 149 4 from by rw [u2]; exact h6)))⟩
  · have g17 := g_wSpot hG
    refine ⟨rfl, hG, ?_⟩
    have g18 := g_tsize hG
    have g19 := g_wStart hG
    exact hQ _ _ ⟨(gInv_up (gInv_up hG (p_rFault (by omega))) (p_rFaultAt (by omega))), (fr_f (fr_f (fr_rf _ _) rfl) rfl), (show (∃ v : Int, tk (ctx st) (st 1 1) (st 149 5) 1 v (st 149 5) ∧ KnP (tn 135 st) v ((-1) : Int) ∧ RDc (zup (zup st 148 3 1) 148 4 (st 149 6))) ∨ (((-1) : Int) = -1 ∧ ¬ ∃ v a e : Int, tk (ctx st) (st 1 1) (st 149 5) 1 v e ∧ KnP (tn 135 st) v a) from (by
            refine Or.inr ⟨rfl, fun hx => ?_⟩
            obtain ⟨v, a, e, h1, h2⟩ := hx
            exact nam_no rd ow (by omega) ⟨v, e, h1, h2.1⟩))⟩
theorem k_cKnownB_m (hTb : aTb zSh rx_tb cl) {D : Nat} (hD : 4 ≤ D) : ∀ as st (Q Q' : zQ), (∀ r st', Q r st' → Q' r st') → k_cKnownB 248 as st Q → cl D 248 as st Q' := by
  intro as st Q Q' hQ h
  unfold k_cKnownB at h
  split at h
  · obtain ⟨rfl, h⟩ := h
    exact c_cKnownB hTb hD (ct_cKnownB_m hQ h)
  · exact h.elim
end R9q
