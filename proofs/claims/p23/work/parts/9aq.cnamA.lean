/-! printed by wip/p4/py/c4.py: names and places, town 122 -/
def m_cNewNameA : aM := ([(148, 3), (148, 4), (149, 2), (149, 3), (149, 4), (149, 5), (149, 6)], [])
def rq_cNewNameA  (st : zS) : Prop := gInv zgt st ∧ (RDc st) ∧ (cOW st) ∧ (st 148 1 = 122)
def en_cNewNameA  (st : zS) (r : Int) (s1 : zS) : Prop := gInv zgt s1 ∧ aFr m_cNewNameA st s1 ∧ ((∃ v : Int, tk (ctx st) (st 1 1) (st 149 5) 1 v (s1 149 5) ∧ NOwn v ∧ isN6 v r ∧ FrN (tn 122 st) r ∧ RDc s1) ∨ (r = -1 ∧ ¬ ∃ v w e : Int, tk (ctx st) (st 1 1) (st 149 5) 1 v e ∧ NOwn v ∧ isN6 v w ∧ FrN (tn 122 st) w))
def ct_cNewNameA  (st : zS) (Q : zQ) : Prop := rq_cNewNameA  st ∧ (∀ (r : Int) (s1 : zS), en_cNewNameA  st r s1 → Q (some (.inl r)) s1)
theorem ct_cNewNameA_m {st : zS} {Q Q' : zQ} (hQ : ∀ r st', Q r st' → Q' r st') (h : ct_cNewNameA  st Q) : ct_cNewNameA  st Q' := ⟨h.1, fun x0 x1 x2 => hQ _ _ (h.2 x0 x1 x2)⟩
def k_cNewNameA : zCall := fun _ as st Q => match as with
  | [.inr (.inr (.inl z_o))] => z_o = 148 ∧ ct_cNewNameA  st Q
  | _ => False
def m_cKnownA : aM := ([(148, 3), (148, 4), (149, 2), (149, 3), (149, 4), (149, 5), (149, 6)], [])
def rq_cKnownA  (st : zS) : Prop := gInv zgt st ∧ (RDc st) ∧ (cOW st) ∧ (st 148 1 = 122)
def en_cKnownA  (st : zS) (r : Int) (s1 : zS) : Prop := gInv zgt s1 ∧ aFr m_cKnownA st s1 ∧ ((∃ v : Int, tk (ctx st) (st 1 1) (st 149 5) 1 v (s1 149 5) ∧ KnP (tn 122 st) v r ∧ RDc s1) ∨ (r = -1 ∧ ¬ ∃ v a e : Int, tk (ctx st) (st 1 1) (st 149 5) 1 v e ∧ KnP (tn 122 st) v a))
def ct_cKnownA  (st : zS) (Q : zQ) : Prop := rq_cKnownA  st ∧ (∀ (r : Int) (s1 : zS), en_cKnownA  st r s1 → Q (some (.inl r)) s1)
theorem ct_cKnownA_m {st : zS} {Q Q' : zQ} (hQ : ∀ r st', Q r st' → Q' r st') (h : ct_cKnownA  st Q) : ct_cKnownA  st Q' := ⟨h.1, fun x0 x1 x2 => hQ _ _ (h.2 x0 x1 x2)⟩
def k_cKnownA : zCall := fun _ as st Q => match as with
  | [.inr (.inr (.inl z_o))] => z_o = 148 ∧ ct_cKnownA  st Q
  | _ => False
section R9q
variable {cl : Nat → zCall}
set_option maxHeartbeats 4000000 in
set_option maxRecDepth 100000 in
theorem c_cNewNameA (hTb : aTb zSh rx_tb cl) {D : Nat} (hD : 4 ≤ D) {st : zS} {Q : zQ} (h : ct_cNewNameA  st Q) : cl D 247 [.inr (.inr (.inl 148))] st Q := by
  obtain ⟨d, rfl⟩ : ∃ d, D = d + 1 := ⟨D - 1, by omega⟩
  refine hTb d 247 (rx_m247, 2, 0, 0, 1) rfl _ _ _ (Nat.le_of_ble_eq_true rfl) (fun K hcl hsf hsl => ?_)
  have hcm : zmo (wcL [(236, k_cUnfit), (284, k_cIsNamedA), (235, k_cWrong), (143, k_cNext)]) (cl d) := (wcL_m (wm_cons (k_cUnfit_m hTb (by omega)) (wm_cons (k_cIsNamedA_m hTb (by omega)) (wm_cons (k_cWrong_m hTb (by omega)) (wm_cons (k_cNext_m hTb (by omega)) wm_nil)))))
  obtain ⟨hR, hQ⟩ := h
  obtain ⟨hG, rd, ow, tw⟩ := hR
  change RDc st at rd
  change cOW st at ow
  change st 148 1 = 122 at tw
  have rb := rd.1
  have g1 := g_f148_1 hG
  have g2 := g_wKind hG
  have g3 := g_wValue hG
  refine dr1_ok (Rt := Q) (wc := (wcL [(236, k_cUnfit), (284, k_cIsNamedA), (235, k_cWrong), (143, k_cNext)])) (stp := []) hcm hcl [(27, 122)] [] 53 ?_
  show ((st 149 3 = (1 : Int) → ((st 148 1 = (122 : Int)) ∧ (122 = 122 ∧ (rq_cIsNamedA (st 149 4) st ∧ (∀ (r4 : Int), en_cIsNamedA (st 149 4) st r4 → ((r4 = (0 : Int) → (149 = 149 ∧ (rq_cNext  st ∧ (∀ (s5 : zS), en_cNext  st s5 → Q (some (.inl (st 149 4))) s5)))) ∧ (¬ (r4 = (0 : Int)) → (148 = 148 ∧ (rq_cWrong (2) (st 149 5) st ∧ (Q (some (.inl (-1))) (zup (zup st 148 3 (2)) 148 4 (st 149 5)))))))))))) ∧ (¬ (st 149 3 = (1 : Int)) → (148 = 148 ∧ (rq_cUnfit  st ∧ (Q (some (.inl (-1))) (zup (zup st 148 3 1) 148 4 (st 149 6)))))))
  refine ⟨fun h8 => ?_, fun h8 => ?_⟩
  · refine ⟨by omega, ?_⟩
    refine ⟨rfl, hG, fun r4 q4 => ?_⟩
    have e4 := q4
    change (r4 = 0 ∧ FrN (tn 122 st) (st 149 4)) ∨ (r4 = 1 ∧ ¬ FrN (tn 122 st) (st 149 4)) at e4
    refine ⟨fun h9 => ?_, fun h9 => ?_⟩
    · refine ⟨rfl, ⟨hG, (show RDc st from rd), (show 1 ≤ st 149 3 ∧ st 149 3 ≤ 4 from by omega)⟩, fun s5 q5 => ?_⟩
      obtain ⟨gs5, fs5, rd5, nx5⟩ := q5
      change RDc s5 at rd5
      change NX st s5 at nx5
      have g10 := g_tsize hG
      have g11 := g_wStart hG
      have g12 := g_wStart gs5
      exact hQ _ _ ⟨gs5, (fr_tr (fr_rf _ _) fs5 rfl), (show (∃ v : Int, tk (ctx st) (st 1 1) (st 149 5) 1 v (s5 149 5) ∧ NOwn v ∧ isN6 v (st 149 4) ∧ FrN (tn 122 st) (st 149 4) ∧ RDc s5) ∨ ((st 149 4) = -1 ∧ ¬ ∃ v w e : Int, tk (ctx st) (st 1 1) (st 149 5) 1 v e ∧ NOwn v ∧ isN6 v w ∧ FrN (tn 122 st) w) from (by
            obtain ⟨v, h1, h2, h3⟩ := nx_nam rd ow nx5 (by omega)
            rcases e4 with ⟨z1, z2⟩ | ⟨z1, z2⟩
            · exact Or.inl ⟨v, h1, h3, h2, z2, rd5⟩
            · exfalso; omega))⟩
    · have g13 := g_wStart hG
      refine ⟨rfl, ⟨hG, (show -2147483648 ≤ (2) ∧ (2) ≤ 2147483647 ∧ -2147483648 ≤ (st 149 5) ∧ (st 149 5) ≤ 2147483647 from by omega)⟩, ?_⟩
      have g14 := g_tsize hG
      exact hQ _ _ ⟨(gInv_up (gInv_up hG (p_rFault (by omega))) (p_rFaultAt (by omega))), (fr_f (fr_f (fr_rf _ _) rfl) rfl), (show (∃ v : Int, tk (ctx st) (st 1 1) (st 149 5) 1 v (st 149 5) ∧ NOwn v ∧ isN6 v ((-1) : Int) ∧ FrN (tn 122 st) ((-1) : Int) ∧ RDc (zup (zup st 148 3 (2)) 148 4 (st 149 5))) ∨ (((-1) : Int) = -1 ∧ ¬ ∃ v w e : Int, tk (ctx st) (st 1 1) (st 149 5) 1 v e ∧ NOwn v ∧ isN6 v w ∧ FrN (tn 122 st) w) from (by
            refine Or.inr ⟨rfl, fun hx => ?_⟩
            obtain ⟨v, w, e, h1, h2, h3, h4⟩ := hx
            obtain ⟨v2, e2, k1, k2, k3⟩ := nam_tk rd ow (by omega)
            have u := (tk_u k1 h1).2.1
            subst u
            have u2 := (isN6_u k2 h3).mp rfl
            rw [← u2] at h4
            rcases e4 with ⟨z1, z2⟩ | ⟨z1, z2⟩
            · omega
            · exact z2 h4))⟩
  · have g15 := g_wSpot hG
    refine ⟨rfl, hG, ?_⟩
    have g16 := g_tsize hG
    have g17 := g_wStart hG
    exact hQ _ _ ⟨(gInv_up (gInv_up hG (p_rFault (by omega))) (p_rFaultAt (by omega))), (fr_f (fr_f (fr_rf _ _) rfl) rfl), (show (∃ v : Int, tk (ctx st) (st 1 1) (st 149 5) 1 v (st 149 5) ∧ NOwn v ∧ isN6 v ((-1) : Int) ∧ FrN (tn 122 st) ((-1) : Int) ∧ RDc (zup (zup st 148 3 1) 148 4 (st 149 6))) ∨ (((-1) : Int) = -1 ∧ ¬ ∃ v w e : Int, tk (ctx st) (st 1 1) (st 149 5) 1 v e ∧ NOwn v ∧ isN6 v w ∧ FrN (tn 122 st) w) from (by
            refine Or.inr ⟨rfl, fun hx => ?_⟩
            obtain ⟨v, w, e, h1, h2, h3, h4⟩ := hx
            exact nam_no rd ow (by omega) ⟨v, e, h1, h2⟩))⟩
theorem k_cNewNameA_m (hTb : aTb zSh rx_tb cl) {D : Nat} (hD : 4 ≤ D) : ∀ as st (Q Q' : zQ), (∀ r st', Q r st' → Q' r st') → k_cNewNameA 247 as st Q → cl D 247 as st Q' := by
  intro as st Q Q' hQ h
  unfold k_cNewNameA at h
  split at h
  · obtain ⟨rfl, h⟩ := h
    exact c_cNewNameA hTb hD (ct_cNewNameA_m hQ h)
  · exact h.elim
set_option maxHeartbeats 4000000 in
set_option maxRecDepth 100000 in
theorem c_cKnownA (hTb : aTb zSh rx_tb cl) {D : Nat} (hD : 4 ≤ D) {st : zS} {Q : zQ} (h : ct_cKnownA  st Q) : cl D 248 [.inr (.inr (.inl 148))] st Q := by
  obtain ⟨d, rfl⟩ : ∃ d, D = d + 1 := ⟨D - 1, by omega⟩
  refine hTb d 248 (rx_m248, 2, 0, 0, 1) rfl _ _ _ (Nat.le_of_ble_eq_true rfl) (fun K hcl hsf hsl => ?_)
  have hcm : zmo (wcL [(236, k_cUnfit), (283, k_cPlaceNamedA), (235, k_cWrong), (143, k_cNext)]) (cl d) := (wcL_m (wm_cons (k_cUnfit_m hTb (by omega)) (wm_cons (k_cPlaceNamedA_m hTb (by omega)) (wm_cons (k_cWrong_m hTb (by omega)) (wm_cons (k_cNext_m hTb (by omega)) wm_nil)))))
  obtain ⟨hR, hQ⟩ := h
  obtain ⟨hG, rd, ow, tw⟩ := hR
  change RDc st at rd
  change cOW st at ow
  change st 148 1 = 122 at tw
  have rb := rd.1
  have g1 := g_f148_1 hG
  have g2 := g_wKind hG
  have g3 := g_wValue hG
  refine dr1_ok (Rt := Q) (wc := (wcL [(236, k_cUnfit), (283, k_cPlaceNamedA), (235, k_cWrong), (143, k_cNext)])) (stp := []) hcm hcl [(19, 122)] [] 54 ?_
  show ((st 149 3 = (1 : Int) → ((st 148 1 = (122 : Int)) ∧ (122 = 122 ∧ (rq_cPlaceNamedA (st 149 4) st ∧ (∀ (r4 : Int), en_cPlaceNamedA (st 149 4) st r4 → ((¬ r4 = ((-1) : Int) → (149 = 149 ∧ (rq_cNext  st ∧ (∀ (s5 : zS), en_cNext  st s5 → Q (some (.inl r4)) s5)))) ∧ (¬ (¬ r4 = ((-1) : Int)) → (148 = 148 ∧ (rq_cWrong (3) (st 149 5) st ∧ (Q (some (.inl (-1))) (zup (zup st 148 3 (3)) 148 4 (st 149 5)))))))))))) ∧ (¬ (st 149 3 = (1 : Int)) → (148 = 148 ∧ (rq_cUnfit  st ∧ (Q (some (.inl (-1))) (zup (zup st 148 3 1) 148 4 (st 149 6)))))))
  refine ⟨fun h8 => ?_, fun h8 => ?_⟩
  · refine ⟨by omega, ?_⟩
    refine ⟨rfl, hG, fun r4 q4 => ?_⟩
    have e4 := q4
    change (0 ≤ r4 ∧ r4 < st 122 1 ∧ st 123 (r4 : Int).toNat = (st 149 4) ∧ ∀ j : Int, 0 ≤ j → j < r4 → ¬ st 123 j.toNat = (st 149 4)) ∨ (r4 = -1 ∧ ∀ j : Int, 0 ≤ j → j < st 122 1 → ¬ st 123 j.toNat = (st 149 4)) at e4
    have g9 := g_f122_1 hG
    have g10 := g_a123 hG (r4 : Int).toNat
    refine ⟨fun h11 => ?_, fun h11 => ?_⟩
    · refine ⟨rfl, ⟨hG, (show RDc st from rd), (show 1 ≤ st 149 3 ∧ st 149 3 ≤ 4 from by omega)⟩, fun s5 q5 => ?_⟩
      obtain ⟨gs5, fs5, rd5, nx5⟩ := q5
      change RDc s5 at rd5
      change NX st s5 at nx5
      have g12 := g_tsize hG
      have g13 := g_wStart hG
      have g14 := g_wStart gs5
      exact hQ _ _ ⟨gs5, (fr_tr (fr_rf _ _) fs5 rfl), (show (∃ v : Int, tk (ctx st) (st 1 1) (st 149 5) 1 v (s5 149 5) ∧ KnP (tn 122 st) v r4 ∧ RDc s5) ∨ (r4 = -1 ∧ ¬ ∃ v a e : Int, tk (ctx st) (st 1 1) (st 149 5) 1 v e ∧ KnP (tn 122 st) v a) from (by
            obtain ⟨v, h1, h2, h3⟩ := nx_nam rd ow nx5 (by omega)
            rcases e4 with ⟨z1, z2, z3, z4⟩ | ⟨z1, z2⟩
            · exact Or.inl ⟨v, h1, ⟨h3, st 149 4, h2, ⟨z1, z2, z3⟩, z4⟩, rd5⟩
            · exfalso; omega))⟩
    · have g15 := g_wStart hG
      refine ⟨rfl, ⟨hG, (show -2147483648 ≤ (3) ∧ (3) ≤ 2147483647 ∧ -2147483648 ≤ (st 149 5) ∧ (st 149 5) ≤ 2147483647 from by omega)⟩, ?_⟩
      have g16 := g_tsize hG
      exact hQ _ _ ⟨(gInv_up (gInv_up hG (p_rFault (by omega))) (p_rFaultAt (by omega))), (fr_f (fr_f (fr_rf _ _) rfl) rfl), (show (∃ v : Int, tk (ctx st) (st 1 1) (st 149 5) 1 v (st 149 5) ∧ KnP (tn 122 st) v ((-1) : Int) ∧ RDc (zup (zup st 148 3 (3)) 148 4 (st 149 5))) ∨ (((-1) : Int) = -1 ∧ ¬ ∃ v a e : Int, tk (ctx st) (st 1 1) (st 149 5) 1 v e ∧ KnP (tn 122 st) v a) from (by
            refine Or.inr ⟨rfl, fun hx => ?_⟩
            obtain ⟨v, a, e, h1, h2, x, h3, ⟨h4, h5, h6⟩, h7⟩ := hx
            obtain ⟨v2, e2, k1, k2, k3⟩ := nam_tk rd ow (by omega)
            have u := (tk_u k1 h1).2.1
            subst u
            have u2 := (isN6_u k2 h3).mp rfl
            rcases e4 with ⟨z1, z2, z3, z4⟩ | ⟨z1, z2⟩
            · omega
            · exact z2 a h4 h5 (show st 123 a.toNat = st 149 4 from by rw [u2]; exact h6)))⟩
  · have g17 := g_wSpot hG
    refine ⟨rfl, hG, ?_⟩
    have g18 := g_tsize hG
    have g19 := g_wStart hG
    exact hQ _ _ ⟨(gInv_up (gInv_up hG (p_rFault (by omega))) (p_rFaultAt (by omega))), (fr_f (fr_f (fr_rf _ _) rfl) rfl), (show (∃ v : Int, tk (ctx st) (st 1 1) (st 149 5) 1 v (st 149 5) ∧ KnP (tn 122 st) v ((-1) : Int) ∧ RDc (zup (zup st 148 3 1) 148 4 (st 149 6))) ∨ (((-1) : Int) = -1 ∧ ¬ ∃ v a e : Int, tk (ctx st) (st 1 1) (st 149 5) 1 v e ∧ KnP (tn 122 st) v a) from (by
            refine Or.inr ⟨rfl, fun hx => ?_⟩
            obtain ⟨v, a, e, h1, h2⟩ := hx
            exact nam_no rd ow (by omega) ⟨v, e, h1, h2.1⟩))⟩
theorem k_cKnownA_m (hTb : aTb zSh rx_tb cl) {D : Nat} (hD : 4 ≤ D) : ∀ as st (Q Q' : zQ), (∀ r st', Q r st' → Q' r st') → k_cKnownA 248 as st Q → cl D 248 as st Q' := by
  intro as st Q Q' hQ h
  unfold k_cKnownA at h
  split at h
  · obtain ⟨rfl, h⟩ := h
    exact c_cKnownA hTb hD (ct_cKnownA_m hQ h)
  · exact h.elim
end R9q
