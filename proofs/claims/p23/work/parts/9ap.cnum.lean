/-! printed by wip/p4/py/c4.py: a number -/
def m_cNumber : aM := ([(148, 3), (148, 4), (149, 2), (149, 3), (149, 4), (149, 5), (149, 6)], [])
def rq_cNumber (a : Int) (b : Int) (st : zS) : Prop := gInv zgt st ∧ (RDc st) ∧ (cOW st) ∧ (0 ≤ a ∧ a ≤ 1 ∧ b ≤ 9999)
def en_cNumber (a : Int) (b : Int) (st : zS) (r : Int) (s1 : zS) : Prop := gInv zgt s1 ∧ aFr m_cNumber st s1 ∧ ((a ≤ r ∧ r ≤ b ∧ tk (ctx st) (st 1 1) (st 149 5) 2 r (s1 149 5) ∧ RDc s1) ∨ (r = -1 ∧ ¬ ∃ v e : Int, tk (ctx st) (st 1 1) (st 149 5) 2 v e ∧ a ≤ v ∧ v ≤ b))
def ct_cNumber (a : Int) (b : Int) (st : zS) (Q : zQ) : Prop := rq_cNumber a b st ∧ (∀ (r : Int) (s1 : zS), en_cNumber a b st r s1 → Q (some (.inl r)) s1)
theorem ct_cNumber_m {a b : Int} {st : zS} {Q Q' : zQ} (hQ : ∀ r st', Q r st' → Q' r st') (h : ct_cNumber a b st Q) : ct_cNumber a b st Q' := ⟨h.1, fun x0 x1 x2 => hQ _ _ (h.2 x0 x1 x2)⟩
def k_cNumber : zCall := fun _ as st Q => match as with
  | [.inr (.inr (.inl z_o)), .inl a, .inl b] => z_o = 148 ∧ ct_cNumber a b st Q
  | _ => False
section R9p
variable {cl : Nat → zCall}
set_option maxHeartbeats 40000000 in
set_option maxRecDepth 100000 in
theorem c_cNumber (hTb : aTb zSh rx_tb cl) {D : Nat} (hD : 4 ≤ D) {a b : Int} {st : zS} {Q : zQ} (h : ct_cNumber a b st Q) : cl D 249 [.inr (.inr (.inl 148)), .inl a, .inl b] st Q := by
  obtain ⟨d, rfl⟩ : ∃ d, D = d + 1 := ⟨D - 1, by omega⟩
  refine hTb d 249 (rx_m249, 4, 0, 0, 1) rfl _ _ _ (Nat.le_of_ble_eq_true rfl) (fun K hcl hsf hsl => ?_)
  have hcm : zmo (wcL [(236, k_cUnfit), (235, k_cWrong), (143, k_cNext)]) (cl d) := (wcL_m (wm_cons (k_cUnfit_m hTb (by omega)) (wm_cons (k_cWrong_m hTb (by omega)) (wm_cons (k_cNext_m hTb (by omega)) wm_nil))))
  obtain ⟨hR, hQ⟩ := h
  obtain ⟨hG, rd, ow, q⟩ := hR
  change RDc st at rd
  change cOW st at ow
  change 0 ≤ a ∧ a ≤ 1 ∧ b ≤ 9999 at q
  have rb := rd.1
  have g1 := g_wKind hG
  have g2 := g_wValue hG
  refine yr1_ok (Rt := Q) (wc := (wcL [(236, k_cUnfit), (235, k_cWrong), (143, k_cNext)])) (stp := []) hcm hcl [] 54 ?_
  show ((st 149 3 = (3 : Int) → ((st 149 4 < a → (148 = 148 ∧ (rq_cWrong (4) (st 149 5) st ∧ (Q (some (.inl (-1))) (zup (zup st 148 3 (4)) 148 4 (st 149 5)))))) ∧ (¬ (st 149 4 < a) → ((st 149 4 ≤ b → (149 = 149 ∧ (rq_cNext  st ∧ (∀ (s4 : zS), en_cNext  st s4 → Q (some (.inl (st 149 4))) s4)))) ∧ (¬ (st 149 4 ≤ b) → (148 = 148 ∧ (rq_cWrong (4) (st 149 5) st ∧ (Q (some (.inl (-1))) (zup (zup st 148 3 (4)) 148 4 (st 149 5)))))))))) ∧ (¬ (st 149 3 = (3 : Int)) → (148 = 148 ∧ (rq_cUnfit  st ∧ (Q (some (.inl (-1))) (zup (zup st 148 3 1) 148 4 (st 149 6)))))))
  refine ⟨fun h7 => ?_, fun h7 => ?_⟩
  · refine ⟨fun h8 => ?_, fun h8 => ?_⟩
    · have g9 := g_wStart hG
      refine ⟨rfl, ⟨hG, (show -2147483648 ≤ (4) ∧ (4) ≤ 2147483647 ∧ -2147483648 ≤ (st 149 5) ∧ (st 149 5) ≤ 2147483647 from by omega)⟩, ?_⟩
      have g10 := g_tsize hG
      exact hQ _ _ ⟨(gInv_up (gInv_up hG (p_rFault (by omega))) (p_rFaultAt (by omega))), (fr_f (fr_f (fr_rf _ _) rfl) rfl), (show (a ≤ ((-1) : Int) ∧ ((-1) : Int) ≤ b ∧ tk (ctx st) (st 1 1) (st 149 5) 2 ((-1) : Int) (st 149 5) ∧ RDc (zup (zup st 148 3 (4)) 148 4 (st 149 5))) ∨ (((-1) : Int) = -1 ∧ ¬ ∃ v e : Int, tk (ctx st) (st 1 1) (st 149 5) 2 v e ∧ a ≤ v ∧ v ≤ b) from Or.inr ⟨rfl, num_no rd ow (fun z => by omega)⟩)⟩
    · refine ⟨fun h11 => ?_, fun h11 => ?_⟩
      · refine ⟨rfl, ⟨hG, (show RDc st from rd), (show 1 ≤ st 149 3 ∧ st 149 3 ≤ 4 from by omega)⟩, fun s4 q4 => ?_⟩
        obtain ⟨gs4, fs4, rd4, nx4⟩ := q4
        change RDc s4 at rd4
        change NX st s4 at nx4
        have g12 := g_tsize hG
        have g13 := g_wStart hG
        have g14 := g_wStart gs4
        exact hQ _ _ ⟨gs4, (fr_tr (fr_rf _ _) fs4 rfl), (show (a ≤ (st 149 4) ∧ (st 149 4) ≤ b ∧ tk (ctx st) (st 1 1) (st 149 5) 2 (st 149 4) (s4 149 5) ∧ RDc s4) ∨ ((st 149 4) = -1 ∧ ¬ ∃ v e : Int, tk (ctx st) (st 1 1) (st 149 5) 2 v e ∧ a ≤ v ∧ v ≤ b) from Or.inl ⟨by omega, by omega, nx_num rd ow nx4 (by omega), rd4⟩)⟩
      · have g15 := g_wStart hG
        refine ⟨rfl, ⟨hG, (show -2147483648 ≤ (4) ∧ (4) ≤ 2147483647 ∧ -2147483648 ≤ (st 149 5) ∧ (st 149 5) ≤ 2147483647 from by omega)⟩, ?_⟩
        have g16 := g_tsize hG
        exact hQ _ _ ⟨(gInv_up (gInv_up hG (p_rFault (by omega))) (p_rFaultAt (by omega))), (fr_f (fr_f (fr_rf _ _) rfl) rfl), (show (a ≤ ((-1) : Int) ∧ ((-1) : Int) ≤ b ∧ tk (ctx st) (st 1 1) (st 149 5) 2 ((-1) : Int) (st 149 5) ∧ RDc (zup (zup st 148 3 (4)) 148 4 (st 149 5))) ∨ (((-1) : Int) = -1 ∧ ¬ ∃ v e : Int, tk (ctx st) (st 1 1) (st 149 5) 2 v e ∧ a ≤ v ∧ v ≤ b) from Or.inr ⟨rfl, num_no rd ow (fun z => by omega)⟩)⟩
  · have g17 := g_wSpot hG
    refine ⟨rfl, hG, ?_⟩
    have g18 := g_tsize hG
    have g19 := g_wStart hG
    exact hQ _ _ ⟨(gInv_up (gInv_up hG (p_rFault (by omega))) (p_rFaultAt (by omega))), (fr_f (fr_f (fr_rf _ _) rfl) rfl), (show (a ≤ ((-1) : Int) ∧ ((-1) : Int) ≤ b ∧ tk (ctx st) (st 1 1) (st 149 5) 2 ((-1) : Int) (st 149 5) ∧ RDc (zup (zup st 148 3 1) 148 4 (st 149 6))) ∨ (((-1) : Int) = -1 ∧ ¬ ∃ v e : Int, tk (ctx st) (st 1 1) (st 149 5) 2 v e ∧ a ≤ v ∧ v ≤ b) from Or.inr ⟨rfl, num_no rd ow (fun z => by omega)⟩)⟩
theorem k_cNumber_m (hTb : aTb zSh rx_tb cl) {D : Nat} (hD : 4 ≤ D) : ∀ as st (Q Q' : zQ), (∀ r st', Q r st' → Q' r st') → k_cNumber 249 as st Q → cl D 249 as st Q' := by
  intro as st Q Q' hQ h
  unfold k_cNumber at h
  split at h
  · obtain ⟨rfl, h⟩ := h
    exact c_cNumber hTb hD (ct_cNumber_m hQ h)
  · exact h.elim
end R9p
