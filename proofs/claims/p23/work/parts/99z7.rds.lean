/-! printed by wip/pw/r/q7.py: what reads does -/
def RDD (t : Int → Int) (n : Int) (cv : Prop) (k gd gq : Int) (gc : List Int) (p : Int) : Prop := (k = 0 ∧ (gd = 1 ∧ Gr t n cv 0 0 p gq gc ∧ (∃ kk v e : Int, tk t n gq kk v e) ∨ gd = 0 ∧ Fl t n cv 0 0 p)) ∨ (k = 1 ∧ (gd = 1 ∧ Gr t n cv 5 0 p gq gc ∧ (∃ kk v e : Int, tk t n gq kk v e) ∨ gd = 0 ∧ Fl t n cv 5 0 p))
def m_rRds : aM := ([(170, 3), (170, 4), (170, 5), (170, 6), (170, 7), (170, 8), (170, 9), (170, 12), (170, 34), (170, 42), (170, 43), (170, 45), (170, 46)], [188, 189, 192, 193, 194, 195, 196, 197])
def rq_rRds (t : Int → Int) (n gd gq : Int) (gc c0 : List Int) (k : Int) (st : zS) : Prop := gInv zgt st ∧ (RDr st t n) ∧ (st 170 8 = 0 ∧ st 170 34 + 1 ≤ st 170 4) ∧ (CDr (st 170 35) (st 170 34) (st 188) (st 189) (c0)) ∧ (RDD t n ((st 170 36 : Int) = 1) k gd gq gc (st 170 4))
def en_rRds (t : Int → Int) (n gd gq : Int) (gc c0 : List Int) (k : Int) (st : zS) (s1 : zS) : Prop := gInv zgt s1 ∧ aFr m_rRds st s1 ∧ Z9 st s1 ∧ ((gd = 1 ∧ s1 170 8 = 0 ∧ s1 170 4 = gq ∧ RDr s1 t n ∧ CDr (s1 170 35) (s1 170 34) (s1 188) (s1 189) (c0 ++ gc)) ∨ (0 < s1 170 8 ∧ (gd = 0 ∨ ∃ v e : Int, tk t n gq 5 v e)))
def ct_rRds (t : Int → Int) (n gd gq : Int) (gc c0 : List Int) (k : Int) (st : zS) (Q : zQ) : Prop := rq_rRds t n gd gq gc c0 k st ∧ (∀ (s1 : zS), en_rRds t n gd gq gc c0 k st s1 → Q none s1)
theorem ct_rRds_m {t : Int → Int} {n gd gq : Int} {gc c0 : List Int} {k : Int} {st : zS} {Q Q' : zQ} (hQ : ∀ r st', Q r st' → Q' r st') (h : ct_rRds t n gd gq gc c0 k st Q) : ct_rRds t n gd gq gc c0 k st Q' := ⟨h.1, fun x0 x1 => hQ _ _ (h.2 x0 x1)⟩
def k_rRds (t : Int → Int) (n gd gq : Int) (gc c0 : List Int) : zCall := fun _ as st Q => match as with
  | [.inr (.inr (.inl z_o)), .inl k] => z_o = 170 ∧ ct_rRds t n gd gq gc c0 k st Q
  | _ => False
section Rz7
variable {cl : Nat → zCall}
set_option maxHeartbeats 40000000 in
set_option maxRecDepth 100000 in
theorem c_rRds (hTb : aTb zSh rx_tb cl) {t : Int → Int} {n gd gq : Int} {gc c0 : List Int} {D : Nat} (hD : 5 ≤ D) {k : Int} {st : zS} {Q : zQ} (h : ct_rRds t n gd gq gc c0 k st Q) : cl D 198 [.inr (.inr (.inl 170)), .inl k] st Q := by
  obtain ⟨d, rfl⟩ : ∃ d, D = d + 1 := ⟨D - 1, by omega⟩
  refine hTb d 198 (rx_m198, 3, 0, 0, 0) rfl _ _ _ (Nat.le_of_ble_eq_true rfl) (fun K hcl hsf hsl => ?_)
  have hcm : zmo (wcL [(193, k_pushes)]) (cl d) := (wcL_m (wm_cons (k_pushes_m hTb (by omega)) wm_nil))
  obtain ⟨hR, hQ⟩ := h
  obtain ⟨hG, rd, q, cd, dv⟩ := hR
  change RDr st t n at rd
  change st 170 8 = 0 ∧ st 170 34 + 1 ≤ st 170 4 at q
  change CDr (st 170 35) (st 170 34) (st 188) (st 189) (c0) at cd
  change RDD t n ((st 170 36 : Int) = 1) k gd gq gc (st 170 4) at dv
  have g1 := g_faultKind hG
  have g2 := g_codes hG
  have g3 := g_signAt hG
  have g4 := g_in hG
  have g5 := g_isClever hG
  have hk := kr_all (x := k) (st0 := st) (t := t) (n := n) (Q := Q) (cv := st 170 36 = 1) hTb (show 4 ≤ d from by omega) hcl Iff.rfl
  have kd0 : k = 0 → KHr K k st t n [(0, 0, 1, st 195 (0 : Int).toNat, [])] 0 0 c0 (st 170 4) := by
    intro hv
    have z := dv
    unfold RDD at z
    rcases z with ⟨z0, z⟩ | ⟨z0, z⟩
    · rcases z with ⟨z1, z2, z3⟩ | ⟨z1, z2⟩
      · exact drv_S hk z2 z3 ⟨fun s g a yy y1 y2 y3 y4 => hQ s ⟨g, a, yy, Or.inl ⟨z1, y1, y2, y3, y4⟩⟩, fun y5 s g a yy y => hQ s ⟨g, a, yy, Or.inr ⟨y, Or.inr y5⟩⟩⟩
      · exact drv_FS hk z2 (fun s g a yy y => hQ s ⟨g, a, yy, Or.inr ⟨y, Or.inl z1⟩⟩)
    · exact absurd (hv.symm.trans z0) (by decide)
  have kd1 : k = 1 → KHr K k st t n [(1, 0, 1, st 195 (0 : Int).toNat, [])] 0 0 c0 (st 170 4) := by
    intro hv
    have z := dv
    unfold RDD at z
    rcases z with ⟨z0, z⟩ | ⟨z0, z⟩
    · exact absurd (hv.symm.trans z0) (by decide)
    · rcases z with ⟨z1, z2, z3⟩ | ⟨z1, z2⟩
      · exact drv_T hk z2 z3 ⟨fun s g a yy y1 y2 y3 y4 => hQ s ⟨g, a, yy, Or.inl ⟨z1, y1, y2, y3, y4⟩⟩, fun y5 s g a yy y => hQ s ⟨g, a, yy, Or.inr ⟨y, Or.inr y5⟩⟩⟩
      · exact drv_FT hk z2 (fun s g a yy y => hQ s ⟨g, a, yy, Or.inr ⟨y, Or.inl z1⟩⟩)
  have k01 : k = 0 ∨ k = 1 := by
    have z := dv
    unfold RDD at z
    rcases z with ⟨z, -⟩ | ⟨z, -⟩
    · exact Or.inl z
    · exact Or.inr z
  have g6 := g_deep hG
  have g7 := g_open hG
  have g8 := g_opMany hG
  have g9 := g_operand hG
  refine yr1_ok (Rt := Q) (wc := (wcL [(193, k_pushes)])) (stp := [43]) hcm hcl [] 69 ?_
  show ((st 170 8 ≤ (0 : Int) → ((0 = (0 : Int) ∨ 0 = (1 : Int)) ∧ ((k = (0 : Int) → (170 = 170 ∧ (rq_pushes (0) (zup (zup (zup (zup st 170 42 0) 170 43 0) 170 45 0) 170 46 0) ∧ (K (rx_find rx_m198 43) [(2, .inl 1), (0, .inr (.inr (.inl 170))), (1, .inl k)] [] (zup (zup (zup (zup (zup (zup (zup (zup (zup st 170 42 0) 170 43 0) 170 45 0) 170 46 0) 192 (0 : Int).toNat (0)) 193 (0 : Int).toNat 0) 194 (0 : Int).toNat 1) 196 (0 : Int).toNat 0) 170 42 (0 + 1)))))) ∧ (¬ (k = (0 : Int)) → (170 = 170 ∧ (rq_pushes (1) (zup (zup (zup (zup st 170 42 0) 170 43 0) 170 45 0) 170 46 0) ∧ (K (rx_find rx_m198 43) [(2, .inl 1), (0, .inr (.inr (.inl 170))), (1, .inl k)] [] (zup (zup (zup (zup (zup (zup (zup (zup (zup st 170 42 0) 170 43 0) 170 45 0) 170 46 0) 192 (0 : Int).toNat (1)) 193 (0 : Int).toNat 0) 194 (0 : Int).toNat 1) 196 (0 : Int).toNat 0) 170 42 (0 + 1))))))))) ∧ (¬ (st 170 8 ≤ (0 : Int)) → Q none st))
  refine ⟨fun h12 => ?_, fun h12 => ?_⟩
  · refine ⟨by omega, ?_⟩
    refine ⟨fun h13 => ?_, fun h13 => ?_⟩
    · refine ⟨rfl, ⟨(gInv_up (gInv_up (gInv_up (gInv_up hG (p_deep (by omega))) (p_open (by omega))) (p_opMany (by omega))) (p_operand (by omega))), (show 0 ≤ 0 ∧ 0 ≤ 19 from by omega)⟩, ?_⟩
      refine kd0 (by omega) ((zup (zup (zup (zup (zup (zup (zup (zup (zup st 170 42 0) 170 43 0) 170 45 0) 170 46 0) 192 (0 : Int).toNat (0)) 193 (0 : Int).toNat 0) 194 (0 : Int).toNat 1) 196 (0 : Int).toNat 0) 170 42 (0 + 1))) ((gInv_up (gInv_up (gInv_up (gInv_up (gInv_up (gInv_up (gInv_up (gInv_up (gInv_up hG (p_deep (by omega))) (p_open (by omega))) (p_opMany (by omega))) (p_operand (by omega))) (p_frame (by omega))) (p_phase (by omega))) (p_begins (by omega))) (p_base (by omega))) (p_deep (by omega)))) ((fr_f (fr_a (fr_a (fr_a (fr_a (fr_f (fr_f (fr_f (fr_f (fr_rf _ _) rfl) rfl) rfl) rfl) rfl) rfl) rfl) rfl) rfl)) ((Z9_up (Z9_up (Z9_up (Z9_up (Z9_up (Z9_up (Z9_up (Z9_up (Z9_up (Z9_rf _) (by decide)) (by decide)) (by decide)) (by decide)) (by decide)) (by decide)) (by decide)) (by decide)) (by decide))) ?_
      refine ⟨(show st 170 8 = 0 from by omega), rfl, rfl, rfl, (show RDr ((zup (zup (zup (zup (zup (zup (zup (zup (zup st 170 42 0) 170 43 0) 170 45 0) 170 46 0) 192 (0 : Int).toNat (0)) 193 (0 : Int).toNat 0) 194 (0 : Int).toNat 1) 196 (0 : Int).toNat 0) 170 42 (0 + 1))) t n from rd), ⟨?_, WB_c (by rw [List.length_nil]; omega) (fun x hx => by cases hx) (fun f hf => by cases hf), (show CDr (st 170 35) (st 170 34) (st 188) (st 189) c0 from cd)⟩, (show st 170 34 + 0 + (0 + 1) ≤ st 170 4 from by omega), by omega, by omega, by rw [List.length_cons, List.length_nil]; omega⟩
      show FR (up1 (st 192) (0 : Int).toNat 0) (up1 (st 193) (0 : Int).toNat 0) (up1 (st 194) (0 : Int).toNat 1) (st 195) (up1 (st 196) (0 : Int).toNat 0) (st 197) [(0, 0, 1, st 195 (0 : Int).toNat, [])] (0 + 1) 0
      exact FR_push 0 (by omega) (by omega) ⟨rfl, rfl⟩
    · refine ⟨rfl, ⟨(gInv_up (gInv_up (gInv_up (gInv_up hG (p_deep (by omega))) (p_open (by omega))) (p_opMany (by omega))) (p_operand (by omega))), (show 0 ≤ 0 ∧ 0 ≤ 19 from by omega)⟩, ?_⟩
      refine kd1 (by omega) ((zup (zup (zup (zup (zup (zup (zup (zup (zup st 170 42 0) 170 43 0) 170 45 0) 170 46 0) 192 (0 : Int).toNat (1)) 193 (0 : Int).toNat 0) 194 (0 : Int).toNat 1) 196 (0 : Int).toNat 0) 170 42 (0 + 1))) ((gInv_up (gInv_up (gInv_up (gInv_up (gInv_up (gInv_up (gInv_up (gInv_up (gInv_up hG (p_deep (by omega))) (p_open (by omega))) (p_opMany (by omega))) (p_operand (by omega))) (p_frame (by omega))) (p_phase (by omega))) (p_begins (by omega))) (p_base (by omega))) (p_deep (by omega)))) ((fr_f (fr_a (fr_a (fr_a (fr_a (fr_f (fr_f (fr_f (fr_f (fr_rf _ _) rfl) rfl) rfl) rfl) rfl) rfl) rfl) rfl) rfl)) ((Z9_up (Z9_up (Z9_up (Z9_up (Z9_up (Z9_up (Z9_up (Z9_up (Z9_up (Z9_rf _) (by decide)) (by decide)) (by decide)) (by decide)) (by decide)) (by decide)) (by decide)) (by decide)) (by decide))) ?_
      refine ⟨(show st 170 8 = 0 from by omega), rfl, rfl, rfl, (show RDr ((zup (zup (zup (zup (zup (zup (zup (zup (zup st 170 42 0) 170 43 0) 170 45 0) 170 46 0) 192 (0 : Int).toNat (1)) 193 (0 : Int).toNat 0) 194 (0 : Int).toNat 1) 196 (0 : Int).toNat 0) 170 42 (0 + 1))) t n from rd), ⟨?_, WB_c (by rw [List.length_nil]; omega) (fun x hx => by cases hx) (fun f hf => by cases hf), (show CDr (st 170 35) (st 170 34) (st 188) (st 189) c0 from cd)⟩, (show st 170 34 + 0 + (0 + 1) ≤ st 170 4 from by omega), by omega, by omega, by rw [List.length_cons, List.length_nil]; omega⟩
      show FR (up1 (st 192) (0 : Int).toNat 1) (up1 (st 193) (0 : Int).toNat 0) (up1 (st 194) (0 : Int).toNat 1) (st 195) (up1 (st 196) (0 : Int).toNat 0) (st 197) [(1, 0, 1, st 195 (0 : Int).toNat, [])] (0 + 1) 0
      exact FR_push 1 (by omega) (by omega) ⟨rfl, rfl⟩
  · exact hQ _ ⟨hG, (fr_rf _ _), (Z9_rf _), (show (gd = 1 ∧ st 170 8 = 0 ∧ st 170 4 = gq ∧ RDr st t n ∧ CDr (st 170 35) (st 170 34) (st 188) (st 189) (c0 ++ gc)) ∨ (0 < st 170 8 ∧ (gd = 0 ∨ ∃ v e : Int, tk t n gq 5 v e)) from by omega)⟩
theorem k_rRds_m (hTb : aTb zSh rx_tb cl) {t : Int → Int} {n gd gq : Int} {gc c0 : List Int} {D : Nat} (hD : 5 ≤ D) : ∀ as st (Q Q' : zQ), (∀ r st', Q r st' → Q' r st') → (k_rRds t n gd gq gc c0) 198 as st Q → cl D 198 as st Q' := by
  intro as st Q Q' hQ h
  unfold k_rRds at h
  split at h
  · obtain ⟨rfl, h⟩ := h
    exact c_rRds hTb hD (ct_rRds_m hQ h)
  · exact h.elim
end Rz7
