/-! printed by wip/p4/py/c6.py: the town cleared; a statement, town 122 -/
def m_cFillA : aM := ([], [127])
def rq_cFillA (v : Int) (st : zS) : Prop := gInv zgt st ∧ (-1 ≤ v ∧ v ≤ 13)
def en_cFillA (v : Int) (st : zS) (s1 : zS) : Prop := gInv zgt s1 ∧ aFr m_cFillA st s1 ∧ (∀ j : Int, 0 ≤ j → j < 64 → s1 127 j.toNat = v)
def ct_cFillA (v : Int) (st : zS) (Q : zQ) : Prop := rq_cFillA v st ∧ (∀ (s1 : zS), en_cFillA v st s1 → Q none s1)
theorem ct_cFillA_m {v : Int} {st : zS} {Q Q' : zQ} (hQ : ∀ r st', Q r st' → Q' r st') (h : ct_cFillA v st Q) : ct_cFillA v st Q' := ⟨h.1, fun x0 x1 => hQ _ _ (h.2 x0 x1)⟩
def k_cFillA : zCall := fun _ as st Q => match as with
  | [.inr (.inr (.inl z_0)), .inl v] => z_0 = 127 ∧ ct_cFillA v st Q
  | _ => False
def m_cCutToA : aM := ([(131, 2)], [])
def rq_cCutToA (n : Int) (st : zS) : Prop := gInv zgt st ∧ (n = 0)
def en_cCutToA (n : Int) (st : zS) (s1 : zS) : Prop := gInv zgt s1 ∧ aFr m_cCutToA st s1 ∧ (s1 131 2 = 0)
def ct_cCutToA (n : Int) (st : zS) (Q : zQ) : Prop := rq_cCutToA n st ∧ (∀ (s1 : zS), en_cCutToA n st s1 → Q none s1)
theorem ct_cCutToA_m {n : Int} {st : zS} {Q Q' : zQ} (hQ : ∀ r st', Q r st' → Q' r st') (h : ct_cCutToA n st Q) : ct_cCutToA n st Q' := ⟨h.1, fun x0 x1 => hQ _ _ (h.2 x0 x1)⟩
def k_cCutToA : zCall := fun _ as st Q => match as with
  | [.inr (.inr (.inl z_o)), .inl n] => z_o = 131 ∧ ct_cCutToA n st Q
  | _ => False
def m_cClearA : aM := ([(122, 0), (122, 1), (122, 3), (122, 8), (122, 13), (122, 14), (122, 16), (122, 17), (122, 18), (131, 2)], [127])
def rq_cClearA  (st : zS) : Prop := gInv zgt st
def en_cClearA  (st : zS) (s1 : zS) : Prop := gInv zgt s1 ∧ aFr m_cClearA st s1 ∧ (Clr (tn 122 s1))
def ct_cClearA  (st : zS) (Q : zQ) : Prop := rq_cClearA  st ∧ (∀ (s1 : zS), en_cClearA  st s1 → Q none s1)
theorem ct_cClearA_m {st : zS} {Q Q' : zQ} (hQ : ∀ r st', Q r st' → Q' r st') (h : ct_cClearA  st Q) : ct_cClearA  st Q' := ⟨h.1, fun x0 x1 => hQ _ _ (h.2 x0 x1)⟩
def k_cClearA : zCall := fun _ as st Q => match as with
  | [.inr (.inr (.inl z_o))] => z_o = 122 ∧ ct_cClearA  st Q
  | _ => False
def m_cStatementA : aM := ([(122, 1), (122, 3), (122, 8), (122, 13), (122, 14), (122, 16), (122, 17), (122, 18), (131, 2), (148, 2), (148, 3), (148, 4), (149, 2), (149, 3), (149, 4), (149, 5), (149, 6)], [123, 124, 125, 126, 127, 128, 129, 130, 132, 133, 134])
def rq_cStatementA  (st : zS) : Prop := gInv zgt st ∧ (RDc st) ∧ (cOW st) ∧ (st 148 1 = 122) ∧ (TIv (tn 122 st)) ∧ (st 122 16 ≤ st 149 5)
def en_cStatementA  (st : zS) (r : Int) (s1 : zS) : Prop := gInv zgt s1 ∧ aFr m_cStatementA st s1 ∧ ((r = 1 ∧ (∃ (i : Nat) (e : Int), i < 26 ∧ tk (ctx st) (st 1 1) (st 149 5) 1 (owv i) e ∧ sB (ctx st) (st 1 1) (tn 122 st) e (tn 122 s1) (s1 149 5) i) ∧ RDc s1) ∨ (r = 0 ∧ ((¬ ∃ (i : Nat) (e : Int), i < 26 ∧ tk (ctx st) (st 1 1) (st 149 5) 1 (owv i) e) ∨ ∃ (i : Nat) (e : Int), i < 26 ∧ tk (ctx st) (st 1 1) (st 149 5) 1 (owv i) e ∧ sF (ctx st) (st 1 1) (tn 122 st) e i)))
def ct_cStatementA  (st : zS) (Q : zQ) : Prop := rq_cStatementA  st ∧ (∀ (r : Int) (s1 : zS), en_cStatementA  st r s1 → Q (some (.inl r)) s1)
theorem ct_cStatementA_m {st : zS} {Q Q' : zQ} (hQ : ∀ r st', Q r st' → Q' r st') (h : ct_cStatementA  st Q) : ct_cStatementA  st Q' := ⟨h.1, fun x0 x1 x2 => hQ _ _ (h.2 x0 x1 x2)⟩
def k_cStatementA : zCall := fun _ as st Q => match as with
  | [.inr (.inr (.inl z_o))] => z_o = 148 ∧ ct_cStatementA  st Q
  | _ => False
section R9w
variable {cl : Nat → zCall}
set_option maxHeartbeats 4000000 in
set_option maxRecDepth 100000 in
theorem c_cFillA (hTb : aTb zSh rx_tb cl) {D : Nat} (hD : 1 ≤ D) {v : Int} {st : zS} {Q : zQ} (h : ct_cFillA v st Q) : cl D 23 [.inr (.inr (.inl 127)), .inl v] st Q := by
  obtain ⟨d, rfl⟩ : ∃ d, D = d + 1 := ⟨D - 1, by omega⟩
  refine hTb d 23 (rx_m23, 4, 0, 0, 0) rfl _ _ _ (Nat.le_of_ble_eq_true rfl) (fun K hcl hsf hsl => ?_)
  have hcm : zmo (zno) (cl d) := zno_m
  obtain ⟨hR, hQ⟩ := h
  obtain ⟨hG, hr1⟩ := hR
  change -1 ≤ v ∧ v ≤ 13 at hr1
  have lp : ∀ (u : Nat) (i : Int) (s_lp : zS), gInv zgt s_lp ∧ aFr m_cFillA st s_lp ∧ (0 ≤ i ∧ i ≤ 64) ∧ (∀ j : Int, 0 ≤ j → j < i → s_lp 127 j.toNat = v) → (64 - i).toNat = u → K (rx_find rx_m23 5) [(3, .inl 64), (2, .inl i), (0, .inr (.inr (.inl 127))), (1, .inl v)] [] s_lp := by
    intro u
    induction u using Nat.strongRecOn with
    | _ u ih =>
      intro i s_lp hi hu
      obtain ⟨gI_lp, fI_lp, i_lp, z_lp⟩ := hi
      refine yr1_ok (Rt := Q) (wc := (zno)) (stp := [5]) hcm hcl [] 35 ?_
      show (((64 : Int) ≤ i → Q none s_lp) ∧ (¬ ((64 : Int) ≤ i) → ((0 ≤ i ∧ i < 64) ∧ ((-2147483648 ≤ i + 1 ∧ i + 1 ≤ 2147483647) ∧ K (rx_find rx_m23 5) [(2, .inl (i + 1)), (3, .inl 64), (0, .inr (.inr (.inl 127))), (1, .inl v)] [] (zup s_lp 127 (i : Int).toNat v)))))
      refine ⟨fun h1 => ?_, fun h1 => ?_⟩
      · exact hQ _ ⟨gI_lp, fI_lp, (show ∀ j : Int, 0 ≤ j → j < 64 → s_lp 127 j.toNat = v from fun j z1 z2 => z_lp j z1 (by omega))⟩
      · refine ⟨by omega, ?_⟩
        refine ⟨by omega, ?_⟩
        exact hsl _ _ _ _ _ (sb_cons (.tail _ (.head _)) (sb_cons (.head _) (sb_cons (.tail _ (.tail _ (.head _))) (sb_cons (.tail _ (.tail _ (.tail _ (.head _)))) sb_nil)))) (ih _ (show (64 - (i + 1) : Int).toNat < u from by omega) (i + 1) (zup s_lp 127 (i : Int).toNat v) ⟨(gInv_up gI_lp (p_a127 (by omega))), (fr_a fI_lp rfl), (show 0 ≤ (i + 1) ∧ (i + 1) ≤ 64 from by omega), (show ∀ j : Int, 0 ≤ j → j < (i + 1) → (zup s_lp 127 (i : Int).toNat v) 127 j.toNat = v from fun j z1 z2 => by
          show up1 (s_lp 127) (i : Int).toNat v j.toNat = v
          by_cases z3 : j = i
          · rw [z3, up1_e]
          · rw [up1_n _ _ (by omega)]; exact z_lp j z1 (by omega))⟩ rfl)
  refine yr1_ok (Rt := Q) (wc := (zno)) (stp := [5]) hcm hcl [] 35 ?_
  show K (rx_find rx_m23 5) [(3, .inl 64), (2, .inl 0), (0, .inr (.inr (.inl 127))), (1, .inl v)] [] st
  exact lp _ 0 st ⟨hG, (fr_rf _ _), (show 0 ≤ (0 : Int) ∧ (0 : Int) ≤ 64 from by omega), (show ∀ j : Int, 0 ≤ j → j < (0 : Int) → st 127 j.toNat = v from fun j z1 z2 => by omega)⟩ rfl
theorem k_cFillA_m (hTb : aTb zSh rx_tb cl) {D : Nat} (hD : 1 ≤ D) : ∀ as st (Q Q' : zQ), (∀ r st', Q r st' → Q' r st') → k_cFillA 23 as st Q → cl D 23 as st Q' := by
  intro as st Q Q' hQ h
  unfold k_cFillA at h
  split at h
  · obtain ⟨rfl, h⟩ := h
    exact c_cFillA hTb hD (ct_cFillA_m hQ h)
  · exact h.elim
set_option maxHeartbeats 4000000 in
set_option maxRecDepth 100000 in
theorem c_cCutToA (hTb : aTb zSh rx_tb cl) {D : Nat} (hD : 1 ≤ D) {n : Int} {st : zS} {Q : zQ} (h : ct_cCutToA n st Q) : cl D 70 [.inr (.inr (.inl 131)), .inl n] st Q := by
  obtain ⟨d, rfl⟩ : ∃ d, D = d + 1 := ⟨D - 1, by omega⟩
  refine hTb d 70 (rx_m70, 2, 0, 0, 0) rfl _ _ _ (Nat.le_of_ble_eq_true rfl) (fun K hcl hsf hsl => ?_)
  have hcm : zmo (zno) (cl d) := zno_m
  obtain ⟨hR, hQ⟩ := h
  obtain ⟨hG, q⟩ := hR
  change n = 0 at q
  have g1 := g_f131_2 hG
  refine yr1_ok (Rt := Q) (wc := (zno)) (stp := []) hcm hcl [] 30 ?_
  show ((n < (0 : Int) → Q none st) ∧ (¬ (n < (0 : Int)) → ((st 131 2 ≤ n → Q none st) ∧ (¬ (st 131 2 ≤ n) → Q none (zup st 131 2 n)))))
  refine ⟨fun h2 => ?_, fun h2 => ?_⟩
  · exact hQ _ ⟨hG, (fr_rf _ _), (show st 131 2 = 0 from by omega)⟩
  · refine ⟨fun h3 => ?_, fun h3 => ?_⟩
    · exact hQ _ ⟨hG, (fr_rf _ _), (show st 131 2 = 0 from by omega)⟩
    · exact hQ _ ⟨(gInv_up hG (p_f131_2 (by omega))), (fr_f (fr_rf _ _) rfl), (show n = 0 from by omega)⟩
theorem k_cCutToA_m (hTb : aTb zSh rx_tb cl) {D : Nat} (hD : 1 ≤ D) : ∀ as st (Q Q' : zQ), (∀ r st', Q r st' → Q' r st') → k_cCutToA 70 as st Q → cl D 70 as st Q' := by
  intro as st Q Q' hQ h
  unfold k_cCutToA at h
  split at h
  · obtain ⟨rfl, h⟩ := h
    exact c_cCutToA hTb hD (ct_cCutToA_m hQ h)
  · exact h.elim
set_option maxHeartbeats 4000000 in
set_option maxRecDepth 100000 in
theorem c_cClearA (hTb : aTb zSh rx_tb cl) {D : Nat} (hD : 2 ≤ D) {st : zS} {Q : zQ} (h : ct_cClearA  st Q) : cl D 69 [.inr (.inr (.inl 122))] st Q := by
  obtain ⟨d, rfl⟩ : ∃ d, D = d + 1 := ⟨D - 1, by omega⟩
  refine hTb d 69 (rx_m69, 1, 0, 0, 0) rfl _ _ _ (Nat.le_of_ble_eq_true rfl) (fun K hcl hsf hsl => ?_)
  have hcm : zmo (wcL [(23, k_cFillA), (70, k_cCutToA)]) (cl d) := (wcL_m (wm_cons (k_cFillA_m hTb (by omega)) (wm_cons (k_cCutToA_m hTb (by omega)) wm_nil)))
  obtain ⟨hR, hQ⟩ := h
  have hG := hR
  refine yr1_ok (Rt := Q) (wc := (wcL [(23, k_cFillA), (70, k_cCutToA)])) (stp := []) hcm hcl [] 56 ?_
  show ((127) = 127 ∧ (rq_cFillA (-1) (zup (zup (zup (zup st 122 0 0) 122 1 0) 122 3 0) 122 8 0) ∧ (∀ (s1 : zS), en_cFillA (-1) (zup (zup (zup (zup st 122 0 0) 122 1 0) 122 3 0) 122 8 0) s1 → (131 = 131 ∧ (rq_cCutToA (0) s1 ∧ (∀ (s2 : zS), en_cCutToA (0) s1 s2 → Q none (zup (zup (zup (zup (zup s2 122 13 20) 122 14 0) 122 16 0) 122 17 (-1)) 122 18 (-1))))))))
  refine ⟨rfl, ⟨(gInv_up (gInv_up (gInv_up (gInv_up hG (p_f122_0 (by omega))) (p_f122_1 (by omega))) (p_f122_3 (by omega))) (p_f122_8 (by omega))), (show -1 ≤ (-1) ∧ (-1) ≤ 13 from by omega)⟩, fun s1 q1 => ?_⟩
  obtain ⟨gs1, fs1, z1⟩ := q1
  change ∀ j : Int, 0 ≤ j → j < 64 → s1 127 j.toNat = (-1) at z1
  refine ⟨rfl, ⟨gs1, (show (0) = 0 from by omega)⟩, fun s2 q2 => ?_⟩
  obtain ⟨gs2, fs2, t2⟩ := q2
  change s2 131 2 = 0 at t2
  have g3 := g_f131_2 gs2
  exact hQ _ ⟨(gInv_up (gInv_up (gInv_up (gInv_up (gInv_up gs2 (p_f122_13 (by omega))) (p_f122_14 (by omega))) (p_f122_16 (by omega))) (p_f122_17 (by omega))) (p_f122_18 (by omega))), (fr_f (fr_f (fr_f (fr_f (fr_f (fr_tr (fr_tr (fr_f (fr_f (fr_f (fr_f (fr_rf _ _) rfl) rfl) rfl) rfl) fs1 rfl) fs2 rfl) rfl) rfl) rfl) rfl) rfl), (show Clr (tn 122 (zup (zup (zup (zup (zup s2 122 13 20) 122 14 0) 122 16 0) 122 17 (-1)) 122 18 (-1))) from ⟨(fs2 122 0 rfl rfl).trans (fs1 122 0 rfl rfl), (fs2 122 1 rfl rfl).trans (fs1 122 1 rfl rfl), (fs2 122 3 rfl rfl).trans (fs1 122 3 rfl rfl), (fs2 122 8 rfl rfl).trans (fs1 122 8 rfl rfl), t2, rfl, rfl, rfl, rfl, rfl, fun j y1 y2 => (fs2 127 _ rfl rfl).trans (z1 j y1 y2)⟩)⟩
theorem k_cClearA_m (hTb : aTb zSh rx_tb cl) {D : Nat} (hD : 2 ≤ D) : ∀ as st (Q Q' : zQ), (∀ r st', Q r st' → Q' r st') → k_cClearA 69 as st Q → cl D 69 as st Q' := by
  intro as st Q Q' hQ h
  unfold k_cClearA at h
  split at h
  · obtain ⟨rfl, h⟩ := h
    exact c_cClearA hTb hD (ct_cClearA_m hQ h)
  · exact h.elim
set_option maxHeartbeats 4000000 in
set_option maxRecDepth 100000 in
theorem c_cStatementA (hTb : aTb zSh rx_tb cl) {D : Nat} (hD : 125 ≤ D) {st : zS} {Q : zQ} (h : ct_cStatementA  st Q) : cl D 237 [.inr (.inr (.inl 148))] st Q := by
  obtain ⟨d, rfl⟩ : ∃ d, D = d + 1 := ⟨D - 1, by omega⟩
  refine hTb d 237 (rx_m237, 1, 0, 0, 2) rfl _ _ _ (Nat.le_of_ble_eq_true rfl) (fun K hcl hsf hsl => ?_)
  have hcm : zmo (wcL [(236, k_cUnfit), (238, k_cAnother), (239, k_cPlaceBA), (240, k_cStreetBA), (241, k_cStepBA), (242, k_cThingBA), (245, k_cHeatBA), (246, k_cHotBA), (243, k_cBeginA), (253, k_cSumA 100), (259, k_cTestA 100), (244, k_cEndCodeA), (278, k_cHasStandsA), (18, k_cHasCleverA)]) (cl d) := (wcL_m (wm_cons (k_cUnfit_m hTb (by omega)) (wm_cons (k_cAnother_m hTb (by omega)) (wm_cons (k_cPlaceBA_m hTb (by omega)) (wm_cons (k_cStreetBA_m hTb (by omega)) (wm_cons (k_cStepBA_m hTb (by omega)) (wm_cons (k_cThingBA_m hTb (by omega)) (wm_cons (k_cHeatBA_m hTb (by omega)) (wm_cons (k_cHotBA_m hTb (by omega)) (wm_cons (k_cBeginA_m hTb (by omega)) (wm_cons (k_cSumA_a hTb 100 (by omega)) (wm_cons (k_cTestA_a hTb 100 (by omega)) (wm_cons (k_cEndCodeA_m hTb (by omega)) (wm_cons (k_cHasStandsA_m hTb (by omega)) (wm_cons (k_cHasCleverA_m hTb (by omega)) wm_nil)))))))))))))))
  obtain ⟨hR, hQ⟩ := h
  obtain ⟨hG, rd, ow, tw, ti, cb⟩ := hR
  change RDc st at rd
  change cOW st at ow
  change st 148 1 = 122 at tw
  change TIv (tn 122 st) at ti
  change st 122 16 ≤ st 149 5 at cb
  have rb := rd.1
  have g1 := g_f148_1 hG
  have g2 := g_f122_16 hG
  have g3 := g_wStart hG
  have g4 := g_wKind hG
  have g5 := g_wValue hG
  have g6 := g_tsize hG
  refine dr1_ok (Rt := Q) (wc := (wcL [(236, k_cUnfit), (238, k_cAnother), (239, k_cPlaceBA), (240, k_cStreetBA), (241, k_cStepBA), (242, k_cThingBA), (245, k_cHeatBA), (246, k_cHotBA), (243, k_cBeginA), (253, k_cSumA 100), (259, k_cTestA 100), (244, k_cEndCodeA), (278, k_cHasStandsA), (18, k_cHasCleverA)])) (stp := []) hcm hcl [(90, 122), (127, 122), (164, 122), (204, 122), (241, 122), (292, 122)] [] 180 ?_
  show ((st 149 3 = (2 : Int) → ((st 149 4 < 0 → (148 = 148 ∧ (rq_cUnfit  st ∧ (((0 = (0 : Int) ∨ 0 = (1 : Int)) ∧ Q (some (.inl 0)) (zup (zup st 148 3 1) 148 4 (st 149 6))))))) ∧ (12 < st 149 4 → (148 = 148 ∧ (rq_cUnfit  st ∧ (((0 = (0 : Int) ∨ 0 = (1 : Int)) ∧ Q (some (.inl 0)) (zup (zup st 148 3 1) 148 4 (st 149 6))))))) ∧ (st 149 4 = 0 → ((st 148 1 = (122 : Int)) ∧ (((8 : Int) ≤ st 122 1 → (148 = 148 ∧ (rq_cAnother (0) st ∧ (∀ (r8 : Int) (s8 : zS), en_cAnother (0) st r8 s8 → ((r8 = (0 : Int) → ((0 = (0 : Int) ∨ 0 = (1 : Int)) ∧ Q (some (.inl 0)) s8)) ∧ (¬ (r8 = (0 : Int)) → (148 = 148 ∧ (rq_cPlaceBA  s8 ∧ (∀ (r9 : Int) (s9 : zS), en_cPlaceBA  s8 r9 s9 → ((r9 = (0 : Int) → ((0 = (0 : Int) ∨ 0 = (1 : Int)) ∧ Q (some (.inl 0)) s9)) ∧ (¬ (r9 = (0 : Int)) → ((1 = (0 : Int) ∨ 1 = (1 : Int)) ∧ Q (some (.inl 1)) s9)))))))))))) ∧ (¬ ((8 : Int) ≤ st 122 1) → (148 = 148 ∧ (rq_cAnother (1) st ∧ (∀ (r10 : Int) (s10 : zS), en_cAnother (1) st r10 s10 → ((r10 = (0 : Int) → ((0 = (0 : Int) ∨ 0 = (1 : Int)) ∧ Q (some (.inl 0)) s10)) ∧ (¬ (r10 = (0 : Int)) → (148 = 148 ∧ (rq_cPlaceBA  s10 ∧ (∀ (r11 : Int) (s11 : zS), en_cPlaceBA  s10 r11 s11 → ((r11 = (0 : Int) → ((0 = (0 : Int) ∨ 0 = (1 : Int)) ∧ Q (some (.inl 0)) s11)) ∧ (¬ (r11 = (0 : Int)) → ((1 = (0 : Int) ∨ 1 = (1 : Int)) ∧ Q (some (.inl 1)) s11))))))))))))))) ∧ (st 149 4 = 1 → ((st 148 1 = (122 : Int)) ∧ (((14 : Int) ≤ st 122 3 → (148 = 148 ∧ (rq_cAnother (0) st ∧ (∀ (r12 : Int) (s12 : zS), en_cAnother (0) st r12 s12 → ((r12 = (0 : Int) → ((0 = (0 : Int) ∨ 0 = (1 : Int)) ∧ Q (some (.inl 0)) s12)) ∧ (¬ (r12 = (0 : Int)) → (148 = 148 ∧ (rq_cStreetBA  s12 ∧ (∀ (r13 : Int) (s13 : zS), en_cStreetBA  s12 r13 s13 → ((r13 = (0 : Int) → ((0 = (0 : Int) ∨ 0 = (1 : Int)) ∧ Q (some (.inl 0)) s13)) ∧ (¬ (r13 = (0 : Int)) → ((1 = (0 : Int) ∨ 1 = (1 : Int)) ∧ Q (some (.inl 1)) s13)))))))))))) ∧ (¬ ((14 : Int) ≤ st 122 3) → (148 = 148 ∧ (rq_cAnother (1) st ∧ (∀ (r14 : Int) (s14 : zS), en_cAnother (1) st r14 s14 → ((r14 = (0 : Int) → ((0 = (0 : Int) ∨ 0 = (1 : Int)) ∧ Q (some (.inl 0)) s14)) ∧ (¬ (r14 = (0 : Int)) → (148 = 148 ∧ (rq_cStreetBA  s14 ∧ (∀ (r15 : Int) (s15 : zS), en_cStreetBA  s14 r15 s15 → ((r15 = (0 : Int) → ((0 = (0 : Int) ∨ 0 = (1 : Int)) ∧ Q (some (.inl 0)) s15)) ∧ (¬ (r15 = (0 : Int)) → ((1 = (0 : Int) ∨ 1 = (1 : Int)) ∧ Q (some (.inl 1)) s15))))))))))))))) ∧ (st 149 4 = 2 → (148 = 148 ∧ (rq_cUnfit  st ∧ (((0 = (0 : Int) ∨ 0 = (1 : Int)) ∧ Q (some (.inl 0)) (zup (zup st 148 3 1) 148 4 (st 149 6))))))) ∧ (st 149 4 = 3 → (148 = 148 ∧ (rq_cUnfit  st ∧ (((0 = (0 : Int) ∨ 0 = (1 : Int)) ∧ Q (some (.inl 0)) (zup (zup st 148 3 1) 148 4 (st 149 6))))))) ∧ (st 149 4 = 4 → ((st 148 1 = (122 : Int)) ∧ (((20 : Int) ≤ st 131 2 → (148 = 148 ∧ (rq_cAnother (0) st ∧ (∀ (r18 : Int) (s18 : zS), en_cAnother (0) st r18 s18 → ((r18 = (0 : Int) → ((0 = (0 : Int) ∨ 0 = (1 : Int)) ∧ Q (some (.inl 0)) s18)) ∧ (¬ (r18 = (0 : Int)) → (148 = 148 ∧ (rq_cStepBA  s18 ∧ (∀ (r19 : Int) (s19 : zS), en_cStepBA  s18 r19 s19 → ((r19 = (0 : Int) → ((0 = (0 : Int) ∨ 0 = (1 : Int)) ∧ Q (some (.inl 0)) s19)) ∧ (¬ (r19 = (0 : Int)) → ((1 = (0 : Int) ∨ 1 = (1 : Int)) ∧ Q (some (.inl 1)) s19)))))))))))) ∧ (¬ ((20 : Int) ≤ st 131 2) → (148 = 148 ∧ (rq_cAnother (1) st ∧ (∀ (r20 : Int) (s20 : zS), en_cAnother (1) st r20 s20 → ((r20 = (0 : Int) → ((0 = (0 : Int) ∨ 0 = (1 : Int)) ∧ Q (some (.inl 0)) s20)) ∧ (¬ (r20 = (0 : Int)) → (148 = 148 ∧ (rq_cStepBA  s20 ∧ (∀ (r21 : Int) (s21 : zS), en_cStepBA  s20 r21 s21 → ((r21 = (0 : Int) → ((0 = (0 : Int) ∨ 0 = (1 : Int)) ∧ Q (some (.inl 0)) s21)) ∧ (¬ (r21 = (0 : Int)) → ((1 = (0 : Int) ∨ 1 = (1 : Int)) ∧ Q (some (.inl 1)) s21))))))))))))))) ∧ (st 149 4 = 5 → (148 = 148 ∧ (rq_cUnfit  st ∧ (((0 = (0 : Int) ∨ 0 = (1 : Int)) ∧ Q (some (.inl 0)) (zup (zup st 148 3 1) 148 4 (st 149 6))))))) ∧ (st 149 4 = 6 → ((st 148 1 = (122 : Int)) ∧ (((8 : Int) ≤ st 122 8 → (148 = 148 ∧ (rq_cAnother (0) st ∧ (∀ (r23 : Int) (s23 : zS), en_cAnother (0) st r23 s23 → ((r23 = (0 : Int) → ((0 = (0 : Int) ∨ 0 = (1 : Int)) ∧ Q (some (.inl 0)) s23)) ∧ (¬ (r23 = (0 : Int)) → (148 = 148 ∧ (rq_cThingBA  s23 ∧ (∀ (r24 : Int) (s24 : zS), en_cThingBA  s23 r24 s24 → ((r24 = (0 : Int) → ((0 = (0 : Int) ∨ 0 = (1 : Int)) ∧ Q (some (.inl 0)) s24)) ∧ (¬ (r24 = (0 : Int)) → ((1 = (0 : Int) ∨ 1 = (1 : Int)) ∧ Q (some (.inl 1)) s24)))))))))))) ∧ (¬ ((8 : Int) ≤ st 122 8) → (148 = 148 ∧ (rq_cAnother (1) st ∧ (∀ (r25 : Int) (s25 : zS), en_cAnother (1) st r25 s25 → ((r25 = (0 : Int) → ((0 = (0 : Int) ∨ 0 = (1 : Int)) ∧ Q (some (.inl 0)) s25)) ∧ (¬ (r25 = (0 : Int)) → (148 = 148 ∧ (rq_cThingBA  s25 ∧ (∀ (r26 : Int) (s26 : zS), en_cThingBA  s25 r26 s26 → ((r26 = (0 : Int) → ((0 = (0 : Int) ∨ 0 = (1 : Int)) ∧ Q (some (.inl 0)) s26)) ∧ (¬ (r26 = (0 : Int)) → ((1 = (0 : Int) ∨ 1 = (1 : Int)) ∧ Q (some (.inl 1)) s26))))))))))))))) ∧ (st 149 4 = 7 → (148 = 148 ∧ (rq_cUnfit  st ∧ (((0 = (0 : Int) ∨ 0 = (1 : Int)) ∧ Q (some (.inl 0)) (zup (zup st 148 3 1) 148 4 (st 149 6))))))) ∧ (st 149 4 = 8 → (148 = 148 ∧ (rq_cUnfit  st ∧ (((0 = (0 : Int) ∨ 0 = (1 : Int)) ∧ Q (some (.inl 0)) (zup (zup st 148 3 1) 148 4 (st 149 6))))))) ∧ (st 149 4 = 9 → ((st 148 1 = (122 : Int)) ∧ (122 = 122 ∧ (∀ (r29 : Int), en_cHasStandsA  st r29 → ((¬ r29 = (0 : Int) → (148 = 148 ∧ (rq_cAnother (0) st ∧ (∀ (r30 : Int) (s30 : zS), en_cAnother (0) st r30 s30 → ((r30 = (0 : Int) → ((0 = (0 : Int) ∨ 0 = (1 : Int)) ∧ Q (some (.inl 0)) s30)) ∧ (¬ (r30 = (0 : Int)) → (148 = 148 ∧ (rq_cBeginA (0) s30 ∧ (∀ (r31 : Int) (s31 : zS), en_cBeginA (0) s30 r31 s31 → ((r31 = (0 : Int) → ((0 = (0 : Int) ∨ 0 = (1 : Int)) ∧ Q (some (.inl 0)) s31)) ∧ (¬ (r31 = (0 : Int)) → (148 = 148 ∧ (rq_cSumA 100 (0) s31 ∧ (∀ (r32 : Int) (s32 : zS), en_cSumA 100 (0) s31 r32 s32 → ((r32 = (0 : Int) → ((0 = (0 : Int) ∨ 0 = (1 : Int)) ∧ Q (some (.inl 0)) s32)) ∧ (¬ (r32 = (0 : Int)) → (148 = 148 ∧ (rq_cEndCodeA  s32 ∧ (∀ (r33 : Int) (s33 : zS), en_cEndCodeA  s32 r33 s33 → ((r33 = (0 : Int) → ((0 = (0 : Int) ∨ 0 = (1 : Int)) ∧ Q (some (.inl 0)) s33)) ∧ (¬ (r33 = (0 : Int)) → ((1 = (0 : Int) ∨ 1 = (1 : Int)) ∧ Q (some (.inl 1)) s33)))))))))))))))))))))) ∧ (¬ (¬ r29 = (0 : Int)) → (148 = 148 ∧ (rq_cAnother (1) st ∧ (∀ (r34 : Int) (s34 : zS), en_cAnother (1) st r34 s34 → ((r34 = (0 : Int) → ((0 = (0 : Int) ∨ 0 = (1 : Int)) ∧ Q (some (.inl 0)) s34)) ∧ (¬ (r34 = (0 : Int)) → (148 = 148 ∧ (rq_cBeginA (0) s34 ∧ (∀ (r35 : Int) (s35 : zS), en_cBeginA (0) s34 r35 s35 → ((r35 = (0 : Int) → ((0 = (0 : Int) ∨ 0 = (1 : Int)) ∧ Q (some (.inl 0)) s35)) ∧ (¬ (r35 = (0 : Int)) → (148 = 148 ∧ (rq_cSumA 100 (0) s35 ∧ (∀ (r36 : Int) (s36 : zS), en_cSumA 100 (0) s35 r36 s36 → ((r36 = (0 : Int) → ((0 = (0 : Int) ∨ 0 = (1 : Int)) ∧ Q (some (.inl 0)) s36)) ∧ (¬ (r36 = (0 : Int)) → (148 = 148 ∧ (rq_cEndCodeA  s36 ∧ (∀ (r37 : Int) (s37 : zS), en_cEndCodeA  s36 r37 s37 → ((r37 = (0 : Int) → ((0 = (0 : Int) ∨ 0 = (1 : Int)) ∧ Q (some (.inl 0)) s37)) ∧ (¬ (r37 = (0 : Int)) → ((1 = (0 : Int) ∨ 1 = (1 : Int)) ∧ Q (some (.inl 1)) s37))))))))))))))))))))))))))) ∧ (st 149 4 = 10 → ((st 148 1 = (122 : Int)) ∧ (122 = 122 ∧ (∀ (r38 : Int), en_cHasCleverA  st r38 → ((¬ r38 = (0 : Int) → (148 = 148 ∧ (rq_cAnother (0) st ∧ (∀ (r39 : Int) (s39 : zS), en_cAnother (0) st r39 s39 → ((r39 = (0 : Int) → ((0 = (0 : Int) ∨ 0 = (1 : Int)) ∧ Q (some (.inl 0)) s39)) ∧ (¬ (r39 = (0 : Int)) → (148 = 148 ∧ (rq_cBeginA (1) s39 ∧ (∀ (r40 : Int) (s40 : zS), en_cBeginA (1) s39 r40 s40 → ((r40 = (0 : Int) → ((0 = (0 : Int) ∨ 0 = (1 : Int)) ∧ Q (some (.inl 0)) s40)) ∧ (¬ (r40 = (0 : Int)) → (148 = 148 ∧ (rq_cTestA 100 (0) s40 ∧ (∀ (r41 : Int) (s41 : zS), en_cTestA 100 (0) s40 r41 s41 → ((r41 = (0 : Int) → ((0 = (0 : Int) ∨ 0 = (1 : Int)) ∧ Q (some (.inl 0)) s41)) ∧ (¬ (r41 = (0 : Int)) → (148 = 148 ∧ (rq_cEndCodeA  s41 ∧ (∀ (r42 : Int) (s42 : zS), en_cEndCodeA  s41 r42 s42 → ((r42 = (0 : Int) → ((0 = (0 : Int) ∨ 0 = (1 : Int)) ∧ Q (some (.inl 0)) s42)) ∧ (¬ (r42 = (0 : Int)) → ((1 = (0 : Int) ∨ 1 = (1 : Int)) ∧ Q (some (.inl 1)) s42)))))))))))))))))))))) ∧ (¬ (¬ r38 = (0 : Int)) → (148 = 148 ∧ (rq_cAnother (1) st ∧ (∀ (r43 : Int) (s43 : zS), en_cAnother (1) st r43 s43 → ((r43 = (0 : Int) → ((0 = (0 : Int) ∨ 0 = (1 : Int)) ∧ Q (some (.inl 0)) s43)) ∧ (¬ (r43 = (0 : Int)) → (148 = 148 ∧ (rq_cBeginA (1) s43 ∧ (∀ (r44 : Int) (s44 : zS), en_cBeginA (1) s43 r44 s44 → ((r44 = (0 : Int) → ((0 = (0 : Int) ∨ 0 = (1 : Int)) ∧ Q (some (.inl 0)) s44)) ∧ (¬ (r44 = (0 : Int)) → (148 = 148 ∧ (rq_cTestA 100 (0) s44 ∧ (∀ (r45 : Int) (s45 : zS), en_cTestA 100 (0) s44 r45 s45 → ((r45 = (0 : Int) → ((0 = (0 : Int) ∨ 0 = (1 : Int)) ∧ Q (some (.inl 0)) s45)) ∧ (¬ (r45 = (0 : Int)) → (148 = 148 ∧ (rq_cEndCodeA  s45 ∧ (∀ (r46 : Int) (s46 : zS), en_cEndCodeA  s45 r46 s46 → ((r46 = (0 : Int) → ((0 = (0 : Int) ∨ 0 = (1 : Int)) ∧ Q (some (.inl 0)) s46)) ∧ (¬ (r46 = (0 : Int)) → ((1 = (0 : Int) ∨ 1 = (1 : Int)) ∧ Q (some (.inl 1)) s46))))))))))))))))))))))))))) ∧ (st 149 4 = 11 → (148 = 148 ∧ (rq_cAnother (1) st ∧ (∀ (r47 : Int) (s47 : zS), en_cAnother (1) st r47 s47 → ((r47 = (0 : Int) → ((0 = (0 : Int) ∨ 0 = (1 : Int)) ∧ Q (some (.inl 0)) s47)) ∧ (¬ (r47 = (0 : Int)) → (148 = 148 ∧ (rq_cHeatBA  s47 ∧ (∀ (r48 : Int) (s48 : zS), en_cHeatBA  s47 r48 s48 → ((r48 = (0 : Int) → ((0 = (0 : Int) ∨ 0 = (1 : Int)) ∧ Q (some (.inl 0)) s48)) ∧ (¬ (r48 = (0 : Int)) → ((1 = (0 : Int) ∨ 1 = (1 : Int)) ∧ Q (some (.inl 1)) s48)))))))))))) ∧ (st 149 4 = 12 → (148 = 148 ∧ (rq_cAnother (1) st ∧ (∀ (r49 : Int) (s49 : zS), en_cAnother (1) st r49 s49 → ((r49 = (0 : Int) → ((0 = (0 : Int) ∨ 0 = (1 : Int)) ∧ Q (some (.inl 0)) s49)) ∧ (¬ (r49 = (0 : Int)) → (148 = 148 ∧ (rq_cHotBA  s49 ∧ (∀ (r50 : Int) (s50 : zS), en_cHotBA  s49 r50 s50 → ((r50 = (0 : Int) → ((0 = (0 : Int) ∨ 0 = (1 : Int)) ∧ Q (some (.inl 0)) s50)) ∧ (¬ (r50 = (0 : Int)) → ((1 = (0 : Int) ∨ 1 = (1 : Int)) ∧ Q (some (.inl 1)) s50)))))))))))) ∧ True)) ∧ (¬ (st 149 3 = (2 : Int)) → (148 = 148 ∧ (rq_cUnfit  st ∧ (((0 = (0 : Int) ∨ 0 = (1 : Int)) ∧ Q (some (.inl 0)) (zup (zup st 148 3 1) 148 4 (st 149 6))))))))
  refine ⟨fun h52 => ?_, fun h52 => ?_⟩
  · refine ⟨fun h53 => ?_, fun h53 => ?_, fun h53 => ?_, fun h53 => ?_, fun h53 => ?_, fun h53 => ?_, fun h53 => ?_, fun h53 => ?_, fun h53 => ?_, fun h53 => ?_, fun h53 => ?_, fun h53 => ?_, fun h53 => ?_, fun h53 => ?_, fun h53 => ?_, True.intro⟩
    · have g54 := g_wSpot hG
      refine ⟨rfl, hG, ?_⟩
      refine ⟨by omega, ?_⟩
      exact hQ _ _ ⟨(gInv_up (gInv_up hG (p_rFault (by omega))) (p_rFaultAt (by omega))), (fr_f (fr_f (fr_rf _ _) rfl) rfl), (show ((0 : Int) = 1 ∧ (∃ (i : Nat) (e : Int), i < 26 ∧ tk (ctx st) (st 1 1) (st 149 5) 1 (owv i) e ∧ sB (ctx st) (st 1 1) (tn 122 st) e (tn 122 (zup (zup st 148 3 1) 148 4 (st 149 6))) (st 149 5) i) ∧ RDc (zup (zup st 148 3 1) 148 4 (st 149 6))) ∨ ((0 : Int) = 0 ∧ ((¬ ∃ (i : Nat) (e : Int), i < 26 ∧ tk (ctx st) (st 1 1) (st 149 5) 1 (owv i) e) ∨ ∃ (i : Nat) (e : Int), i < 26 ∧ tk (ctx st) (st 1 1) (st 149 5) 1 (owv i) e ∧ sF (ctx st) (st 1 1) (tn 122 st) e i)) from (by
            obtain ⟨hv, e, he⟩ := own_tk rd ow (by omega)
            exact Or.inr ⟨rfl, Or.inr ⟨(st 149 4).toNat, e, by omega, he, sF_o (by omega)⟩⟩))⟩
    · have g55 := g_wSpot hG
      refine ⟨rfl, hG, ?_⟩
      refine ⟨by omega, ?_⟩
      exact hQ _ _ ⟨(gInv_up (gInv_up hG (p_rFault (by omega))) (p_rFaultAt (by omega))), (fr_f (fr_f (fr_rf _ _) rfl) rfl), (show ((0 : Int) = 1 ∧ (∃ (i : Nat) (e : Int), i < 26 ∧ tk (ctx st) (st 1 1) (st 149 5) 1 (owv i) e ∧ sB (ctx st) (st 1 1) (tn 122 st) e (tn 122 (zup (zup st 148 3 1) 148 4 (st 149 6))) (st 149 5) i) ∧ RDc (zup (zup st 148 3 1) 148 4 (st 149 6))) ∨ ((0 : Int) = 0 ∧ ((¬ ∃ (i : Nat) (e : Int), i < 26 ∧ tk (ctx st) (st 1 1) (st 149 5) 1 (owv i) e) ∨ ∃ (i : Nat) (e : Int), i < 26 ∧ tk (ctx st) (st 1 1) (st 149 5) 1 (owv i) e ∧ sF (ctx st) (st 1 1) (tn 122 st) e i)) from (by
            obtain ⟨hv, e, he⟩ := own_tk rd ow (by omega)
            exact Or.inr ⟨rfl, Or.inr ⟨(st 149 4).toNat, e, by omega, he, sF_o (by omega)⟩⟩))⟩
    · refine ⟨by omega, ?_⟩
      have g56 := g_f122_1 hG
      refine ⟨fun h57 => ?_, fun h57 => ?_⟩
      · refine ⟨rfl, ⟨hG, (show RDc st from rd), (show ((0) = 0 ∨ (0) = 1) ∧ 1 ≤ st 149 3 ∧ st 149 3 ≤ 4 from by omega)⟩, fun r8 s8 q8 => ?_⟩
        obtain ⟨gs8, fs8, o8⟩ := q8
        change (r8 = 1 ∧ (0) = 1 ∧ RDc s8 ∧ NX st s8) ∨ (r8 = 0 ∧ (0) = 0) at o8
        rcases o8 with ⟨y8, k8, rd8, nx8⟩ | ⟨y8, k8⟩
        · refine ⟨fun h58 => (by exfalso; omega), fun h58 => ?_⟩
          have e59 : s8 148 1 = st 148 1 := fs8 148 1 rfl rfl
          have e60 : s8 122 1 = st 122 1 := fs8 122 1 rfl rfl
          refine ⟨rfl, ⟨gs8, (show RDc s8 from rd8), (show cOW s8 from (fun i hi => ((show aFr m_cStatementA st s8 from (fr_tr (fr_rf _ _) fs8 rfl)) 150 i rfl rfl).trans (ow i hi))), (show s8 148 1 = 122 from by omega), (show s8 122 1 < 8 from by omega)⟩, fun r9 s9 q9 => ?_⟩
          obtain ⟨gs9, fs9, o9⟩ := q9
          change (r9 = 1 ∧ bPl (ctx s8) (s8 1 1) (tn 122 s8) (s8 149 5) (tn 122 s9) (s9 149 5) ∧ RDc s9) ∨ (r9 = 0 ∧ ¬ ∃ (T' : zS) (q : Int), bPl (ctx s8) (s8 1 1) (tn 122 s8) (s8 149 5) T' q) at o9
          have e61 : s8 1 1 = st 1 1 := fs8 1 1 rfl rfl
          have g62 := g_wStart gs8
          have g63 := g_wStart gs9
          rcases o9 with ⟨y9, b9, rd9⟩ | ⟨y9, l9⟩
          · refine ⟨fun h64 => (by exfalso; omega), fun h64 => ?_⟩
            refine ⟨by omega, ?_⟩
            exact hQ _ _ ⟨gs9, (fr_tr (fr_tr (fr_rf _ _) fs8 rfl) fs9 rfl), (show ((1 : Int) = 1 ∧ (∃ (i : Nat) (e : Int), i < 26 ∧ tk (ctx st) (st 1 1) (st 149 5) 1 (owv i) e ∧ sB (ctx st) (st 1 1) (tn 122 st) e (tn 122 s9) (s9 149 5) i) ∧ RDc s9) ∨ ((1 : Int) = 0 ∧ ((¬ ∃ (i : Nat) (e : Int), i < 26 ∧ tk (ctx st) (st 1 1) (st 149 5) 1 (owv i) e) ∨ ∃ (i : Nat) (e : Int), i < 26 ∧ tk (ctx st) (st 1 1) (st 149 5) 1 (owv i) e ∧ sF (ctx st) (st 1 1) (tn 122 st) e i)) from (by
            have hT : ctx s8 = ctx st ∧ s8 1 1 = st 1 1 := ⟨by unfold ctx; funext j; rw [fs8 2 _ rfl rfl], fs8 1 1 rfl rfl⟩
            have hn : tn 122 s8 = tn 122 st := tn_fr (x := 122) rfl fs8
            have z : bPl (ctx s8) (s8 1 1) (tn 122 s8) (s8 149 5) (tn 122 s9) (s9 149 5) := b9
            rw [hT.1, hT.2, hn] at z
            exact Or.inl ⟨rfl, ⟨0, s8 149 5, by omega, (nx_ow 0 rd ow nx8 (by omega) (by omega) rfl), z⟩, rd9⟩))⟩
          · refine ⟨fun h65 => ?_, fun h65 => (by exfalso; omega)⟩
            refine ⟨by omega, ?_⟩
            exact hQ _ _ ⟨gs9, (fr_tr (fr_tr (fr_rf _ _) fs8 rfl) fs9 rfl), (show ((0 : Int) = 1 ∧ (∃ (i : Nat) (e : Int), i < 26 ∧ tk (ctx st) (st 1 1) (st 149 5) 1 (owv i) e ∧ sB (ctx st) (st 1 1) (tn 122 st) e (tn 122 s9) (s9 149 5) i) ∧ RDc s9) ∨ ((0 : Int) = 0 ∧ ((¬ ∃ (i : Nat) (e : Int), i < 26 ∧ tk (ctx st) (st 1 1) (st 149 5) 1 (owv i) e) ∨ ∃ (i : Nat) (e : Int), i < 26 ∧ tk (ctx st) (st 1 1) (st 149 5) 1 (owv i) e ∧ sF (ctx st) (st 1 1) (tn 122 st) e i)) from (by
            have hT : ctx s8 = ctx st ∧ s8 1 1 = st 1 1 := ⟨by unfold ctx; funext j; rw [fs8 2 _ rfl rfl], fs8 1 1 rfl rfl⟩
            have hn : tn 122 s8 = tn 122 st := tn_fr (x := 122) rfl fs8
            have z : ¬ ∃ (T' : zS) (q : Int), bPl (ctx s8) (s8 1 1) (tn 122 s8) (s8 149 5) T' q := l9
            rw [hT.1, hT.2, hn] at z
            exact Or.inr ⟨rfl, Or.inr ⟨0, s8 149 5, by omega, (nx_ow 0 rd ow nx8 (by omega) (by omega) rfl), z⟩⟩))⟩
        · refine ⟨fun h66 => ?_, fun h66 => (by exfalso; omega)⟩
          refine ⟨by omega, ?_⟩
          have g67 := g_wStart gs8
          exact hQ _ _ ⟨gs8, (fr_tr (fr_rf _ _) fs8 rfl), (show ((0 : Int) = 1 ∧ (∃ (i : Nat) (e : Int), i < 26 ∧ tk (ctx st) (st 1 1) (st 149 5) 1 (owv i) e ∧ sB (ctx st) (st 1 1) (tn 122 st) e (tn 122 s8) (s8 149 5) i) ∧ RDc s8) ∨ ((0 : Int) = 0 ∧ ((¬ ∃ (i : Nat) (e : Int), i < 26 ∧ tk (ctx st) (st 1 1) (st 149 5) 1 (owv i) e) ∨ ∃ (i : Nat) (e : Int), i < 26 ∧ tk (ctx st) (st 1 1) (st 149 5) 1 (owv i) e ∧ sF (ctx st) (st 1 1) (tn 122 st) e i)) from (by
            obtain ⟨hv, e, he⟩ := own_tk rd ow (by omega)
            rw [show (st 149 4).toNat = 0 by omega] at he
            exact Or.inr ⟨rfl, Or.inr ⟨0, e, by omega, he, fun hx => by
              obtain ⟨T', q, hb⟩ := hx
              have hb : bPl (ctx st) (st 1 1) (tn 122 st) e T' q := hb
              have hz : st 122 1 < 8 := hb.1
              omega⟩⟩))⟩
      · refine ⟨rfl, ⟨hG, (show RDc st from rd), (show ((1) = 0 ∨ (1) = 1) ∧ 1 ≤ st 149 3 ∧ st 149 3 ≤ 4 from by omega)⟩, fun r10 s10 q10 => ?_⟩
        obtain ⟨gs10, fs10, o10⟩ := q10
        change (r10 = 1 ∧ (1) = 1 ∧ RDc s10 ∧ NX st s10) ∨ (r10 = 0 ∧ (1) = 0) at o10
        rcases o10 with ⟨y10, k10, rd10, nx10⟩ | ⟨y10, k10⟩
        · refine ⟨fun h68 => (by exfalso; omega), fun h68 => ?_⟩
          have e69 : s10 148 1 = st 148 1 := fs10 148 1 rfl rfl
          have e70 : s10 122 1 = st 122 1 := fs10 122 1 rfl rfl
          refine ⟨rfl, ⟨gs10, (show RDc s10 from rd10), (show cOW s10 from (fun i hi => ((show aFr m_cStatementA st s10 from (fr_tr (fr_rf _ _) fs10 rfl)) 150 i rfl rfl).trans (ow i hi))), (show s10 148 1 = 122 from by omega), (show s10 122 1 < 8 from by omega)⟩, fun r11 s11 q11 => ?_⟩
          obtain ⟨gs11, fs11, o11⟩ := q11
          change (r11 = 1 ∧ bPl (ctx s10) (s10 1 1) (tn 122 s10) (s10 149 5) (tn 122 s11) (s11 149 5) ∧ RDc s11) ∨ (r11 = 0 ∧ ¬ ∃ (T' : zS) (q : Int), bPl (ctx s10) (s10 1 1) (tn 122 s10) (s10 149 5) T' q) at o11
          have e71 : s10 1 1 = st 1 1 := fs10 1 1 rfl rfl
          have g72 := g_wStart gs10
          have g73 := g_wStart gs11
          rcases o11 with ⟨y11, b11, rd11⟩ | ⟨y11, l11⟩
          · refine ⟨fun h74 => (by exfalso; omega), fun h74 => ?_⟩
            refine ⟨by omega, ?_⟩
            exact hQ _ _ ⟨gs11, (fr_tr (fr_tr (fr_rf _ _) fs10 rfl) fs11 rfl), (show ((1 : Int) = 1 ∧ (∃ (i : Nat) (e : Int), i < 26 ∧ tk (ctx st) (st 1 1) (st 149 5) 1 (owv i) e ∧ sB (ctx st) (st 1 1) (tn 122 st) e (tn 122 s11) (s11 149 5) i) ∧ RDc s11) ∨ ((1 : Int) = 0 ∧ ((¬ ∃ (i : Nat) (e : Int), i < 26 ∧ tk (ctx st) (st 1 1) (st 149 5) 1 (owv i) e) ∨ ∃ (i : Nat) (e : Int), i < 26 ∧ tk (ctx st) (st 1 1) (st 149 5) 1 (owv i) e ∧ sF (ctx st) (st 1 1) (tn 122 st) e i)) from (by
            have hT : ctx s10 = ctx st ∧ s10 1 1 = st 1 1 := ⟨by unfold ctx; funext j; rw [fs10 2 _ rfl rfl], fs10 1 1 rfl rfl⟩
            have hn : tn 122 s10 = tn 122 st := tn_fr (x := 122) rfl fs10
            have z : bPl (ctx s10) (s10 1 1) (tn 122 s10) (s10 149 5) (tn 122 s11) (s11 149 5) := b11
            rw [hT.1, hT.2, hn] at z
            exact Or.inl ⟨rfl, ⟨0, s10 149 5, by omega, (nx_ow 0 rd ow nx10 (by omega) (by omega) rfl), z⟩, rd11⟩))⟩
          · refine ⟨fun h75 => ?_, fun h75 => (by exfalso; omega)⟩
            refine ⟨by omega, ?_⟩
            exact hQ _ _ ⟨gs11, (fr_tr (fr_tr (fr_rf _ _) fs10 rfl) fs11 rfl), (show ((0 : Int) = 1 ∧ (∃ (i : Nat) (e : Int), i < 26 ∧ tk (ctx st) (st 1 1) (st 149 5) 1 (owv i) e ∧ sB (ctx st) (st 1 1) (tn 122 st) e (tn 122 s11) (s11 149 5) i) ∧ RDc s11) ∨ ((0 : Int) = 0 ∧ ((¬ ∃ (i : Nat) (e : Int), i < 26 ∧ tk (ctx st) (st 1 1) (st 149 5) 1 (owv i) e) ∨ ∃ (i : Nat) (e : Int), i < 26 ∧ tk (ctx st) (st 1 1) (st 149 5) 1 (owv i) e ∧ sF (ctx st) (st 1 1) (tn 122 st) e i)) from (by
            have hT : ctx s10 = ctx st ∧ s10 1 1 = st 1 1 := ⟨by unfold ctx; funext j; rw [fs10 2 _ rfl rfl], fs10 1 1 rfl rfl⟩
            have hn : tn 122 s10 = tn 122 st := tn_fr (x := 122) rfl fs10
            have z : ¬ ∃ (T' : zS) (q : Int), bPl (ctx s10) (s10 1 1) (tn 122 s10) (s10 149 5) T' q := l11
            rw [hT.1, hT.2, hn] at z
            exact Or.inr ⟨rfl, Or.inr ⟨0, s10 149 5, by omega, (nx_ow 0 rd ow nx10 (by omega) (by omega) rfl), z⟩⟩))⟩
        · refine ⟨fun h76 => ?_, fun h76 => (by exfalso; omega)⟩
          refine ⟨by omega, ?_⟩
          have g77 := g_wStart gs10
          exact hQ _ _ ⟨gs10, (fr_tr (fr_rf _ _) fs10 rfl), (show ((0 : Int) = 1 ∧ (∃ (i : Nat) (e : Int), i < 26 ∧ tk (ctx st) (st 1 1) (st 149 5) 1 (owv i) e ∧ sB (ctx st) (st 1 1) (tn 122 st) e (tn 122 s10) (s10 149 5) i) ∧ RDc s10) ∨ ((0 : Int) = 0 ∧ ((¬ ∃ (i : Nat) (e : Int), i < 26 ∧ tk (ctx st) (st 1 1) (st 149 5) 1 (owv i) e) ∨ ∃ (i : Nat) (e : Int), i < 26 ∧ tk (ctx st) (st 1 1) (st 149 5) 1 (owv i) e ∧ sF (ctx st) (st 1 1) (tn 122 st) e i)) from (by
            obtain ⟨hv, e, he⟩ := own_tk rd ow (by omega)
            rw [show (st 149 4).toNat = 0 by omega] at he
            exact Or.inr ⟨rfl, Or.inr ⟨0, e, by omega, he, fun hx => by
              obtain ⟨T', q, hb⟩ := hx
              have hb : bPl (ctx st) (st 1 1) (tn 122 st) e T' q := hb
              have hz : st 122 1 < 8 := hb.1
              omega⟩⟩))⟩
    · refine ⟨by omega, ?_⟩
      have g78 := g_f122_3 hG
      refine ⟨fun h79 => ?_, fun h79 => ?_⟩
      · refine ⟨rfl, ⟨hG, (show RDc st from rd), (show ((0) = 0 ∨ (0) = 1) ∧ 1 ≤ st 149 3 ∧ st 149 3 ≤ 4 from by omega)⟩, fun r12 s12 q12 => ?_⟩
        obtain ⟨gs12, fs12, o12⟩ := q12
        change (r12 = 1 ∧ (0) = 1 ∧ RDc s12 ∧ NX st s12) ∨ (r12 = 0 ∧ (0) = 0) at o12
        rcases o12 with ⟨y12, k12, rd12, nx12⟩ | ⟨y12, k12⟩
        · refine ⟨fun h80 => (by exfalso; omega), fun h80 => ?_⟩
          have e81 : s12 148 1 = st 148 1 := fs12 148 1 rfl rfl
          have e82 : s12 122 3 = st 122 3 := fs12 122 3 rfl rfl
          refine ⟨rfl, ⟨gs12, (show RDc s12 from rd12), (show cOW s12 from (fun i hi => ((show aFr m_cStatementA st s12 from (fr_tr (fr_rf _ _) fs12 rfl)) 150 i rfl rfl).trans (ow i hi))), (show s12 148 1 = 122 from by omega), (show s12 122 3 < 14 from by omega)⟩, fun r13 s13 q13 => ?_⟩
          obtain ⟨gs13, fs13, o13⟩ := q13
          change (r13 = 1 ∧ bSt (ctx s12) (s12 1 1) (tn 122 s12) (s12 149 5) (tn 122 s13) (s13 149 5) ∧ RDc s13) ∨ (r13 = 0 ∧ ¬ ∃ (T' : zS) (q : Int), bSt (ctx s12) (s12 1 1) (tn 122 s12) (s12 149 5) T' q) at o13
          have e83 : s12 1 1 = st 1 1 := fs12 1 1 rfl rfl
          have g84 := g_wStart gs12
          have g85 := g_wStart gs13
          rcases o13 with ⟨y13, b13, rd13⟩ | ⟨y13, l13⟩
          · refine ⟨fun h86 => (by exfalso; omega), fun h86 => ?_⟩
            refine ⟨by omega, ?_⟩
            exact hQ _ _ ⟨gs13, (fr_tr (fr_tr (fr_rf _ _) fs12 rfl) fs13 rfl), (show ((1 : Int) = 1 ∧ (∃ (i : Nat) (e : Int), i < 26 ∧ tk (ctx st) (st 1 1) (st 149 5) 1 (owv i) e ∧ sB (ctx st) (st 1 1) (tn 122 st) e (tn 122 s13) (s13 149 5) i) ∧ RDc s13) ∨ ((1 : Int) = 0 ∧ ((¬ ∃ (i : Nat) (e : Int), i < 26 ∧ tk (ctx st) (st 1 1) (st 149 5) 1 (owv i) e) ∨ ∃ (i : Nat) (e : Int), i < 26 ∧ tk (ctx st) (st 1 1) (st 149 5) 1 (owv i) e ∧ sF (ctx st) (st 1 1) (tn 122 st) e i)) from (by
            have hT : ctx s12 = ctx st ∧ s12 1 1 = st 1 1 := ⟨by unfold ctx; funext j; rw [fs12 2 _ rfl rfl], fs12 1 1 rfl rfl⟩
            have hn : tn 122 s12 = tn 122 st := tn_fr (x := 122) rfl fs12
            have z : bSt (ctx s12) (s12 1 1) (tn 122 s12) (s12 149 5) (tn 122 s13) (s13 149 5) := b13
            rw [hT.1, hT.2, hn] at z
            exact Or.inl ⟨rfl, ⟨1, s12 149 5, by omega, (nx_ow 1 rd ow nx12 (by omega) (by omega) rfl), z⟩, rd13⟩))⟩
          · refine ⟨fun h87 => ?_, fun h87 => (by exfalso; omega)⟩
            refine ⟨by omega, ?_⟩
            exact hQ _ _ ⟨gs13, (fr_tr (fr_tr (fr_rf _ _) fs12 rfl) fs13 rfl), (show ((0 : Int) = 1 ∧ (∃ (i : Nat) (e : Int), i < 26 ∧ tk (ctx st) (st 1 1) (st 149 5) 1 (owv i) e ∧ sB (ctx st) (st 1 1) (tn 122 st) e (tn 122 s13) (s13 149 5) i) ∧ RDc s13) ∨ ((0 : Int) = 0 ∧ ((¬ ∃ (i : Nat) (e : Int), i < 26 ∧ tk (ctx st) (st 1 1) (st 149 5) 1 (owv i) e) ∨ ∃ (i : Nat) (e : Int), i < 26 ∧ tk (ctx st) (st 1 1) (st 149 5) 1 (owv i) e ∧ sF (ctx st) (st 1 1) (tn 122 st) e i)) from (by
            have hT : ctx s12 = ctx st ∧ s12 1 1 = st 1 1 := ⟨by unfold ctx; funext j; rw [fs12 2 _ rfl rfl], fs12 1 1 rfl rfl⟩
            have hn : tn 122 s12 = tn 122 st := tn_fr (x := 122) rfl fs12
            have z : ¬ ∃ (T' : zS) (q : Int), bSt (ctx s12) (s12 1 1) (tn 122 s12) (s12 149 5) T' q := l13
            rw [hT.1, hT.2, hn] at z
            exact Or.inr ⟨rfl, Or.inr ⟨1, s12 149 5, by omega, (nx_ow 1 rd ow nx12 (by omega) (by omega) rfl), z⟩⟩))⟩
        · refine ⟨fun h88 => ?_, fun h88 => (by exfalso; omega)⟩
          refine ⟨by omega, ?_⟩
          have g89 := g_wStart gs12
          exact hQ _ _ ⟨gs12, (fr_tr (fr_rf _ _) fs12 rfl), (show ((0 : Int) = 1 ∧ (∃ (i : Nat) (e : Int), i < 26 ∧ tk (ctx st) (st 1 1) (st 149 5) 1 (owv i) e ∧ sB (ctx st) (st 1 1) (tn 122 st) e (tn 122 s12) (s12 149 5) i) ∧ RDc s12) ∨ ((0 : Int) = 0 ∧ ((¬ ∃ (i : Nat) (e : Int), i < 26 ∧ tk (ctx st) (st 1 1) (st 149 5) 1 (owv i) e) ∨ ∃ (i : Nat) (e : Int), i < 26 ∧ tk (ctx st) (st 1 1) (st 149 5) 1 (owv i) e ∧ sF (ctx st) (st 1 1) (tn 122 st) e i)) from (by
            obtain ⟨hv, e, he⟩ := own_tk rd ow (by omega)
            rw [show (st 149 4).toNat = 1 by omega] at he
            exact Or.inr ⟨rfl, Or.inr ⟨1, e, by omega, he, fun hx => by
              obtain ⟨T', q, hb⟩ := hx
              have hb : bSt (ctx st) (st 1 1) (tn 122 st) e T' q := hb
              have hz : st 122 3 < 14 := hb.1
              omega⟩⟩))⟩
      · refine ⟨rfl, ⟨hG, (show RDc st from rd), (show ((1) = 0 ∨ (1) = 1) ∧ 1 ≤ st 149 3 ∧ st 149 3 ≤ 4 from by omega)⟩, fun r14 s14 q14 => ?_⟩
        obtain ⟨gs14, fs14, o14⟩ := q14
        change (r14 = 1 ∧ (1) = 1 ∧ RDc s14 ∧ NX st s14) ∨ (r14 = 0 ∧ (1) = 0) at o14
        rcases o14 with ⟨y14, k14, rd14, nx14⟩ | ⟨y14, k14⟩
        · refine ⟨fun h90 => (by exfalso; omega), fun h90 => ?_⟩
          have e91 : s14 148 1 = st 148 1 := fs14 148 1 rfl rfl
          have e92 : s14 122 3 = st 122 3 := fs14 122 3 rfl rfl
          refine ⟨rfl, ⟨gs14, (show RDc s14 from rd14), (show cOW s14 from (fun i hi => ((show aFr m_cStatementA st s14 from (fr_tr (fr_rf _ _) fs14 rfl)) 150 i rfl rfl).trans (ow i hi))), (show s14 148 1 = 122 from by omega), (show s14 122 3 < 14 from by omega)⟩, fun r15 s15 q15 => ?_⟩
          obtain ⟨gs15, fs15, o15⟩ := q15
          change (r15 = 1 ∧ bSt (ctx s14) (s14 1 1) (tn 122 s14) (s14 149 5) (tn 122 s15) (s15 149 5) ∧ RDc s15) ∨ (r15 = 0 ∧ ¬ ∃ (T' : zS) (q : Int), bSt (ctx s14) (s14 1 1) (tn 122 s14) (s14 149 5) T' q) at o15
          have e93 : s14 1 1 = st 1 1 := fs14 1 1 rfl rfl
          have g94 := g_wStart gs14
          have g95 := g_wStart gs15
          rcases o15 with ⟨y15, b15, rd15⟩ | ⟨y15, l15⟩
          · refine ⟨fun h96 => (by exfalso; omega), fun h96 => ?_⟩
            refine ⟨by omega, ?_⟩
            exact hQ _ _ ⟨gs15, (fr_tr (fr_tr (fr_rf _ _) fs14 rfl) fs15 rfl), (show ((1 : Int) = 1 ∧ (∃ (i : Nat) (e : Int), i < 26 ∧ tk (ctx st) (st 1 1) (st 149 5) 1 (owv i) e ∧ sB (ctx st) (st 1 1) (tn 122 st) e (tn 122 s15) (s15 149 5) i) ∧ RDc s15) ∨ ((1 : Int) = 0 ∧ ((¬ ∃ (i : Nat) (e : Int), i < 26 ∧ tk (ctx st) (st 1 1) (st 149 5) 1 (owv i) e) ∨ ∃ (i : Nat) (e : Int), i < 26 ∧ tk (ctx st) (st 1 1) (st 149 5) 1 (owv i) e ∧ sF (ctx st) (st 1 1) (tn 122 st) e i)) from (by
            have hT : ctx s14 = ctx st ∧ s14 1 1 = st 1 1 := ⟨by unfold ctx; funext j; rw [fs14 2 _ rfl rfl], fs14 1 1 rfl rfl⟩
            have hn : tn 122 s14 = tn 122 st := tn_fr (x := 122) rfl fs14
            have z : bSt (ctx s14) (s14 1 1) (tn 122 s14) (s14 149 5) (tn 122 s15) (s15 149 5) := b15
            rw [hT.1, hT.2, hn] at z
            exact Or.inl ⟨rfl, ⟨1, s14 149 5, by omega, (nx_ow 1 rd ow nx14 (by omega) (by omega) rfl), z⟩, rd15⟩))⟩
          · refine ⟨fun h97 => ?_, fun h97 => (by exfalso; omega)⟩
            refine ⟨by omega, ?_⟩
            exact hQ _ _ ⟨gs15, (fr_tr (fr_tr (fr_rf _ _) fs14 rfl) fs15 rfl), (show ((0 : Int) = 1 ∧ (∃ (i : Nat) (e : Int), i < 26 ∧ tk (ctx st) (st 1 1) (st 149 5) 1 (owv i) e ∧ sB (ctx st) (st 1 1) (tn 122 st) e (tn 122 s15) (s15 149 5) i) ∧ RDc s15) ∨ ((0 : Int) = 0 ∧ ((¬ ∃ (i : Nat) (e : Int), i < 26 ∧ tk (ctx st) (st 1 1) (st 149 5) 1 (owv i) e) ∨ ∃ (i : Nat) (e : Int), i < 26 ∧ tk (ctx st) (st 1 1) (st 149 5) 1 (owv i) e ∧ sF (ctx st) (st 1 1) (tn 122 st) e i)) from (by
            have hT : ctx s14 = ctx st ∧ s14 1 1 = st 1 1 := ⟨by unfold ctx; funext j; rw [fs14 2 _ rfl rfl], fs14 1 1 rfl rfl⟩
            have hn : tn 122 s14 = tn 122 st := tn_fr (x := 122) rfl fs14
            have z : ¬ ∃ (T' : zS) (q : Int), bSt (ctx s14) (s14 1 1) (tn 122 s14) (s14 149 5) T' q := l15
            rw [hT.1, hT.2, hn] at z
            exact Or.inr ⟨rfl, Or.inr ⟨1, s14 149 5, by omega, (nx_ow 1 rd ow nx14 (by omega) (by omega) rfl), z⟩⟩))⟩
        · refine ⟨fun h98 => ?_, fun h98 => (by exfalso; omega)⟩
          refine ⟨by omega, ?_⟩
          have g99 := g_wStart gs14
          exact hQ _ _ ⟨gs14, (fr_tr (fr_rf _ _) fs14 rfl), (show ((0 : Int) = 1 ∧ (∃ (i : Nat) (e : Int), i < 26 ∧ tk (ctx st) (st 1 1) (st 149 5) 1 (owv i) e ∧ sB (ctx st) (st 1 1) (tn 122 st) e (tn 122 s14) (s14 149 5) i) ∧ RDc s14) ∨ ((0 : Int) = 0 ∧ ((¬ ∃ (i : Nat) (e : Int), i < 26 ∧ tk (ctx st) (st 1 1) (st 149 5) 1 (owv i) e) ∨ ∃ (i : Nat) (e : Int), i < 26 ∧ tk (ctx st) (st 1 1) (st 149 5) 1 (owv i) e ∧ sF (ctx st) (st 1 1) (tn 122 st) e i)) from (by
            obtain ⟨hv, e, he⟩ := own_tk rd ow (by omega)
            rw [show (st 149 4).toNat = 1 by omega] at he
            exact Or.inr ⟨rfl, Or.inr ⟨1, e, by omega, he, fun hx => by
              obtain ⟨T', q, hb⟩ := hx
              have hb : bSt (ctx st) (st 1 1) (tn 122 st) e T' q := hb
              have hz : st 122 3 < 14 := hb.1
              omega⟩⟩))⟩
    · have g100 := g_wSpot hG
      refine ⟨rfl, hG, ?_⟩
      refine ⟨by omega, ?_⟩
      exact hQ _ _ ⟨(gInv_up (gInv_up hG (p_rFault (by omega))) (p_rFaultAt (by omega))), (fr_f (fr_f (fr_rf _ _) rfl) rfl), (show ((0 : Int) = 1 ∧ (∃ (i : Nat) (e : Int), i < 26 ∧ tk (ctx st) (st 1 1) (st 149 5) 1 (owv i) e ∧ sB (ctx st) (st 1 1) (tn 122 st) e (tn 122 (zup (zup st 148 3 1) 148 4 (st 149 6))) (st 149 5) i) ∧ RDc (zup (zup st 148 3 1) 148 4 (st 149 6))) ∨ ((0 : Int) = 0 ∧ ((¬ ∃ (i : Nat) (e : Int), i < 26 ∧ tk (ctx st) (st 1 1) (st 149 5) 1 (owv i) e) ∨ ∃ (i : Nat) (e : Int), i < 26 ∧ tk (ctx st) (st 1 1) (st 149 5) 1 (owv i) e ∧ sF (ctx st) (st 1 1) (tn 122 st) e i)) from (by
            obtain ⟨hv, e, he⟩ := own_tk rd ow (by omega)
            exact Or.inr ⟨rfl, Or.inr ⟨(st 149 4).toNat, e, by omega, he, sF_o (by omega)⟩⟩))⟩
    · have g101 := g_wSpot hG
      refine ⟨rfl, hG, ?_⟩
      refine ⟨by omega, ?_⟩
      exact hQ _ _ ⟨(gInv_up (gInv_up hG (p_rFault (by omega))) (p_rFaultAt (by omega))), (fr_f (fr_f (fr_rf _ _) rfl) rfl), (show ((0 : Int) = 1 ∧ (∃ (i : Nat) (e : Int), i < 26 ∧ tk (ctx st) (st 1 1) (st 149 5) 1 (owv i) e ∧ sB (ctx st) (st 1 1) (tn 122 st) e (tn 122 (zup (zup st 148 3 1) 148 4 (st 149 6))) (st 149 5) i) ∧ RDc (zup (zup st 148 3 1) 148 4 (st 149 6))) ∨ ((0 : Int) = 0 ∧ ((¬ ∃ (i : Nat) (e : Int), i < 26 ∧ tk (ctx st) (st 1 1) (st 149 5) 1 (owv i) e) ∨ ∃ (i : Nat) (e : Int), i < 26 ∧ tk (ctx st) (st 1 1) (st 149 5) 1 (owv i) e ∧ sF (ctx st) (st 1 1) (tn 122 st) e i)) from (by
            obtain ⟨hv, e, he⟩ := own_tk rd ow (by omega)
            exact Or.inr ⟨rfl, Or.inr ⟨(st 149 4).toNat, e, by omega, he, sF_o (by omega)⟩⟩))⟩
    · refine ⟨by omega, ?_⟩
      have g102 := g_f131_2 hG
      refine ⟨fun h103 => ?_, fun h103 => ?_⟩
      · refine ⟨rfl, ⟨hG, (show RDc st from rd), (show ((0) = 0 ∨ (0) = 1) ∧ 1 ≤ st 149 3 ∧ st 149 3 ≤ 4 from by omega)⟩, fun r18 s18 q18 => ?_⟩
        obtain ⟨gs18, fs18, o18⟩ := q18
        change (r18 = 1 ∧ (0) = 1 ∧ RDc s18 ∧ NX st s18) ∨ (r18 = 0 ∧ (0) = 0) at o18
        rcases o18 with ⟨y18, k18, rd18, nx18⟩ | ⟨y18, k18⟩
        · refine ⟨fun h104 => (by exfalso; omega), fun h104 => ?_⟩
          have e105 : s18 148 1 = st 148 1 := fs18 148 1 rfl rfl
          have e106 : s18 131 2 = st 131 2 := fs18 131 2 rfl rfl
          refine ⟨rfl, ⟨gs18, (show RDc s18 from rd18), (show cOW s18 from (fun i hi => ((show aFr m_cStatementA st s18 from (fr_tr (fr_rf _ _) fs18 rfl)) 150 i rfl rfl).trans (ow i hi))), (show s18 148 1 = 122 from by omega), (show s18 131 2 < 20 from by omega), (show TIv (tn 122 s18) from (by rw [show tn 122 s18 = tn 122 st from (by exact ((tn_fr (x := 122) rfl fs18).trans (Eq.refl (tn 122 st))))]; exact ti))⟩, fun r19 s19 q19 => ?_⟩
          obtain ⟨gs19, fs19, o19⟩ := q19
          change (r19 = 1 ∧ bSp (ctx s18) (s18 1 1) (tn 122 s18) (s18 149 5) (tn 122 s19) (s19 149 5) ∧ RDc s19) ∨ (r19 = 0 ∧ ¬ ∃ (T' : zS) (q : Int), bSp (ctx s18) (s18 1 1) (tn 122 s18) (s18 149 5) T' q) at o19
          have e107 : s18 1 1 = st 1 1 := fs18 1 1 rfl rfl
          have g108 := g_wStart gs18
          have g109 := g_wStart gs19
          rcases o19 with ⟨y19, b19, rd19⟩ | ⟨y19, l19⟩
          · refine ⟨fun h110 => (by exfalso; omega), fun h110 => ?_⟩
            refine ⟨by omega, ?_⟩
            exact hQ _ _ ⟨gs19, (fr_tr (fr_tr (fr_rf _ _) fs18 rfl) fs19 rfl), (show ((1 : Int) = 1 ∧ (∃ (i : Nat) (e : Int), i < 26 ∧ tk (ctx st) (st 1 1) (st 149 5) 1 (owv i) e ∧ sB (ctx st) (st 1 1) (tn 122 st) e (tn 122 s19) (s19 149 5) i) ∧ RDc s19) ∨ ((1 : Int) = 0 ∧ ((¬ ∃ (i : Nat) (e : Int), i < 26 ∧ tk (ctx st) (st 1 1) (st 149 5) 1 (owv i) e) ∨ ∃ (i : Nat) (e : Int), i < 26 ∧ tk (ctx st) (st 1 1) (st 149 5) 1 (owv i) e ∧ sF (ctx st) (st 1 1) (tn 122 st) e i)) from (by
            have hT : ctx s18 = ctx st ∧ s18 1 1 = st 1 1 := ⟨by unfold ctx; funext j; rw [fs18 2 _ rfl rfl], fs18 1 1 rfl rfl⟩
            have hn : tn 122 s18 = tn 122 st := tn_fr (x := 122) rfl fs18
            have z : bSp (ctx s18) (s18 1 1) (tn 122 s18) (s18 149 5) (tn 122 s19) (s19 149 5) := b19
            rw [hT.1, hT.2, hn] at z
            exact Or.inl ⟨rfl, ⟨4, s18 149 5, by omega, (nx_ow 4 rd ow nx18 (by omega) (by omega) rfl), z⟩, rd19⟩))⟩
          · refine ⟨fun h111 => ?_, fun h111 => (by exfalso; omega)⟩
            refine ⟨by omega, ?_⟩
            exact hQ _ _ ⟨gs19, (fr_tr (fr_tr (fr_rf _ _) fs18 rfl) fs19 rfl), (show ((0 : Int) = 1 ∧ (∃ (i : Nat) (e : Int), i < 26 ∧ tk (ctx st) (st 1 1) (st 149 5) 1 (owv i) e ∧ sB (ctx st) (st 1 1) (tn 122 st) e (tn 122 s19) (s19 149 5) i) ∧ RDc s19) ∨ ((0 : Int) = 0 ∧ ((¬ ∃ (i : Nat) (e : Int), i < 26 ∧ tk (ctx st) (st 1 1) (st 149 5) 1 (owv i) e) ∨ ∃ (i : Nat) (e : Int), i < 26 ∧ tk (ctx st) (st 1 1) (st 149 5) 1 (owv i) e ∧ sF (ctx st) (st 1 1) (tn 122 st) e i)) from (by
            have hT : ctx s18 = ctx st ∧ s18 1 1 = st 1 1 := ⟨by unfold ctx; funext j; rw [fs18 2 _ rfl rfl], fs18 1 1 rfl rfl⟩
            have hn : tn 122 s18 = tn 122 st := tn_fr (x := 122) rfl fs18
            have z : ¬ ∃ (T' : zS) (q : Int), bSp (ctx s18) (s18 1 1) (tn 122 s18) (s18 149 5) T' q := l19
            rw [hT.1, hT.2, hn] at z
            exact Or.inr ⟨rfl, Or.inr ⟨4, s18 149 5, by omega, (nx_ow 4 rd ow nx18 (by omega) (by omega) rfl), z⟩⟩))⟩
        · refine ⟨fun h112 => ?_, fun h112 => (by exfalso; omega)⟩
          refine ⟨by omega, ?_⟩
          have g113 := g_wStart gs18
          exact hQ _ _ ⟨gs18, (fr_tr (fr_rf _ _) fs18 rfl), (show ((0 : Int) = 1 ∧ (∃ (i : Nat) (e : Int), i < 26 ∧ tk (ctx st) (st 1 1) (st 149 5) 1 (owv i) e ∧ sB (ctx st) (st 1 1) (tn 122 st) e (tn 122 s18) (s18 149 5) i) ∧ RDc s18) ∨ ((0 : Int) = 0 ∧ ((¬ ∃ (i : Nat) (e : Int), i < 26 ∧ tk (ctx st) (st 1 1) (st 149 5) 1 (owv i) e) ∨ ∃ (i : Nat) (e : Int), i < 26 ∧ tk (ctx st) (st 1 1) (st 149 5) 1 (owv i) e ∧ sF (ctx st) (st 1 1) (tn 122 st) e i)) from (by
            obtain ⟨hv, e, he⟩ := own_tk rd ow (by omega)
            rw [show (st 149 4).toNat = 4 by omega] at he
            exact Or.inr ⟨rfl, Or.inr ⟨4, e, by omega, he, fun hx => by
              obtain ⟨T', q, hb⟩ := hx
              have hb : bSp (ctx st) (st 1 1) (tn 122 st) e T' q := hb
              have hz : st 131 2 < 20 := hb.1
              omega⟩⟩))⟩
      · refine ⟨rfl, ⟨hG, (show RDc st from rd), (show ((1) = 0 ∨ (1) = 1) ∧ 1 ≤ st 149 3 ∧ st 149 3 ≤ 4 from by omega)⟩, fun r20 s20 q20 => ?_⟩
        obtain ⟨gs20, fs20, o20⟩ := q20
        change (r20 = 1 ∧ (1) = 1 ∧ RDc s20 ∧ NX st s20) ∨ (r20 = 0 ∧ (1) = 0) at o20
        rcases o20 with ⟨y20, k20, rd20, nx20⟩ | ⟨y20, k20⟩
        · refine ⟨fun h114 => (by exfalso; omega), fun h114 => ?_⟩
          have e115 : s20 148 1 = st 148 1 := fs20 148 1 rfl rfl
          have e116 : s20 131 2 = st 131 2 := fs20 131 2 rfl rfl
          refine ⟨rfl, ⟨gs20, (show RDc s20 from rd20), (show cOW s20 from (fun i hi => ((show aFr m_cStatementA st s20 from (fr_tr (fr_rf _ _) fs20 rfl)) 150 i rfl rfl).trans (ow i hi))), (show s20 148 1 = 122 from by omega), (show s20 131 2 < 20 from by omega), (show TIv (tn 122 s20) from (by rw [show tn 122 s20 = tn 122 st from (by exact ((tn_fr (x := 122) rfl fs20).trans (Eq.refl (tn 122 st))))]; exact ti))⟩, fun r21 s21 q21 => ?_⟩
          obtain ⟨gs21, fs21, o21⟩ := q21
          change (r21 = 1 ∧ bSp (ctx s20) (s20 1 1) (tn 122 s20) (s20 149 5) (tn 122 s21) (s21 149 5) ∧ RDc s21) ∨ (r21 = 0 ∧ ¬ ∃ (T' : zS) (q : Int), bSp (ctx s20) (s20 1 1) (tn 122 s20) (s20 149 5) T' q) at o21
          have e117 : s20 1 1 = st 1 1 := fs20 1 1 rfl rfl
          have g118 := g_wStart gs20
          have g119 := g_wStart gs21
          rcases o21 with ⟨y21, b21, rd21⟩ | ⟨y21, l21⟩
          · refine ⟨fun h120 => (by exfalso; omega), fun h120 => ?_⟩
            refine ⟨by omega, ?_⟩
            exact hQ _ _ ⟨gs21, (fr_tr (fr_tr (fr_rf _ _) fs20 rfl) fs21 rfl), (show ((1 : Int) = 1 ∧ (∃ (i : Nat) (e : Int), i < 26 ∧ tk (ctx st) (st 1 1) (st 149 5) 1 (owv i) e ∧ sB (ctx st) (st 1 1) (tn 122 st) e (tn 122 s21) (s21 149 5) i) ∧ RDc s21) ∨ ((1 : Int) = 0 ∧ ((¬ ∃ (i : Nat) (e : Int), i < 26 ∧ tk (ctx st) (st 1 1) (st 149 5) 1 (owv i) e) ∨ ∃ (i : Nat) (e : Int), i < 26 ∧ tk (ctx st) (st 1 1) (st 149 5) 1 (owv i) e ∧ sF (ctx st) (st 1 1) (tn 122 st) e i)) from (by
            have hT : ctx s20 = ctx st ∧ s20 1 1 = st 1 1 := ⟨by unfold ctx; funext j; rw [fs20 2 _ rfl rfl], fs20 1 1 rfl rfl⟩
            have hn : tn 122 s20 = tn 122 st := tn_fr (x := 122) rfl fs20
            have z : bSp (ctx s20) (s20 1 1) (tn 122 s20) (s20 149 5) (tn 122 s21) (s21 149 5) := b21
            rw [hT.1, hT.2, hn] at z
            exact Or.inl ⟨rfl, ⟨4, s20 149 5, by omega, (nx_ow 4 rd ow nx20 (by omega) (by omega) rfl), z⟩, rd21⟩))⟩
          · refine ⟨fun h121 => ?_, fun h121 => (by exfalso; omega)⟩
            refine ⟨by omega, ?_⟩
            exact hQ _ _ ⟨gs21, (fr_tr (fr_tr (fr_rf _ _) fs20 rfl) fs21 rfl), (show ((0 : Int) = 1 ∧ (∃ (i : Nat) (e : Int), i < 26 ∧ tk (ctx st) (st 1 1) (st 149 5) 1 (owv i) e ∧ sB (ctx st) (st 1 1) (tn 122 st) e (tn 122 s21) (s21 149 5) i) ∧ RDc s21) ∨ ((0 : Int) = 0 ∧ ((¬ ∃ (i : Nat) (e : Int), i < 26 ∧ tk (ctx st) (st 1 1) (st 149 5) 1 (owv i) e) ∨ ∃ (i : Nat) (e : Int), i < 26 ∧ tk (ctx st) (st 1 1) (st 149 5) 1 (owv i) e ∧ sF (ctx st) (st 1 1) (tn 122 st) e i)) from (by
            have hT : ctx s20 = ctx st ∧ s20 1 1 = st 1 1 := ⟨by unfold ctx; funext j; rw [fs20 2 _ rfl rfl], fs20 1 1 rfl rfl⟩
            have hn : tn 122 s20 = tn 122 st := tn_fr (x := 122) rfl fs20
            have z : ¬ ∃ (T' : zS) (q : Int), bSp (ctx s20) (s20 1 1) (tn 122 s20) (s20 149 5) T' q := l21
            rw [hT.1, hT.2, hn] at z
            exact Or.inr ⟨rfl, Or.inr ⟨4, s20 149 5, by omega, (nx_ow 4 rd ow nx20 (by omega) (by omega) rfl), z⟩⟩))⟩
        · refine ⟨fun h122 => ?_, fun h122 => (by exfalso; omega)⟩
          refine ⟨by omega, ?_⟩
          have g123 := g_wStart gs20
          exact hQ _ _ ⟨gs20, (fr_tr (fr_rf _ _) fs20 rfl), (show ((0 : Int) = 1 ∧ (∃ (i : Nat) (e : Int), i < 26 ∧ tk (ctx st) (st 1 1) (st 149 5) 1 (owv i) e ∧ sB (ctx st) (st 1 1) (tn 122 st) e (tn 122 s20) (s20 149 5) i) ∧ RDc s20) ∨ ((0 : Int) = 0 ∧ ((¬ ∃ (i : Nat) (e : Int), i < 26 ∧ tk (ctx st) (st 1 1) (st 149 5) 1 (owv i) e) ∨ ∃ (i : Nat) (e : Int), i < 26 ∧ tk (ctx st) (st 1 1) (st 149 5) 1 (owv i) e ∧ sF (ctx st) (st 1 1) (tn 122 st) e i)) from (by
            obtain ⟨hv, e, he⟩ := own_tk rd ow (by omega)
            rw [show (st 149 4).toNat = 4 by omega] at he
            exact Or.inr ⟨rfl, Or.inr ⟨4, e, by omega, he, fun hx => by
              obtain ⟨T', q, hb⟩ := hx
              have hb : bSp (ctx st) (st 1 1) (tn 122 st) e T' q := hb
              have hz : st 131 2 < 20 := hb.1
              omega⟩⟩))⟩
    · have g124 := g_wSpot hG
      refine ⟨rfl, hG, ?_⟩
      refine ⟨by omega, ?_⟩
      exact hQ _ _ ⟨(gInv_up (gInv_up hG (p_rFault (by omega))) (p_rFaultAt (by omega))), (fr_f (fr_f (fr_rf _ _) rfl) rfl), (show ((0 : Int) = 1 ∧ (∃ (i : Nat) (e : Int), i < 26 ∧ tk (ctx st) (st 1 1) (st 149 5) 1 (owv i) e ∧ sB (ctx st) (st 1 1) (tn 122 st) e (tn 122 (zup (zup st 148 3 1) 148 4 (st 149 6))) (st 149 5) i) ∧ RDc (zup (zup st 148 3 1) 148 4 (st 149 6))) ∨ ((0 : Int) = 0 ∧ ((¬ ∃ (i : Nat) (e : Int), i < 26 ∧ tk (ctx st) (st 1 1) (st 149 5) 1 (owv i) e) ∨ ∃ (i : Nat) (e : Int), i < 26 ∧ tk (ctx st) (st 1 1) (st 149 5) 1 (owv i) e ∧ sF (ctx st) (st 1 1) (tn 122 st) e i)) from (by
            obtain ⟨hv, e, he⟩ := own_tk rd ow (by omega)
            exact Or.inr ⟨rfl, Or.inr ⟨(st 149 4).toNat, e, by omega, he, sF_o (by omega)⟩⟩))⟩
    · refine ⟨by omega, ?_⟩
      have g125 := g_f122_8 hG
      refine ⟨fun h126 => ?_, fun h126 => ?_⟩
      · refine ⟨rfl, ⟨hG, (show RDc st from rd), (show ((0) = 0 ∨ (0) = 1) ∧ 1 ≤ st 149 3 ∧ st 149 3 ≤ 4 from by omega)⟩, fun r23 s23 q23 => ?_⟩
        obtain ⟨gs23, fs23, o23⟩ := q23
        change (r23 = 1 ∧ (0) = 1 ∧ RDc s23 ∧ NX st s23) ∨ (r23 = 0 ∧ (0) = 0) at o23
        rcases o23 with ⟨y23, k23, rd23, nx23⟩ | ⟨y23, k23⟩
        · refine ⟨fun h127 => (by exfalso; omega), fun h127 => ?_⟩
          have e128 : s23 148 1 = st 148 1 := fs23 148 1 rfl rfl
          have e129 : s23 122 8 = st 122 8 := fs23 122 8 rfl rfl
          refine ⟨rfl, ⟨gs23, (show RDc s23 from rd23), (show cOW s23 from (fun i hi => ((show aFr m_cStatementA st s23 from (fr_tr (fr_rf _ _) fs23 rfl)) 150 i rfl rfl).trans (ow i hi))), (show s23 148 1 = 122 from by omega), (show s23 122 8 < 8 from by omega)⟩, fun r24 s24 q24 => ?_⟩
          obtain ⟨gs24, fs24, o24⟩ := q24
          change (r24 = 1 ∧ bTh (ctx s23) (s23 1 1) (tn 122 s23) (s23 149 5) (tn 122 s24) (s24 149 5) ∧ RDc s24) ∨ (r24 = 0 ∧ ¬ ∃ (T' : zS) (q : Int), bTh (ctx s23) (s23 1 1) (tn 122 s23) (s23 149 5) T' q) at o24
          have e130 : s23 1 1 = st 1 1 := fs23 1 1 rfl rfl
          have g131 := g_wStart gs23
          have g132 := g_wStart gs24
          rcases o24 with ⟨y24, b24, rd24⟩ | ⟨y24, l24⟩
          · refine ⟨fun h133 => (by exfalso; omega), fun h133 => ?_⟩
            refine ⟨by omega, ?_⟩
            exact hQ _ _ ⟨gs24, (fr_tr (fr_tr (fr_rf _ _) fs23 rfl) fs24 rfl), (show ((1 : Int) = 1 ∧ (∃ (i : Nat) (e : Int), i < 26 ∧ tk (ctx st) (st 1 1) (st 149 5) 1 (owv i) e ∧ sB (ctx st) (st 1 1) (tn 122 st) e (tn 122 s24) (s24 149 5) i) ∧ RDc s24) ∨ ((1 : Int) = 0 ∧ ((¬ ∃ (i : Nat) (e : Int), i < 26 ∧ tk (ctx st) (st 1 1) (st 149 5) 1 (owv i) e) ∨ ∃ (i : Nat) (e : Int), i < 26 ∧ tk (ctx st) (st 1 1) (st 149 5) 1 (owv i) e ∧ sF (ctx st) (st 1 1) (tn 122 st) e i)) from (by
            have hT : ctx s23 = ctx st ∧ s23 1 1 = st 1 1 := ⟨by unfold ctx; funext j; rw [fs23 2 _ rfl rfl], fs23 1 1 rfl rfl⟩
            have hn : tn 122 s23 = tn 122 st := tn_fr (x := 122) rfl fs23
            have z : bTh (ctx s23) (s23 1 1) (tn 122 s23) (s23 149 5) (tn 122 s24) (s24 149 5) := b24
            rw [hT.1, hT.2, hn] at z
            exact Or.inl ⟨rfl, ⟨6, s23 149 5, by omega, (nx_ow 6 rd ow nx23 (by omega) (by omega) rfl), z⟩, rd24⟩))⟩
          · refine ⟨fun h134 => ?_, fun h134 => (by exfalso; omega)⟩
            refine ⟨by omega, ?_⟩
            exact hQ _ _ ⟨gs24, (fr_tr (fr_tr (fr_rf _ _) fs23 rfl) fs24 rfl), (show ((0 : Int) = 1 ∧ (∃ (i : Nat) (e : Int), i < 26 ∧ tk (ctx st) (st 1 1) (st 149 5) 1 (owv i) e ∧ sB (ctx st) (st 1 1) (tn 122 st) e (tn 122 s24) (s24 149 5) i) ∧ RDc s24) ∨ ((0 : Int) = 0 ∧ ((¬ ∃ (i : Nat) (e : Int), i < 26 ∧ tk (ctx st) (st 1 1) (st 149 5) 1 (owv i) e) ∨ ∃ (i : Nat) (e : Int), i < 26 ∧ tk (ctx st) (st 1 1) (st 149 5) 1 (owv i) e ∧ sF (ctx st) (st 1 1) (tn 122 st) e i)) from (by
            have hT : ctx s23 = ctx st ∧ s23 1 1 = st 1 1 := ⟨by unfold ctx; funext j; rw [fs23 2 _ rfl rfl], fs23 1 1 rfl rfl⟩
            have hn : tn 122 s23 = tn 122 st := tn_fr (x := 122) rfl fs23
            have z : ¬ ∃ (T' : zS) (q : Int), bTh (ctx s23) (s23 1 1) (tn 122 s23) (s23 149 5) T' q := l24
            rw [hT.1, hT.2, hn] at z
            exact Or.inr ⟨rfl, Or.inr ⟨6, s23 149 5, by omega, (nx_ow 6 rd ow nx23 (by omega) (by omega) rfl), z⟩⟩))⟩
        · refine ⟨fun h135 => ?_, fun h135 => (by exfalso; omega)⟩
          refine ⟨by omega, ?_⟩
          have g136 := g_wStart gs23
          exact hQ _ _ ⟨gs23, (fr_tr (fr_rf _ _) fs23 rfl), (show ((0 : Int) = 1 ∧ (∃ (i : Nat) (e : Int), i < 26 ∧ tk (ctx st) (st 1 1) (st 149 5) 1 (owv i) e ∧ sB (ctx st) (st 1 1) (tn 122 st) e (tn 122 s23) (s23 149 5) i) ∧ RDc s23) ∨ ((0 : Int) = 0 ∧ ((¬ ∃ (i : Nat) (e : Int), i < 26 ∧ tk (ctx st) (st 1 1) (st 149 5) 1 (owv i) e) ∨ ∃ (i : Nat) (e : Int), i < 26 ∧ tk (ctx st) (st 1 1) (st 149 5) 1 (owv i) e ∧ sF (ctx st) (st 1 1) (tn 122 st) e i)) from (by
            obtain ⟨hv, e, he⟩ := own_tk rd ow (by omega)
            rw [show (st 149 4).toNat = 6 by omega] at he
            exact Or.inr ⟨rfl, Or.inr ⟨6, e, by omega, he, fun hx => by
              obtain ⟨T', q, hb⟩ := hx
              have hb : bTh (ctx st) (st 1 1) (tn 122 st) e T' q := hb
              have hz : st 122 8 < 8 := hb.1
              omega⟩⟩))⟩
      · refine ⟨rfl, ⟨hG, (show RDc st from rd), (show ((1) = 0 ∨ (1) = 1) ∧ 1 ≤ st 149 3 ∧ st 149 3 ≤ 4 from by omega)⟩, fun r25 s25 q25 => ?_⟩
        obtain ⟨gs25, fs25, o25⟩ := q25
        change (r25 = 1 ∧ (1) = 1 ∧ RDc s25 ∧ NX st s25) ∨ (r25 = 0 ∧ (1) = 0) at o25
        rcases o25 with ⟨y25, k25, rd25, nx25⟩ | ⟨y25, k25⟩
        · refine ⟨fun h137 => (by exfalso; omega), fun h137 => ?_⟩
          have e138 : s25 148 1 = st 148 1 := fs25 148 1 rfl rfl
          have e139 : s25 122 8 = st 122 8 := fs25 122 8 rfl rfl
          refine ⟨rfl, ⟨gs25, (show RDc s25 from rd25), (show cOW s25 from (fun i hi => ((show aFr m_cStatementA st s25 from (fr_tr (fr_rf _ _) fs25 rfl)) 150 i rfl rfl).trans (ow i hi))), (show s25 148 1 = 122 from by omega), (show s25 122 8 < 8 from by omega)⟩, fun r26 s26 q26 => ?_⟩
          obtain ⟨gs26, fs26, o26⟩ := q26
          change (r26 = 1 ∧ bTh (ctx s25) (s25 1 1) (tn 122 s25) (s25 149 5) (tn 122 s26) (s26 149 5) ∧ RDc s26) ∨ (r26 = 0 ∧ ¬ ∃ (T' : zS) (q : Int), bTh (ctx s25) (s25 1 1) (tn 122 s25) (s25 149 5) T' q) at o26
          have e140 : s25 1 1 = st 1 1 := fs25 1 1 rfl rfl
          have g141 := g_wStart gs25
          have g142 := g_wStart gs26
          rcases o26 with ⟨y26, b26, rd26⟩ | ⟨y26, l26⟩
          · refine ⟨fun h143 => (by exfalso; omega), fun h143 => ?_⟩
            refine ⟨by omega, ?_⟩
            exact hQ _ _ ⟨gs26, (fr_tr (fr_tr (fr_rf _ _) fs25 rfl) fs26 rfl), (show ((1 : Int) = 1 ∧ (∃ (i : Nat) (e : Int), i < 26 ∧ tk (ctx st) (st 1 1) (st 149 5) 1 (owv i) e ∧ sB (ctx st) (st 1 1) (tn 122 st) e (tn 122 s26) (s26 149 5) i) ∧ RDc s26) ∨ ((1 : Int) = 0 ∧ ((¬ ∃ (i : Nat) (e : Int), i < 26 ∧ tk (ctx st) (st 1 1) (st 149 5) 1 (owv i) e) ∨ ∃ (i : Nat) (e : Int), i < 26 ∧ tk (ctx st) (st 1 1) (st 149 5) 1 (owv i) e ∧ sF (ctx st) (st 1 1) (tn 122 st) e i)) from (by
            have hT : ctx s25 = ctx st ∧ s25 1 1 = st 1 1 := ⟨by unfold ctx; funext j; rw [fs25 2 _ rfl rfl], fs25 1 1 rfl rfl⟩
            have hn : tn 122 s25 = tn 122 st := tn_fr (x := 122) rfl fs25
            have z : bTh (ctx s25) (s25 1 1) (tn 122 s25) (s25 149 5) (tn 122 s26) (s26 149 5) := b26
            rw [hT.1, hT.2, hn] at z
            exact Or.inl ⟨rfl, ⟨6, s25 149 5, by omega, (nx_ow 6 rd ow nx25 (by omega) (by omega) rfl), z⟩, rd26⟩))⟩
          · refine ⟨fun h144 => ?_, fun h144 => (by exfalso; omega)⟩
            refine ⟨by omega, ?_⟩
            exact hQ _ _ ⟨gs26, (fr_tr (fr_tr (fr_rf _ _) fs25 rfl) fs26 rfl), (show ((0 : Int) = 1 ∧ (∃ (i : Nat) (e : Int), i < 26 ∧ tk (ctx st) (st 1 1) (st 149 5) 1 (owv i) e ∧ sB (ctx st) (st 1 1) (tn 122 st) e (tn 122 s26) (s26 149 5) i) ∧ RDc s26) ∨ ((0 : Int) = 0 ∧ ((¬ ∃ (i : Nat) (e : Int), i < 26 ∧ tk (ctx st) (st 1 1) (st 149 5) 1 (owv i) e) ∨ ∃ (i : Nat) (e : Int), i < 26 ∧ tk (ctx st) (st 1 1) (st 149 5) 1 (owv i) e ∧ sF (ctx st) (st 1 1) (tn 122 st) e i)) from (by
            have hT : ctx s25 = ctx st ∧ s25 1 1 = st 1 1 := ⟨by unfold ctx; funext j; rw [fs25 2 _ rfl rfl], fs25 1 1 rfl rfl⟩
            have hn : tn 122 s25 = tn 122 st := tn_fr (x := 122) rfl fs25
            have z : ¬ ∃ (T' : zS) (q : Int), bTh (ctx s25) (s25 1 1) (tn 122 s25) (s25 149 5) T' q := l26
            rw [hT.1, hT.2, hn] at z
            exact Or.inr ⟨rfl, Or.inr ⟨6, s25 149 5, by omega, (nx_ow 6 rd ow nx25 (by omega) (by omega) rfl), z⟩⟩))⟩
        · refine ⟨fun h145 => ?_, fun h145 => (by exfalso; omega)⟩
          refine ⟨by omega, ?_⟩
          have g146 := g_wStart gs25
          exact hQ _ _ ⟨gs25, (fr_tr (fr_rf _ _) fs25 rfl), (show ((0 : Int) = 1 ∧ (∃ (i : Nat) (e : Int), i < 26 ∧ tk (ctx st) (st 1 1) (st 149 5) 1 (owv i) e ∧ sB (ctx st) (st 1 1) (tn 122 st) e (tn 122 s25) (s25 149 5) i) ∧ RDc s25) ∨ ((0 : Int) = 0 ∧ ((¬ ∃ (i : Nat) (e : Int), i < 26 ∧ tk (ctx st) (st 1 1) (st 149 5) 1 (owv i) e) ∨ ∃ (i : Nat) (e : Int), i < 26 ∧ tk (ctx st) (st 1 1) (st 149 5) 1 (owv i) e ∧ sF (ctx st) (st 1 1) (tn 122 st) e i)) from (by
            obtain ⟨hv, e, he⟩ := own_tk rd ow (by omega)
            rw [show (st 149 4).toNat = 6 by omega] at he
            exact Or.inr ⟨rfl, Or.inr ⟨6, e, by omega, he, fun hx => by
              obtain ⟨T', q, hb⟩ := hx
              have hb : bTh (ctx st) (st 1 1) (tn 122 st) e T' q := hb
              have hz : st 122 8 < 8 := hb.1
              omega⟩⟩))⟩
    · have g147 := g_wSpot hG
      refine ⟨rfl, hG, ?_⟩
      refine ⟨by omega, ?_⟩
      exact hQ _ _ ⟨(gInv_up (gInv_up hG (p_rFault (by omega))) (p_rFaultAt (by omega))), (fr_f (fr_f (fr_rf _ _) rfl) rfl), (show ((0 : Int) = 1 ∧ (∃ (i : Nat) (e : Int), i < 26 ∧ tk (ctx st) (st 1 1) (st 149 5) 1 (owv i) e ∧ sB (ctx st) (st 1 1) (tn 122 st) e (tn 122 (zup (zup st 148 3 1) 148 4 (st 149 6))) (st 149 5) i) ∧ RDc (zup (zup st 148 3 1) 148 4 (st 149 6))) ∨ ((0 : Int) = 0 ∧ ((¬ ∃ (i : Nat) (e : Int), i < 26 ∧ tk (ctx st) (st 1 1) (st 149 5) 1 (owv i) e) ∨ ∃ (i : Nat) (e : Int), i < 26 ∧ tk (ctx st) (st 1 1) (st 149 5) 1 (owv i) e ∧ sF (ctx st) (st 1 1) (tn 122 st) e i)) from (by
            obtain ⟨hv, e, he⟩ := own_tk rd ow (by omega)
            exact Or.inr ⟨rfl, Or.inr ⟨(st 149 4).toNat, e, by omega, he, sF_o (by omega)⟩⟩))⟩
    · have g148 := g_wSpot hG
      refine ⟨rfl, hG, ?_⟩
      refine ⟨by omega, ?_⟩
      exact hQ _ _ ⟨(gInv_up (gInv_up hG (p_rFault (by omega))) (p_rFaultAt (by omega))), (fr_f (fr_f (fr_rf _ _) rfl) rfl), (show ((0 : Int) = 1 ∧ (∃ (i : Nat) (e : Int), i < 26 ∧ tk (ctx st) (st 1 1) (st 149 5) 1 (owv i) e ∧ sB (ctx st) (st 1 1) (tn 122 st) e (tn 122 (zup (zup st 148 3 1) 148 4 (st 149 6))) (st 149 5) i) ∧ RDc (zup (zup st 148 3 1) 148 4 (st 149 6))) ∨ ((0 : Int) = 0 ∧ ((¬ ∃ (i : Nat) (e : Int), i < 26 ∧ tk (ctx st) (st 1 1) (st 149 5) 1 (owv i) e) ∨ ∃ (i : Nat) (e : Int), i < 26 ∧ tk (ctx st) (st 1 1) (st 149 5) 1 (owv i) e ∧ sF (ctx st) (st 1 1) (tn 122 st) e i)) from (by
            obtain ⟨hv, e, he⟩ := own_tk rd ow (by omega)
            exact Or.inr ⟨rfl, Or.inr ⟨(st 149 4).toNat, e, by omega, he, sF_o (by omega)⟩⟩))⟩
    · refine ⟨by omega, ?_⟩
      refine ⟨rfl, fun r29 q29 => ?_⟩
      have b29 := q29
      change (r29 = 0 ∨ r29 = 1) ∧ (r29 = 1 ↔ ¬ st 122 17 = -1) at b29
      have g149 := g_f122_17 hG
      refine ⟨fun h150 => ?_, fun h150 => ?_⟩
      · refine ⟨rfl, ⟨hG, (show RDc st from rd), (show ((0) = 0 ∨ (0) = 1) ∧ 1 ≤ st 149 3 ∧ st 149 3 ≤ 4 from by omega)⟩, fun r30 s30 q30 => ?_⟩
        obtain ⟨gs30, fs30, o30⟩ := q30
        change (r30 = 1 ∧ (0) = 1 ∧ RDc s30 ∧ NX st s30) ∨ (r30 = 0 ∧ (0) = 0) at o30
        rcases o30 with ⟨y30, k30, rd30, nx30⟩ | ⟨y30, k30⟩
        · refine ⟨fun h151 => (by exfalso; omega), fun h151 => ?_⟩
          have e152 : s30 148 1 = st 148 1 := fs30 148 1 rfl rfl
          refine ⟨rfl, ⟨gs30, (show (0) = 0 ∨ (0) = 1 from by omega), (show s30 148 1 = 122 from by omega)⟩, fun r31 s31 q31 => ?_⟩
          obtain ⟨gs31, fs31, e31, v31, w31⟩ := q31
          change r31 = 1 at e31
          change s31 148 2 = (0) at v31
          have g153 := g_f148_2 gs31
          change ((0) = 0 → s31 122 17 = s30 122 16 ∧ s31 122 18 = s30 122 18) ∧ ((0) = 1 → s31 122 18 = s30 122 16 ∧ s31 122 17 = s30 122 17) at w31
          have g154 := g_f122_17 gs31
          have e155 : s30 122 16 = st 122 16 := fs30 122 16 rfl rfl
          have g156 := g_f122_18 gs31
          have g158 := g_f122_18 hG
          have e157 : s30 122 18 = st 122 18 := fs30 122 18 rfl rfl
          have e159 : s30 122 17 = st 122 17 := fs30 122 17 rfl rfl
          refine ⟨fun h160 => ?_, fun h160 => ?_⟩
          · refine ⟨by omega, ?_⟩
            have g162 := g_wStart gs30
            have e161 : s31 149 5 = s30 149 5 := fs31 149 5 rfl rfl
            exact hQ _ _ ⟨gs31, (fr_tr (fr_tr (fr_rf _ _) fs30 rfl) fs31 rfl), (show ((0 : Int) = 1 ∧ (∃ (i : Nat) (e : Int), i < 26 ∧ tk (ctx st) (st 1 1) (st 149 5) 1 (owv i) e ∧ sB (ctx st) (st 1 1) (tn 122 st) e (tn 122 s31) (s31 149 5) i) ∧ RDc s31) ∨ ((0 : Int) = 0 ∧ ((¬ ∃ (i : Nat) (e : Int), i < 26 ∧ tk (ctx st) (st 1 1) (st 149 5) 1 (owv i) e) ∨ ∃ (i : Nat) (e : Int), i < 26 ∧ tk (ctx st) (st 1 1) (st 149 5) 1 (owv i) e ∧ sF (ctx st) (st 1 1) (tn 122 st) e i)) from (by exfalso; omega))⟩
          · have e163 : s31 148 1 = s30 148 1 := fs31 148 1 rfl rfl
            have e164 : s31 122 16 = s30 122 16 := fs31 122 16 rfl rfl
            have g166 := g_wStart gs30
            have e165 : s31 149 5 = s30 149 5 := fs31 149 5 rfl rfl
            refine ⟨rfl, ⟨gs31, (show RDc s31 from (RDc_of (fun i => fs31 2 i rfl rfl) (fs31 1 1 rfl rfl) (fs31 149 2 rfl rfl) (fs31 149 3 rfl rfl) (fs31 149 4 rfl rfl) (fs31 149 5 rfl rfl) (fun i => fs31 150 i rfl rfl) rd30)), (show cOW s31 from (fun i hi => ((show aFr m_cStatementA st s31 from (fr_tr (fr_tr (fr_rf _ _) fs30 rfl) fs31 rfl)) 150 i rfl rfl).trans (ow i hi))), (show s31 148 1 = 122 from by omega), (show s31 122 16 + 1 ≤ s31 149 5 from by have zt30 := tk_lt (nx_own rd ow nx30 (by omega)).2 rd.1.1 (by omega); omega), (show 4 + 12 * (7 - (0)) ≤ (100 : Int) from by omega), (show 0 ≤ (0) ∧ (0) ≤ 7 from by omega)⟩, fun r32 s32 q32 => ?_⟩
            obtain ⟨gs32, fs32, o32⟩ := q32
            change (r32 = 1 ∧ ∃ c : List Int, GrS s31 0 (0) (s31 149 5) (s32 149 5) c ∧ RDc s32 ∧ CDA (s31 122 16) (s32 122 16) (s31 134) (s32 134) c) ∨ (r32 = 0 ∧ FlS s31 0 (0) (s31 149 5)) at o32
            have g167 := g_wStart gs32
            have g168 := g_f122_16 gs32
            rcases o32 with ⟨y32, c32, g32, rd32, cd32⟩ | ⟨y32, l32⟩
            · have gl32 := Gr_len g32 (RDc_of (fun i => fs31 2 i rfl rfl) (fs31 1 1 rfl rfl) (fs31 149 2 rfl rfl) (fs31 149 3 rfl rfl) (fs31 149 4 rfl rfl) (fs31 149 5 rfl rfl) (fun i => fs31 150 i rfl rfl) rd30).1.1
              have cn32 := cd32.2.1
              have rb32 := rd32.1
              have rt32 := g_tsize gs32
              refine ⟨fun h169 => (by exfalso; omega), fun h169 => ?_⟩
              have e170 : s32 148 1 = s31 148 1 := fs32 148 1 rfl rfl
              refine ⟨rfl, ⟨gs32, (show s32 148 1 = 122 from by omega), (show s32 122 16 ≤ 1599 from by have zt30 := tk_lt (nx_own rd ow nx30 (by omega)).2 rd.1.1 (by omega); omega)⟩, fun r33 s33 q33 => ?_⟩
              obtain ⟨gs33, fs33, e33, cc33, cf33⟩ := q33
              change r33 = 1 at e33
              change s33 122 16 = s32 122 16 + 1 at cc33
              have g171 := g_f122_16 gs33
              change (s33 134) = up1 (s32 134) (s32 122 16).toNat 13238272 at cf33
              refine ⟨fun h172 => ?_, fun h172 => ?_⟩
              · refine ⟨by omega, ?_⟩
                have e173 : s33 149 5 = s32 149 5 := fs33 149 5 rfl rfl
                exact hQ _ _ ⟨gs33, (fr_tr (fr_tr (fr_tr (fr_tr (fr_rf _ _) fs30 rfl) fs31 rfl) fs32 rfl) fs33 rfl), (show ((0 : Int) = 1 ∧ (∃ (i : Nat) (e : Int), i < 26 ∧ tk (ctx st) (st 1 1) (st 149 5) 1 (owv i) e ∧ sB (ctx st) (st 1 1) (tn 122 st) e (tn 122 s33) (s33 149 5) i) ∧ RDc s33) ∨ ((0 : Int) = 0 ∧ ((¬ ∃ (i : Nat) (e : Int), i < 26 ∧ tk (ctx st) (st 1 1) (st 149 5) 1 (owv i) e) ∨ ∃ (i : Nat) (e : Int), i < 26 ∧ tk (ctx st) (st 1 1) (st 149 5) 1 (owv i) e ∧ sF (ctx st) (st 1 1) (tn 122 st) e i)) from (by exfalso; omega))⟩
              · refine ⟨by omega, ?_⟩
                have e174 : s33 149 5 = s32 149 5 := fs33 149 5 rfl rfl
                exact hQ _ _ ⟨gs33, (fr_tr (fr_tr (fr_tr (fr_tr (fr_rf _ _) fs30 rfl) fs31 rfl) fs32 rfl) fs33 rfl), (show ((1 : Int) = 1 ∧ (∃ (i : Nat) (e : Int), i < 26 ∧ tk (ctx st) (st 1 1) (st 149 5) 1 (owv i) e ∧ sB (ctx st) (st 1 1) (tn 122 st) e (tn 122 s33) (s33 149 5) i) ∧ RDc s33) ∨ ((1 : Int) = 0 ∧ ((¬ ∃ (i : Nat) (e : Int), i < 26 ∧ tk (ctx st) (st 1 1) (st 149 5) 1 (owv i) e) ∨ ∃ (i : Nat) (e : Int), i < 26 ∧ tk (ctx st) (st 1 1) (st 149 5) 1 (owv i) e ∧ sF (ctx st) (st 1 1) (tn 122 st) e i)) from (by
            have hT : ctx s30 = ctx st ∧ s30 1 1 = st 1 1 := ⟨by unfold ctx; funext j; rw [fs30 2 _ rfl rfl], fs30 1 1 rfl rfl⟩
            have hn : tn 122 s30 = tn 122 st := tn_fr (x := 122) rfl fs30
            have hc : ctx s31 = ctx st := by unfold ctx; funext j; rw [fs31 2 _ rfl rfl, fs30 2 _ rfl rfl]
            have h11 : s31 1 1 = st 1 1 := (fs31 1 1 rfl rfl).trans (fs30 1 1 rfl rfl)
            have h5 : s31 149 5 = s30 149 5 := fs31 149 5 rfl rfl
            have z := g32
            unfold GrS at z
            rw [hc, h11, v31, h5] at z
            have q5 : s33 149 5 = s32 149 5 := fs33 149 5 rfl rfl
            have a0 : s31 122 16 = st 122 16 := (fs31 122 16 rfl rfl).trans (fs30 122 16 rfl rfl)
            have a1 : s31 134 = st 134 := funext (fun i => (fs31 134 i rfl rfl).trans (fs30 134 i rfl rfl))
            have cd : CDA (s31 122 16) (s32 122 16) (s31 134) (s32 134) c32 := cd32
            rw [a0, a1] at cd
            have cf : s33 134 = up1 (s32 134) (s32 122 16).toNat 13238272 := cf33
            have oth : ∀ c i : Nat, ¬ c = 12 → ¬ (c = 0 ∧ (i = 17 ∨ i = 16)) → tn 122 s33 c i = tn 122 st c i := by
              intro c i h1 h2
              unfold tn
              split
              · rename_i hc
                rw [mrd_fr (x := 122) (f := 17) rfl fs33 c i hc h1 h2, mrd_fr (x := 122) (f := 17) rfl fs32 c i hc h1 h2]
                by_cases hq : c = 0 ∧ i = 18
                · obtain ⟨rfl, rfl⟩ := hq
                  show s31 122 18 = st 122 18
                  have z1 := fs30 122 18 rfl rfl
                  have z2 := w31
                  omega
                · rw [mrg_fr (x := 122) (f := 17) (g := 18) rfl fs31 c i hc h1 (by omega)]
                  exact fr_out (a := 122) (b := 134) rfl fs30 _ _ (by omega) (by omega)
              · rfl
            refine Or.inl ⟨rfl, ⟨9, s30 149 5, by omega, (nx_ow 9 rd ow nx30 (by omega) (by omega) rfl), ?_⟩, (RDc_of (fun i => fs33 2 i rfl rfl) (fs33 1 1 rfl rfl) (fs33 149 2 rfl rfl) (fs33 149 3 rfl rfl) (fs33 149 4 rfl rfl) (fs33 149 5 rfl rfl) (fun i => fs33 150 i rfl rfl) rd32)⟩
            show bRd (ctx st) (st 1 1) (tn 122 st) (s30 149 5) (tn 122 s33) (s33 149 5) 17 ((0 : Int) = 1) 0
            refine ⟨show st 122 17 = -1 from by omega, c32, s32 122 16, by rw [q5]; exact z, ?_, ?_, ?_, ?_, oth⟩
            · show CDA (st 122 16) (s32 122 16) (st 134) (s33 134) c32
              rw [cf]
              exact CDA_up cd _
            · show s33 134 (s32 122 16).toNat = 13238272
              rw [cf, up1_e]
            · show s33 122 17 = st 122 16
              have z1 : s33 122 17 = s32 122 17 := fs33 122 17 rfl rfl
              have z2 : s32 122 17 = s31 122 17 := fs32 122 17 rfl rfl
              have z3 : s30 122 16 = st 122 16 := fs30 122 16 rfl rfl
              have z4 := w31
              omega
            · show s33 122 16 = s32 122 16 + 1
              omega))⟩
            · refine ⟨fun h175 => ?_, fun h175 => (by exfalso; omega)⟩
              refine ⟨by omega, ?_⟩
              exact hQ _ _ ⟨gs32, (fr_tr (fr_tr (fr_tr (fr_rf _ _) fs30 rfl) fs31 rfl) fs32 rfl), (show ((0 : Int) = 1 ∧ (∃ (i : Nat) (e : Int), i < 26 ∧ tk (ctx st) (st 1 1) (st 149 5) 1 (owv i) e ∧ sB (ctx st) (st 1 1) (tn 122 st) e (tn 122 s32) (s32 149 5) i) ∧ RDc s32) ∨ ((0 : Int) = 0 ∧ ((¬ ∃ (i : Nat) (e : Int), i < 26 ∧ tk (ctx st) (st 1 1) (st 149 5) 1 (owv i) e) ∨ ∃ (i : Nat) (e : Int), i < 26 ∧ tk (ctx st) (st 1 1) (st 149 5) 1 (owv i) e ∧ sF (ctx st) (st 1 1) (tn 122 st) e i)) from (by
            have hT : ctx s30 = ctx st ∧ s30 1 1 = st 1 1 := ⟨by unfold ctx; funext j; rw [fs30 2 _ rfl rfl], fs30 1 1 rfl rfl⟩
            have hn : tn 122 s30 = tn 122 st := tn_fr (x := 122) rfl fs30
            have hc : ctx s31 = ctx st := by unfold ctx; funext j; rw [fs31 2 _ rfl rfl, fs30 2 _ rfl rfl]
            have h11 : s31 1 1 = st 1 1 := (fs31 1 1 rfl rfl).trans (fs30 1 1 rfl rfl)
            have h5 : s31 149 5 = s30 149 5 := fs31 149 5 rfl rfl
            have z := l32
            unfold FlS at z
            rw [hc, h11, v31, h5] at z
            exact Or.inr ⟨rfl, Or.inr ⟨9, s30 149 5, by omega, (nx_ow 9 rd ow nx30 (by omega) (by omega) rfl), Or.inr z⟩⟩))⟩
        · refine ⟨fun h176 => ?_, fun h176 => (by exfalso; omega)⟩
          refine ⟨by omega, ?_⟩
          have g177 := g_wStart gs30
          exact hQ _ _ ⟨gs30, (fr_tr (fr_rf _ _) fs30 rfl), (show ((0 : Int) = 1 ∧ (∃ (i : Nat) (e : Int), i < 26 ∧ tk (ctx st) (st 1 1) (st 149 5) 1 (owv i) e ∧ sB (ctx st) (st 1 1) (tn 122 st) e (tn 122 s30) (s30 149 5) i) ∧ RDc s30) ∨ ((0 : Int) = 0 ∧ ((¬ ∃ (i : Nat) (e : Int), i < 26 ∧ tk (ctx st) (st 1 1) (st 149 5) 1 (owv i) e) ∨ ∃ (i : Nat) (e : Int), i < 26 ∧ tk (ctx st) (st 1 1) (st 149 5) 1 (owv i) e ∧ sF (ctx st) (st 1 1) (tn 122 st) e i)) from (by
            obtain ⟨hv, e, he⟩ := own_tk rd ow (by omega)
            rw [show (st 149 4).toNat = 9 by omega] at he
            exact Or.inr ⟨rfl, Or.inr ⟨9, e, by omega, he, Or.inl (show ¬ st 122 17 = -1 from by omega)⟩⟩))⟩
      · refine ⟨rfl, ⟨hG, (show RDc st from rd), (show ((1) = 0 ∨ (1) = 1) ∧ 1 ≤ st 149 3 ∧ st 149 3 ≤ 4 from by omega)⟩, fun r34 s34 q34 => ?_⟩
        obtain ⟨gs34, fs34, o34⟩ := q34
        change (r34 = 1 ∧ (1) = 1 ∧ RDc s34 ∧ NX st s34) ∨ (r34 = 0 ∧ (1) = 0) at o34
        rcases o34 with ⟨y34, k34, rd34, nx34⟩ | ⟨y34, k34⟩
        · refine ⟨fun h178 => (by exfalso; omega), fun h178 => ?_⟩
          have e179 : s34 148 1 = st 148 1 := fs34 148 1 rfl rfl
          refine ⟨rfl, ⟨gs34, (show (0) = 0 ∨ (0) = 1 from by omega), (show s34 148 1 = 122 from by omega)⟩, fun r35 s35 q35 => ?_⟩
          obtain ⟨gs35, fs35, e35, v35, w35⟩ := q35
          change r35 = 1 at e35
          change s35 148 2 = (0) at v35
          have g180 := g_f148_2 gs35
          change ((0) = 0 → s35 122 17 = s34 122 16 ∧ s35 122 18 = s34 122 18) ∧ ((0) = 1 → s35 122 18 = s34 122 16 ∧ s35 122 17 = s34 122 17) at w35
          have g181 := g_f122_17 gs35
          have e182 : s34 122 16 = st 122 16 := fs34 122 16 rfl rfl
          have g183 := g_f122_18 gs35
          have g185 := g_f122_18 hG
          have e184 : s34 122 18 = st 122 18 := fs34 122 18 rfl rfl
          have e186 : s34 122 17 = st 122 17 := fs34 122 17 rfl rfl
          refine ⟨fun h187 => ?_, fun h187 => ?_⟩
          · refine ⟨by omega, ?_⟩
            have g189 := g_wStart gs34
            have e188 : s35 149 5 = s34 149 5 := fs35 149 5 rfl rfl
            exact hQ _ _ ⟨gs35, (fr_tr (fr_tr (fr_rf _ _) fs34 rfl) fs35 rfl), (show ((0 : Int) = 1 ∧ (∃ (i : Nat) (e : Int), i < 26 ∧ tk (ctx st) (st 1 1) (st 149 5) 1 (owv i) e ∧ sB (ctx st) (st 1 1) (tn 122 st) e (tn 122 s35) (s35 149 5) i) ∧ RDc s35) ∨ ((0 : Int) = 0 ∧ ((¬ ∃ (i : Nat) (e : Int), i < 26 ∧ tk (ctx st) (st 1 1) (st 149 5) 1 (owv i) e) ∨ ∃ (i : Nat) (e : Int), i < 26 ∧ tk (ctx st) (st 1 1) (st 149 5) 1 (owv i) e ∧ sF (ctx st) (st 1 1) (tn 122 st) e i)) from (by exfalso; omega))⟩
          · have e190 : s35 148 1 = s34 148 1 := fs35 148 1 rfl rfl
            have e191 : s35 122 16 = s34 122 16 := fs35 122 16 rfl rfl
            have g193 := g_wStart gs34
            have e192 : s35 149 5 = s34 149 5 := fs35 149 5 rfl rfl
            refine ⟨rfl, ⟨gs35, (show RDc s35 from (RDc_of (fun i => fs35 2 i rfl rfl) (fs35 1 1 rfl rfl) (fs35 149 2 rfl rfl) (fs35 149 3 rfl rfl) (fs35 149 4 rfl rfl) (fs35 149 5 rfl rfl) (fun i => fs35 150 i rfl rfl) rd34)), (show cOW s35 from (fun i hi => ((show aFr m_cStatementA st s35 from (fr_tr (fr_tr (fr_rf _ _) fs34 rfl) fs35 rfl)) 150 i rfl rfl).trans (ow i hi))), (show s35 148 1 = 122 from by omega), (show s35 122 16 + 1 ≤ s35 149 5 from by have zt34 := tk_lt (nx_own rd ow nx34 (by omega)).2 rd.1.1 (by omega); omega), (show 4 + 12 * (7 - (0)) ≤ (100 : Int) from by omega), (show 0 ≤ (0) ∧ (0) ≤ 7 from by omega)⟩, fun r36 s36 q36 => ?_⟩
            obtain ⟨gs36, fs36, o36⟩ := q36
            change (r36 = 1 ∧ ∃ c : List Int, GrS s35 0 (0) (s35 149 5) (s36 149 5) c ∧ RDc s36 ∧ CDA (s35 122 16) (s36 122 16) (s35 134) (s36 134) c) ∨ (r36 = 0 ∧ FlS s35 0 (0) (s35 149 5)) at o36
            have g194 := g_wStart gs36
            have g195 := g_f122_16 gs36
            rcases o36 with ⟨y36, c36, g36, rd36, cd36⟩ | ⟨y36, l36⟩
            · have gl36 := Gr_len g36 (RDc_of (fun i => fs35 2 i rfl rfl) (fs35 1 1 rfl rfl) (fs35 149 2 rfl rfl) (fs35 149 3 rfl rfl) (fs35 149 4 rfl rfl) (fs35 149 5 rfl rfl) (fun i => fs35 150 i rfl rfl) rd34).1.1
              have cn36 := cd36.2.1
              have rb36 := rd36.1
              have rt36 := g_tsize gs36
              refine ⟨fun h196 => (by exfalso; omega), fun h196 => ?_⟩
              have e197 : s36 148 1 = s35 148 1 := fs36 148 1 rfl rfl
              refine ⟨rfl, ⟨gs36, (show s36 148 1 = 122 from by omega), (show s36 122 16 ≤ 1599 from by have zt34 := tk_lt (nx_own rd ow nx34 (by omega)).2 rd.1.1 (by omega); omega)⟩, fun r37 s37 q37 => ?_⟩
              obtain ⟨gs37, fs37, e37, cc37, cf37⟩ := q37
              change r37 = 1 at e37
              change s37 122 16 = s36 122 16 + 1 at cc37
              have g198 := g_f122_16 gs37
              change (s37 134) = up1 (s36 134) (s36 122 16).toNat 13238272 at cf37
              refine ⟨fun h199 => ?_, fun h199 => ?_⟩
              · refine ⟨by omega, ?_⟩
                have e200 : s37 149 5 = s36 149 5 := fs37 149 5 rfl rfl
                exact hQ _ _ ⟨gs37, (fr_tr (fr_tr (fr_tr (fr_tr (fr_rf _ _) fs34 rfl) fs35 rfl) fs36 rfl) fs37 rfl), (show ((0 : Int) = 1 ∧ (∃ (i : Nat) (e : Int), i < 26 ∧ tk (ctx st) (st 1 1) (st 149 5) 1 (owv i) e ∧ sB (ctx st) (st 1 1) (tn 122 st) e (tn 122 s37) (s37 149 5) i) ∧ RDc s37) ∨ ((0 : Int) = 0 ∧ ((¬ ∃ (i : Nat) (e : Int), i < 26 ∧ tk (ctx st) (st 1 1) (st 149 5) 1 (owv i) e) ∨ ∃ (i : Nat) (e : Int), i < 26 ∧ tk (ctx st) (st 1 1) (st 149 5) 1 (owv i) e ∧ sF (ctx st) (st 1 1) (tn 122 st) e i)) from (by exfalso; omega))⟩
              · refine ⟨by omega, ?_⟩
                have e201 : s37 149 5 = s36 149 5 := fs37 149 5 rfl rfl
                exact hQ _ _ ⟨gs37, (fr_tr (fr_tr (fr_tr (fr_tr (fr_rf _ _) fs34 rfl) fs35 rfl) fs36 rfl) fs37 rfl), (show ((1 : Int) = 1 ∧ (∃ (i : Nat) (e : Int), i < 26 ∧ tk (ctx st) (st 1 1) (st 149 5) 1 (owv i) e ∧ sB (ctx st) (st 1 1) (tn 122 st) e (tn 122 s37) (s37 149 5) i) ∧ RDc s37) ∨ ((1 : Int) = 0 ∧ ((¬ ∃ (i : Nat) (e : Int), i < 26 ∧ tk (ctx st) (st 1 1) (st 149 5) 1 (owv i) e) ∨ ∃ (i : Nat) (e : Int), i < 26 ∧ tk (ctx st) (st 1 1) (st 149 5) 1 (owv i) e ∧ sF (ctx st) (st 1 1) (tn 122 st) e i)) from (by
            have hT : ctx s34 = ctx st ∧ s34 1 1 = st 1 1 := ⟨by unfold ctx; funext j; rw [fs34 2 _ rfl rfl], fs34 1 1 rfl rfl⟩
            have hn : tn 122 s34 = tn 122 st := tn_fr (x := 122) rfl fs34
            have hc : ctx s35 = ctx st := by unfold ctx; funext j; rw [fs35 2 _ rfl rfl, fs34 2 _ rfl rfl]
            have h11 : s35 1 1 = st 1 1 := (fs35 1 1 rfl rfl).trans (fs34 1 1 rfl rfl)
            have h5 : s35 149 5 = s34 149 5 := fs35 149 5 rfl rfl
            have z := g36
            unfold GrS at z
            rw [hc, h11, v35, h5] at z
            have q5 : s37 149 5 = s36 149 5 := fs37 149 5 rfl rfl
            have a0 : s35 122 16 = st 122 16 := (fs35 122 16 rfl rfl).trans (fs34 122 16 rfl rfl)
            have a1 : s35 134 = st 134 := funext (fun i => (fs35 134 i rfl rfl).trans (fs34 134 i rfl rfl))
            have cd : CDA (s35 122 16) (s36 122 16) (s35 134) (s36 134) c36 := cd36
            rw [a0, a1] at cd
            have cf : s37 134 = up1 (s36 134) (s36 122 16).toNat 13238272 := cf37
            have oth : ∀ c i : Nat, ¬ c = 12 → ¬ (c = 0 ∧ (i = 17 ∨ i = 16)) → tn 122 s37 c i = tn 122 st c i := by
              intro c i h1 h2
              unfold tn
              split
              · rename_i hc
                rw [mrd_fr (x := 122) (f := 17) rfl fs37 c i hc h1 h2, mrd_fr (x := 122) (f := 17) rfl fs36 c i hc h1 h2]
                by_cases hq : c = 0 ∧ i = 18
                · obtain ⟨rfl, rfl⟩ := hq
                  show s35 122 18 = st 122 18
                  have z1 := fs34 122 18 rfl rfl
                  have z2 := w35
                  omega
                · rw [mrg_fr (x := 122) (f := 17) (g := 18) rfl fs35 c i hc h1 (by omega)]
                  exact fr_out (a := 122) (b := 134) rfl fs34 _ _ (by omega) (by omega)
              · rfl
            refine Or.inl ⟨rfl, ⟨9, s34 149 5, by omega, (nx_ow 9 rd ow nx34 (by omega) (by omega) rfl), ?_⟩, (RDc_of (fun i => fs37 2 i rfl rfl) (fs37 1 1 rfl rfl) (fs37 149 2 rfl rfl) (fs37 149 3 rfl rfl) (fs37 149 4 rfl rfl) (fs37 149 5 rfl rfl) (fun i => fs37 150 i rfl rfl) rd36)⟩
            show bRd (ctx st) (st 1 1) (tn 122 st) (s34 149 5) (tn 122 s37) (s37 149 5) 17 ((0 : Int) = 1) 0
            refine ⟨show st 122 17 = -1 from by omega, c36, s36 122 16, by rw [q5]; exact z, ?_, ?_, ?_, ?_, oth⟩
            · show CDA (st 122 16) (s36 122 16) (st 134) (s37 134) c36
              rw [cf]
              exact CDA_up cd _
            · show s37 134 (s36 122 16).toNat = 13238272
              rw [cf, up1_e]
            · show s37 122 17 = st 122 16
              have z1 : s37 122 17 = s36 122 17 := fs37 122 17 rfl rfl
              have z2 : s36 122 17 = s35 122 17 := fs36 122 17 rfl rfl
              have z3 : s34 122 16 = st 122 16 := fs34 122 16 rfl rfl
              have z4 := w35
              omega
            · show s37 122 16 = s36 122 16 + 1
              omega))⟩
            · refine ⟨fun h202 => ?_, fun h202 => (by exfalso; omega)⟩
              refine ⟨by omega, ?_⟩
              exact hQ _ _ ⟨gs36, (fr_tr (fr_tr (fr_tr (fr_rf _ _) fs34 rfl) fs35 rfl) fs36 rfl), (show ((0 : Int) = 1 ∧ (∃ (i : Nat) (e : Int), i < 26 ∧ tk (ctx st) (st 1 1) (st 149 5) 1 (owv i) e ∧ sB (ctx st) (st 1 1) (tn 122 st) e (tn 122 s36) (s36 149 5) i) ∧ RDc s36) ∨ ((0 : Int) = 0 ∧ ((¬ ∃ (i : Nat) (e : Int), i < 26 ∧ tk (ctx st) (st 1 1) (st 149 5) 1 (owv i) e) ∨ ∃ (i : Nat) (e : Int), i < 26 ∧ tk (ctx st) (st 1 1) (st 149 5) 1 (owv i) e ∧ sF (ctx st) (st 1 1) (tn 122 st) e i)) from (by
            have hT : ctx s34 = ctx st ∧ s34 1 1 = st 1 1 := ⟨by unfold ctx; funext j; rw [fs34 2 _ rfl rfl], fs34 1 1 rfl rfl⟩
            have hn : tn 122 s34 = tn 122 st := tn_fr (x := 122) rfl fs34
            have hc : ctx s35 = ctx st := by unfold ctx; funext j; rw [fs35 2 _ rfl rfl, fs34 2 _ rfl rfl]
            have h11 : s35 1 1 = st 1 1 := (fs35 1 1 rfl rfl).trans (fs34 1 1 rfl rfl)
            have h5 : s35 149 5 = s34 149 5 := fs35 149 5 rfl rfl
            have z := l36
            unfold FlS at z
            rw [hc, h11, v35, h5] at z
            exact Or.inr ⟨rfl, Or.inr ⟨9, s34 149 5, by omega, (nx_ow 9 rd ow nx34 (by omega) (by omega) rfl), Or.inr z⟩⟩))⟩
        · refine ⟨fun h203 => ?_, fun h203 => (by exfalso; omega)⟩
          refine ⟨by omega, ?_⟩
          have g204 := g_wStart gs34
          exact hQ _ _ ⟨gs34, (fr_tr (fr_rf _ _) fs34 rfl), (show ((0 : Int) = 1 ∧ (∃ (i : Nat) (e : Int), i < 26 ∧ tk (ctx st) (st 1 1) (st 149 5) 1 (owv i) e ∧ sB (ctx st) (st 1 1) (tn 122 st) e (tn 122 s34) (s34 149 5) i) ∧ RDc s34) ∨ ((0 : Int) = 0 ∧ ((¬ ∃ (i : Nat) (e : Int), i < 26 ∧ tk (ctx st) (st 1 1) (st 149 5) 1 (owv i) e) ∨ ∃ (i : Nat) (e : Int), i < 26 ∧ tk (ctx st) (st 1 1) (st 149 5) 1 (owv i) e ∧ sF (ctx st) (st 1 1) (tn 122 st) e i)) from (by
            obtain ⟨hv, e, he⟩ := own_tk rd ow (by omega)
            rw [show (st 149 4).toNat = 9 by omega] at he
            exact Or.inr ⟨rfl, Or.inr ⟨9, e, by omega, he, Or.inl (show ¬ st 122 17 = -1 from by omega)⟩⟩))⟩
    · refine ⟨by omega, ?_⟩
      refine ⟨rfl, fun r38 q38 => ?_⟩
      have b38 := q38
      change (r38 = 0 ∨ r38 = 1) ∧ (r38 = 1 ↔ ¬ st 122 18 = -1) at b38
      have g205 := g_f122_18 hG
      refine ⟨fun h206 => ?_, fun h206 => ?_⟩
      · refine ⟨rfl, ⟨hG, (show RDc st from rd), (show ((0) = 0 ∨ (0) = 1) ∧ 1 ≤ st 149 3 ∧ st 149 3 ≤ 4 from by omega)⟩, fun r39 s39 q39 => ?_⟩
        obtain ⟨gs39, fs39, o39⟩ := q39
        change (r39 = 1 ∧ (0) = 1 ∧ RDc s39 ∧ NX st s39) ∨ (r39 = 0 ∧ (0) = 0) at o39
        rcases o39 with ⟨y39, k39, rd39, nx39⟩ | ⟨y39, k39⟩
        · refine ⟨fun h207 => (by exfalso; omega), fun h207 => ?_⟩
          have e208 : s39 148 1 = st 148 1 := fs39 148 1 rfl rfl
          refine ⟨rfl, ⟨gs39, (show (1) = 0 ∨ (1) = 1 from by omega), (show s39 148 1 = 122 from by omega)⟩, fun r40 s40 q40 => ?_⟩
          obtain ⟨gs40, fs40, e40, v40, w40⟩ := q40
          change r40 = 1 at e40
          change s40 148 2 = (1) at v40
          have g209 := g_f148_2 gs40
          change ((1) = 0 → s40 122 17 = s39 122 16 ∧ s40 122 18 = s39 122 18) ∧ ((1) = 1 → s40 122 18 = s39 122 16 ∧ s40 122 17 = s39 122 17) at w40
          have g210 := g_f122_17 gs40
          have e211 : s39 122 16 = st 122 16 := fs39 122 16 rfl rfl
          have g212 := g_f122_18 gs40
          have e213 : s39 122 18 = st 122 18 := fs39 122 18 rfl rfl
          have g215 := g_f122_17 hG
          have e214 : s39 122 17 = st 122 17 := fs39 122 17 rfl rfl
          refine ⟨fun h216 => ?_, fun h216 => ?_⟩
          · refine ⟨by omega, ?_⟩
            have g218 := g_wStart gs39
            have e217 : s40 149 5 = s39 149 5 := fs40 149 5 rfl rfl
            exact hQ _ _ ⟨gs40, (fr_tr (fr_tr (fr_rf _ _) fs39 rfl) fs40 rfl), (show ((0 : Int) = 1 ∧ (∃ (i : Nat) (e : Int), i < 26 ∧ tk (ctx st) (st 1 1) (st 149 5) 1 (owv i) e ∧ sB (ctx st) (st 1 1) (tn 122 st) e (tn 122 s40) (s40 149 5) i) ∧ RDc s40) ∨ ((0 : Int) = 0 ∧ ((¬ ∃ (i : Nat) (e : Int), i < 26 ∧ tk (ctx st) (st 1 1) (st 149 5) 1 (owv i) e) ∨ ∃ (i : Nat) (e : Int), i < 26 ∧ tk (ctx st) (st 1 1) (st 149 5) 1 (owv i) e ∧ sF (ctx st) (st 1 1) (tn 122 st) e i)) from (by exfalso; omega))⟩
          · have e219 : s40 148 1 = s39 148 1 := fs40 148 1 rfl rfl
            have e220 : s40 122 16 = s39 122 16 := fs40 122 16 rfl rfl
            have g222 := g_wStart gs39
            have e221 : s40 149 5 = s39 149 5 := fs40 149 5 rfl rfl
            refine ⟨rfl, ⟨gs40, (show RDc s40 from (RDc_of (fun i => fs40 2 i rfl rfl) (fs40 1 1 rfl rfl) (fs40 149 2 rfl rfl) (fs40 149 3 rfl rfl) (fs40 149 4 rfl rfl) (fs40 149 5 rfl rfl) (fun i => fs40 150 i rfl rfl) rd39)), (show cOW s40 from (fun i hi => ((show aFr m_cStatementA st s40 from (fr_tr (fr_tr (fr_rf _ _) fs39 rfl) fs40 rfl)) 150 i rfl rfl).trans (ow i hi))), (show s40 148 1 = 122 from by omega), (show s40 122 16 + 1 ≤ s40 149 5 from by have zt39 := tk_lt (nx_own rd ow nx39 (by omega)).2 rd.1.1 (by omega); omega), (show 8 + 12 * (7 - (0)) ≤ (100 : Int) from by omega), (show 0 ≤ (0) ∧ (0) ≤ 7 from by omega)⟩, fun r41 s41 q41 => ?_⟩
            obtain ⟨gs41, fs41, o41⟩ := q41
            change (r41 = 1 ∧ ∃ c : List Int, GrS s40 5 (0) (s40 149 5) (s41 149 5) c ∧ RDc s41 ∧ CDA (s40 122 16) (s41 122 16) (s40 134) (s41 134) c) ∨ (r41 = 0 ∧ FlS s40 5 (0) (s40 149 5)) at o41
            have g223 := g_wStart gs41
            have g224 := g_f122_16 gs41
            rcases o41 with ⟨y41, c41, g41, rd41, cd41⟩ | ⟨y41, l41⟩
            · have gl41 := Gr_len g41 (RDc_of (fun i => fs40 2 i rfl rfl) (fs40 1 1 rfl rfl) (fs40 149 2 rfl rfl) (fs40 149 3 rfl rfl) (fs40 149 4 rfl rfl) (fs40 149 5 rfl rfl) (fun i => fs40 150 i rfl rfl) rd39).1.1
              have cn41 := cd41.2.1
              have rb41 := rd41.1
              have rt41 := g_tsize gs41
              refine ⟨fun h225 => (by exfalso; omega), fun h225 => ?_⟩
              have e226 : s41 148 1 = s40 148 1 := fs41 148 1 rfl rfl
              refine ⟨rfl, ⟨gs41, (show s41 148 1 = 122 from by omega), (show s41 122 16 ≤ 1599 from by have zt39 := tk_lt (nx_own rd ow nx39 (by omega)).2 rd.1.1 (by omega); omega)⟩, fun r42 s42 q42 => ?_⟩
              obtain ⟨gs42, fs42, e42, cc42, cf42⟩ := q42
              change r42 = 1 at e42
              change s42 122 16 = s41 122 16 + 1 at cc42
              have g227 := g_f122_16 gs42
              change (s42 134) = up1 (s41 134) (s41 122 16).toNat 13238272 at cf42
              refine ⟨fun h228 => ?_, fun h228 => ?_⟩
              · refine ⟨by omega, ?_⟩
                have e229 : s42 149 5 = s41 149 5 := fs42 149 5 rfl rfl
                exact hQ _ _ ⟨gs42, (fr_tr (fr_tr (fr_tr (fr_tr (fr_rf _ _) fs39 rfl) fs40 rfl) fs41 rfl) fs42 rfl), (show ((0 : Int) = 1 ∧ (∃ (i : Nat) (e : Int), i < 26 ∧ tk (ctx st) (st 1 1) (st 149 5) 1 (owv i) e ∧ sB (ctx st) (st 1 1) (tn 122 st) e (tn 122 s42) (s42 149 5) i) ∧ RDc s42) ∨ ((0 : Int) = 0 ∧ ((¬ ∃ (i : Nat) (e : Int), i < 26 ∧ tk (ctx st) (st 1 1) (st 149 5) 1 (owv i) e) ∨ ∃ (i : Nat) (e : Int), i < 26 ∧ tk (ctx st) (st 1 1) (st 149 5) 1 (owv i) e ∧ sF (ctx st) (st 1 1) (tn 122 st) e i)) from (by exfalso; omega))⟩
              · refine ⟨by omega, ?_⟩
                have e230 : s42 149 5 = s41 149 5 := fs42 149 5 rfl rfl
                exact hQ _ _ ⟨gs42, (fr_tr (fr_tr (fr_tr (fr_tr (fr_rf _ _) fs39 rfl) fs40 rfl) fs41 rfl) fs42 rfl), (show ((1 : Int) = 1 ∧ (∃ (i : Nat) (e : Int), i < 26 ∧ tk (ctx st) (st 1 1) (st 149 5) 1 (owv i) e ∧ sB (ctx st) (st 1 1) (tn 122 st) e (tn 122 s42) (s42 149 5) i) ∧ RDc s42) ∨ ((1 : Int) = 0 ∧ ((¬ ∃ (i : Nat) (e : Int), i < 26 ∧ tk (ctx st) (st 1 1) (st 149 5) 1 (owv i) e) ∨ ∃ (i : Nat) (e : Int), i < 26 ∧ tk (ctx st) (st 1 1) (st 149 5) 1 (owv i) e ∧ sF (ctx st) (st 1 1) (tn 122 st) e i)) from (by
            have hT : ctx s39 = ctx st ∧ s39 1 1 = st 1 1 := ⟨by unfold ctx; funext j; rw [fs39 2 _ rfl rfl], fs39 1 1 rfl rfl⟩
            have hn : tn 122 s39 = tn 122 st := tn_fr (x := 122) rfl fs39
            have hc : ctx s40 = ctx st := by unfold ctx; funext j; rw [fs40 2 _ rfl rfl, fs39 2 _ rfl rfl]
            have h11 : s40 1 1 = st 1 1 := (fs40 1 1 rfl rfl).trans (fs39 1 1 rfl rfl)
            have h5 : s40 149 5 = s39 149 5 := fs40 149 5 rfl rfl
            have z := g41
            unfold GrS at z
            rw [hc, h11, v40, h5] at z
            have q5 : s42 149 5 = s41 149 5 := fs42 149 5 rfl rfl
            have a0 : s40 122 16 = st 122 16 := (fs40 122 16 rfl rfl).trans (fs39 122 16 rfl rfl)
            have a1 : s40 134 = st 134 := funext (fun i => (fs40 134 i rfl rfl).trans (fs39 134 i rfl rfl))
            have cd : CDA (s40 122 16) (s41 122 16) (s40 134) (s41 134) c41 := cd41
            rw [a0, a1] at cd
            have cf : s42 134 = up1 (s41 134) (s41 122 16).toNat 13238272 := cf42
            have oth : ∀ c i : Nat, ¬ c = 12 → ¬ (c = 0 ∧ (i = 18 ∨ i = 16)) → tn 122 s42 c i = tn 122 st c i := by
              intro c i h1 h2
              unfold tn
              split
              · rename_i hc
                rw [mrd_fr (x := 122) (f := 18) rfl fs42 c i hc h1 h2, mrd_fr (x := 122) (f := 18) rfl fs41 c i hc h1 h2]
                by_cases hq : c = 0 ∧ i = 17
                · obtain ⟨rfl, rfl⟩ := hq
                  show s40 122 17 = st 122 17
                  have z1 := fs39 122 17 rfl rfl
                  have z2 := w40
                  omega
                · rw [mrg_fr (x := 122) (f := 17) (g := 18) rfl fs40 c i hc h1 (by omega)]
                  exact fr_out (a := 122) (b := 134) rfl fs39 _ _ (by omega) (by omega)
              · rfl
            refine Or.inl ⟨rfl, ⟨10, s39 149 5, by omega, (nx_ow 10 rd ow nx39 (by omega) (by omega) rfl), ?_⟩, (RDc_of (fun i => fs42 2 i rfl rfl) (fs42 1 1 rfl rfl) (fs42 149 2 rfl rfl) (fs42 149 3 rfl rfl) (fs42 149 4 rfl rfl) (fs42 149 5 rfl rfl) (fun i => fs42 150 i rfl rfl) rd41)⟩
            show bRd (ctx st) (st 1 1) (tn 122 st) (s39 149 5) (tn 122 s42) (s42 149 5) 18 ((1 : Int) = 1) 5
            refine ⟨show st 122 18 = -1 from by omega, c41, s41 122 16, by rw [q5]; exact z, ?_, ?_, ?_, ?_, oth⟩
            · show CDA (st 122 16) (s41 122 16) (st 134) (s42 134) c41
              rw [cf]
              exact CDA_up cd _
            · show s42 134 (s41 122 16).toNat = 13238272
              rw [cf, up1_e]
            · show s42 122 18 = st 122 16
              have z1 : s42 122 18 = s41 122 18 := fs42 122 18 rfl rfl
              have z2 : s41 122 18 = s40 122 18 := fs41 122 18 rfl rfl
              have z3 : s39 122 16 = st 122 16 := fs39 122 16 rfl rfl
              have z4 := w40
              omega
            · show s42 122 16 = s41 122 16 + 1
              omega))⟩
            · refine ⟨fun h231 => ?_, fun h231 => (by exfalso; omega)⟩
              refine ⟨by omega, ?_⟩
              exact hQ _ _ ⟨gs41, (fr_tr (fr_tr (fr_tr (fr_rf _ _) fs39 rfl) fs40 rfl) fs41 rfl), (show ((0 : Int) = 1 ∧ (∃ (i : Nat) (e : Int), i < 26 ∧ tk (ctx st) (st 1 1) (st 149 5) 1 (owv i) e ∧ sB (ctx st) (st 1 1) (tn 122 st) e (tn 122 s41) (s41 149 5) i) ∧ RDc s41) ∨ ((0 : Int) = 0 ∧ ((¬ ∃ (i : Nat) (e : Int), i < 26 ∧ tk (ctx st) (st 1 1) (st 149 5) 1 (owv i) e) ∨ ∃ (i : Nat) (e : Int), i < 26 ∧ tk (ctx st) (st 1 1) (st 149 5) 1 (owv i) e ∧ sF (ctx st) (st 1 1) (tn 122 st) e i)) from (by
            have hT : ctx s39 = ctx st ∧ s39 1 1 = st 1 1 := ⟨by unfold ctx; funext j; rw [fs39 2 _ rfl rfl], fs39 1 1 rfl rfl⟩
            have hn : tn 122 s39 = tn 122 st := tn_fr (x := 122) rfl fs39
            have hc : ctx s40 = ctx st := by unfold ctx; funext j; rw [fs40 2 _ rfl rfl, fs39 2 _ rfl rfl]
            have h11 : s40 1 1 = st 1 1 := (fs40 1 1 rfl rfl).trans (fs39 1 1 rfl rfl)
            have h5 : s40 149 5 = s39 149 5 := fs40 149 5 rfl rfl
            have z := l41
            unfold FlS at z
            rw [hc, h11, v40, h5] at z
            exact Or.inr ⟨rfl, Or.inr ⟨10, s39 149 5, by omega, (nx_ow 10 rd ow nx39 (by omega) (by omega) rfl), Or.inr z⟩⟩))⟩
        · refine ⟨fun h232 => ?_, fun h232 => (by exfalso; omega)⟩
          refine ⟨by omega, ?_⟩
          have g233 := g_wStart gs39
          exact hQ _ _ ⟨gs39, (fr_tr (fr_rf _ _) fs39 rfl), (show ((0 : Int) = 1 ∧ (∃ (i : Nat) (e : Int), i < 26 ∧ tk (ctx st) (st 1 1) (st 149 5) 1 (owv i) e ∧ sB (ctx st) (st 1 1) (tn 122 st) e (tn 122 s39) (s39 149 5) i) ∧ RDc s39) ∨ ((0 : Int) = 0 ∧ ((¬ ∃ (i : Nat) (e : Int), i < 26 ∧ tk (ctx st) (st 1 1) (st 149 5) 1 (owv i) e) ∨ ∃ (i : Nat) (e : Int), i < 26 ∧ tk (ctx st) (st 1 1) (st 149 5) 1 (owv i) e ∧ sF (ctx st) (st 1 1) (tn 122 st) e i)) from (by
            obtain ⟨hv, e, he⟩ := own_tk rd ow (by omega)
            rw [show (st 149 4).toNat = 10 by omega] at he
            exact Or.inr ⟨rfl, Or.inr ⟨10, e, by omega, he, Or.inl (show ¬ st 122 18 = -1 from by omega)⟩⟩))⟩
      · refine ⟨rfl, ⟨hG, (show RDc st from rd), (show ((1) = 0 ∨ (1) = 1) ∧ 1 ≤ st 149 3 ∧ st 149 3 ≤ 4 from by omega)⟩, fun r43 s43 q43 => ?_⟩
        obtain ⟨gs43, fs43, o43⟩ := q43
        change (r43 = 1 ∧ (1) = 1 ∧ RDc s43 ∧ NX st s43) ∨ (r43 = 0 ∧ (1) = 0) at o43
        rcases o43 with ⟨y43, k43, rd43, nx43⟩ | ⟨y43, k43⟩
        · refine ⟨fun h234 => (by exfalso; omega), fun h234 => ?_⟩
          have e235 : s43 148 1 = st 148 1 := fs43 148 1 rfl rfl
          refine ⟨rfl, ⟨gs43, (show (1) = 0 ∨ (1) = 1 from by omega), (show s43 148 1 = 122 from by omega)⟩, fun r44 s44 q44 => ?_⟩
          obtain ⟨gs44, fs44, e44, v44, w44⟩ := q44
          change r44 = 1 at e44
          change s44 148 2 = (1) at v44
          have g236 := g_f148_2 gs44
          change ((1) = 0 → s44 122 17 = s43 122 16 ∧ s44 122 18 = s43 122 18) ∧ ((1) = 1 → s44 122 18 = s43 122 16 ∧ s44 122 17 = s43 122 17) at w44
          have g237 := g_f122_17 gs44
          have e238 : s43 122 16 = st 122 16 := fs43 122 16 rfl rfl
          have g239 := g_f122_18 gs44
          have e240 : s43 122 18 = st 122 18 := fs43 122 18 rfl rfl
          have g242 := g_f122_17 hG
          have e241 : s43 122 17 = st 122 17 := fs43 122 17 rfl rfl
          refine ⟨fun h243 => ?_, fun h243 => ?_⟩
          · refine ⟨by omega, ?_⟩
            have g245 := g_wStart gs43
            have e244 : s44 149 5 = s43 149 5 := fs44 149 5 rfl rfl
            exact hQ _ _ ⟨gs44, (fr_tr (fr_tr (fr_rf _ _) fs43 rfl) fs44 rfl), (show ((0 : Int) = 1 ∧ (∃ (i : Nat) (e : Int), i < 26 ∧ tk (ctx st) (st 1 1) (st 149 5) 1 (owv i) e ∧ sB (ctx st) (st 1 1) (tn 122 st) e (tn 122 s44) (s44 149 5) i) ∧ RDc s44) ∨ ((0 : Int) = 0 ∧ ((¬ ∃ (i : Nat) (e : Int), i < 26 ∧ tk (ctx st) (st 1 1) (st 149 5) 1 (owv i) e) ∨ ∃ (i : Nat) (e : Int), i < 26 ∧ tk (ctx st) (st 1 1) (st 149 5) 1 (owv i) e ∧ sF (ctx st) (st 1 1) (tn 122 st) e i)) from (by exfalso; omega))⟩
          · have e246 : s44 148 1 = s43 148 1 := fs44 148 1 rfl rfl
            have e247 : s44 122 16 = s43 122 16 := fs44 122 16 rfl rfl
            have g249 := g_wStart gs43
            have e248 : s44 149 5 = s43 149 5 := fs44 149 5 rfl rfl
            refine ⟨rfl, ⟨gs44, (show RDc s44 from (RDc_of (fun i => fs44 2 i rfl rfl) (fs44 1 1 rfl rfl) (fs44 149 2 rfl rfl) (fs44 149 3 rfl rfl) (fs44 149 4 rfl rfl) (fs44 149 5 rfl rfl) (fun i => fs44 150 i rfl rfl) rd43)), (show cOW s44 from (fun i hi => ((show aFr m_cStatementA st s44 from (fr_tr (fr_tr (fr_rf _ _) fs43 rfl) fs44 rfl)) 150 i rfl rfl).trans (ow i hi))), (show s44 148 1 = 122 from by omega), (show s44 122 16 + 1 ≤ s44 149 5 from by have zt43 := tk_lt (nx_own rd ow nx43 (by omega)).2 rd.1.1 (by omega); omega), (show 8 + 12 * (7 - (0)) ≤ (100 : Int) from by omega), (show 0 ≤ (0) ∧ (0) ≤ 7 from by omega)⟩, fun r45 s45 q45 => ?_⟩
            obtain ⟨gs45, fs45, o45⟩ := q45
            change (r45 = 1 ∧ ∃ c : List Int, GrS s44 5 (0) (s44 149 5) (s45 149 5) c ∧ RDc s45 ∧ CDA (s44 122 16) (s45 122 16) (s44 134) (s45 134) c) ∨ (r45 = 0 ∧ FlS s44 5 (0) (s44 149 5)) at o45
            have g250 := g_wStart gs45
            have g251 := g_f122_16 gs45
            rcases o45 with ⟨y45, c45, g45, rd45, cd45⟩ | ⟨y45, l45⟩
            · have gl45 := Gr_len g45 (RDc_of (fun i => fs44 2 i rfl rfl) (fs44 1 1 rfl rfl) (fs44 149 2 rfl rfl) (fs44 149 3 rfl rfl) (fs44 149 4 rfl rfl) (fs44 149 5 rfl rfl) (fun i => fs44 150 i rfl rfl) rd43).1.1
              have cn45 := cd45.2.1
              have rb45 := rd45.1
              have rt45 := g_tsize gs45
              refine ⟨fun h252 => (by exfalso; omega), fun h252 => ?_⟩
              have e253 : s45 148 1 = s44 148 1 := fs45 148 1 rfl rfl
              refine ⟨rfl, ⟨gs45, (show s45 148 1 = 122 from by omega), (show s45 122 16 ≤ 1599 from by have zt43 := tk_lt (nx_own rd ow nx43 (by omega)).2 rd.1.1 (by omega); omega)⟩, fun r46 s46 q46 => ?_⟩
              obtain ⟨gs46, fs46, e46, cc46, cf46⟩ := q46
              change r46 = 1 at e46
              change s46 122 16 = s45 122 16 + 1 at cc46
              have g254 := g_f122_16 gs46
              change (s46 134) = up1 (s45 134) (s45 122 16).toNat 13238272 at cf46
              refine ⟨fun h255 => ?_, fun h255 => ?_⟩
              · refine ⟨by omega, ?_⟩
                have e256 : s46 149 5 = s45 149 5 := fs46 149 5 rfl rfl
                exact hQ _ _ ⟨gs46, (fr_tr (fr_tr (fr_tr (fr_tr (fr_rf _ _) fs43 rfl) fs44 rfl) fs45 rfl) fs46 rfl), (show ((0 : Int) = 1 ∧ (∃ (i : Nat) (e : Int), i < 26 ∧ tk (ctx st) (st 1 1) (st 149 5) 1 (owv i) e ∧ sB (ctx st) (st 1 1) (tn 122 st) e (tn 122 s46) (s46 149 5) i) ∧ RDc s46) ∨ ((0 : Int) = 0 ∧ ((¬ ∃ (i : Nat) (e : Int), i < 26 ∧ tk (ctx st) (st 1 1) (st 149 5) 1 (owv i) e) ∨ ∃ (i : Nat) (e : Int), i < 26 ∧ tk (ctx st) (st 1 1) (st 149 5) 1 (owv i) e ∧ sF (ctx st) (st 1 1) (tn 122 st) e i)) from (by exfalso; omega))⟩
              · refine ⟨by omega, ?_⟩
                have e257 : s46 149 5 = s45 149 5 := fs46 149 5 rfl rfl
                exact hQ _ _ ⟨gs46, (fr_tr (fr_tr (fr_tr (fr_tr (fr_rf _ _) fs43 rfl) fs44 rfl) fs45 rfl) fs46 rfl), (show ((1 : Int) = 1 ∧ (∃ (i : Nat) (e : Int), i < 26 ∧ tk (ctx st) (st 1 1) (st 149 5) 1 (owv i) e ∧ sB (ctx st) (st 1 1) (tn 122 st) e (tn 122 s46) (s46 149 5) i) ∧ RDc s46) ∨ ((1 : Int) = 0 ∧ ((¬ ∃ (i : Nat) (e : Int), i < 26 ∧ tk (ctx st) (st 1 1) (st 149 5) 1 (owv i) e) ∨ ∃ (i : Nat) (e : Int), i < 26 ∧ tk (ctx st) (st 1 1) (st 149 5) 1 (owv i) e ∧ sF (ctx st) (st 1 1) (tn 122 st) e i)) from (by
            have hT : ctx s43 = ctx st ∧ s43 1 1 = st 1 1 := ⟨by unfold ctx; funext j; rw [fs43 2 _ rfl rfl], fs43 1 1 rfl rfl⟩
            have hn : tn 122 s43 = tn 122 st := tn_fr (x := 122) rfl fs43
            have hc : ctx s44 = ctx st := by unfold ctx; funext j; rw [fs44 2 _ rfl rfl, fs43 2 _ rfl rfl]
            have h11 : s44 1 1 = st 1 1 := (fs44 1 1 rfl rfl).trans (fs43 1 1 rfl rfl)
            have h5 : s44 149 5 = s43 149 5 := fs44 149 5 rfl rfl
            have z := g45
            unfold GrS at z
            rw [hc, h11, v44, h5] at z
            have q5 : s46 149 5 = s45 149 5 := fs46 149 5 rfl rfl
            have a0 : s44 122 16 = st 122 16 := (fs44 122 16 rfl rfl).trans (fs43 122 16 rfl rfl)
            have a1 : s44 134 = st 134 := funext (fun i => (fs44 134 i rfl rfl).trans (fs43 134 i rfl rfl))
            have cd : CDA (s44 122 16) (s45 122 16) (s44 134) (s45 134) c45 := cd45
            rw [a0, a1] at cd
            have cf : s46 134 = up1 (s45 134) (s45 122 16).toNat 13238272 := cf46
            have oth : ∀ c i : Nat, ¬ c = 12 → ¬ (c = 0 ∧ (i = 18 ∨ i = 16)) → tn 122 s46 c i = tn 122 st c i := by
              intro c i h1 h2
              unfold tn
              split
              · rename_i hc
                rw [mrd_fr (x := 122) (f := 18) rfl fs46 c i hc h1 h2, mrd_fr (x := 122) (f := 18) rfl fs45 c i hc h1 h2]
                by_cases hq : c = 0 ∧ i = 17
                · obtain ⟨rfl, rfl⟩ := hq
                  show s44 122 17 = st 122 17
                  have z1 := fs43 122 17 rfl rfl
                  have z2 := w44
                  omega
                · rw [mrg_fr (x := 122) (f := 17) (g := 18) rfl fs44 c i hc h1 (by omega)]
                  exact fr_out (a := 122) (b := 134) rfl fs43 _ _ (by omega) (by omega)
              · rfl
            refine Or.inl ⟨rfl, ⟨10, s43 149 5, by omega, (nx_ow 10 rd ow nx43 (by omega) (by omega) rfl), ?_⟩, (RDc_of (fun i => fs46 2 i rfl rfl) (fs46 1 1 rfl rfl) (fs46 149 2 rfl rfl) (fs46 149 3 rfl rfl) (fs46 149 4 rfl rfl) (fs46 149 5 rfl rfl) (fun i => fs46 150 i rfl rfl) rd45)⟩
            show bRd (ctx st) (st 1 1) (tn 122 st) (s43 149 5) (tn 122 s46) (s46 149 5) 18 ((1 : Int) = 1) 5
            refine ⟨show st 122 18 = -1 from by omega, c45, s45 122 16, by rw [q5]; exact z, ?_, ?_, ?_, ?_, oth⟩
            · show CDA (st 122 16) (s45 122 16) (st 134) (s46 134) c45
              rw [cf]
              exact CDA_up cd _
            · show s46 134 (s45 122 16).toNat = 13238272
              rw [cf, up1_e]
            · show s46 122 18 = st 122 16
              have z1 : s46 122 18 = s45 122 18 := fs46 122 18 rfl rfl
              have z2 : s45 122 18 = s44 122 18 := fs45 122 18 rfl rfl
              have z3 : s43 122 16 = st 122 16 := fs43 122 16 rfl rfl
              have z4 := w44
              omega
            · show s46 122 16 = s45 122 16 + 1
              omega))⟩
            · refine ⟨fun h258 => ?_, fun h258 => (by exfalso; omega)⟩
              refine ⟨by omega, ?_⟩
              exact hQ _ _ ⟨gs45, (fr_tr (fr_tr (fr_tr (fr_rf _ _) fs43 rfl) fs44 rfl) fs45 rfl), (show ((0 : Int) = 1 ∧ (∃ (i : Nat) (e : Int), i < 26 ∧ tk (ctx st) (st 1 1) (st 149 5) 1 (owv i) e ∧ sB (ctx st) (st 1 1) (tn 122 st) e (tn 122 s45) (s45 149 5) i) ∧ RDc s45) ∨ ((0 : Int) = 0 ∧ ((¬ ∃ (i : Nat) (e : Int), i < 26 ∧ tk (ctx st) (st 1 1) (st 149 5) 1 (owv i) e) ∨ ∃ (i : Nat) (e : Int), i < 26 ∧ tk (ctx st) (st 1 1) (st 149 5) 1 (owv i) e ∧ sF (ctx st) (st 1 1) (tn 122 st) e i)) from (by
            have hT : ctx s43 = ctx st ∧ s43 1 1 = st 1 1 := ⟨by unfold ctx; funext j; rw [fs43 2 _ rfl rfl], fs43 1 1 rfl rfl⟩
            have hn : tn 122 s43 = tn 122 st := tn_fr (x := 122) rfl fs43
            have hc : ctx s44 = ctx st := by unfold ctx; funext j; rw [fs44 2 _ rfl rfl, fs43 2 _ rfl rfl]
            have h11 : s44 1 1 = st 1 1 := (fs44 1 1 rfl rfl).trans (fs43 1 1 rfl rfl)
            have h5 : s44 149 5 = s43 149 5 := fs44 149 5 rfl rfl
            have z := l45
            unfold FlS at z
            rw [hc, h11, v44, h5] at z
            exact Or.inr ⟨rfl, Or.inr ⟨10, s43 149 5, by omega, (nx_ow 10 rd ow nx43 (by omega) (by omega) rfl), Or.inr z⟩⟩))⟩
        · refine ⟨fun h259 => ?_, fun h259 => (by exfalso; omega)⟩
          refine ⟨by omega, ?_⟩
          have g260 := g_wStart gs43
          exact hQ _ _ ⟨gs43, (fr_tr (fr_rf _ _) fs43 rfl), (show ((0 : Int) = 1 ∧ (∃ (i : Nat) (e : Int), i < 26 ∧ tk (ctx st) (st 1 1) (st 149 5) 1 (owv i) e ∧ sB (ctx st) (st 1 1) (tn 122 st) e (tn 122 s43) (s43 149 5) i) ∧ RDc s43) ∨ ((0 : Int) = 0 ∧ ((¬ ∃ (i : Nat) (e : Int), i < 26 ∧ tk (ctx st) (st 1 1) (st 149 5) 1 (owv i) e) ∨ ∃ (i : Nat) (e : Int), i < 26 ∧ tk (ctx st) (st 1 1) (st 149 5) 1 (owv i) e ∧ sF (ctx st) (st 1 1) (tn 122 st) e i)) from (by
            obtain ⟨hv, e, he⟩ := own_tk rd ow (by omega)
            rw [show (st 149 4).toNat = 10 by omega] at he
            exact Or.inr ⟨rfl, Or.inr ⟨10, e, by omega, he, Or.inl (show ¬ st 122 18 = -1 from by omega)⟩⟩))⟩
    · refine ⟨rfl, ⟨hG, (show RDc st from rd), (show ((1) = 0 ∨ (1) = 1) ∧ 1 ≤ st 149 3 ∧ st 149 3 ≤ 4 from by omega)⟩, fun r47 s47 q47 => ?_⟩
      obtain ⟨gs47, fs47, o47⟩ := q47
      change (r47 = 1 ∧ (1) = 1 ∧ RDc s47 ∧ NX st s47) ∨ (r47 = 0 ∧ (1) = 0) at o47
      rcases o47 with ⟨y47, k47, rd47, nx47⟩ | ⟨y47, k47⟩
      · refine ⟨fun h261 => (by exfalso; omega), fun h261 => ?_⟩
        have e262 : s47 148 1 = st 148 1 := fs47 148 1 rfl rfl
        refine ⟨rfl, ⟨gs47, (show RDc s47 from rd47), (show cOW s47 from (fun i hi => ((show aFr m_cStatementA st s47 from (fr_tr (fr_rf _ _) fs47 rfl)) 150 i rfl rfl).trans (ow i hi))), (show s47 148 1 = 122 from by omega)⟩, fun r48 s48 q48 => ?_⟩
        obtain ⟨gs48, fs48, o48⟩ := q48
        change (r48 = 1 ∧ bHe (ctx s47) (s47 1 1) (tn 122 s47) (s47 149 5) (tn 122 s48) (s48 149 5) 13 40 ∧ RDc s48) ∨ (r48 = 0 ∧ ¬ ∃ (T' : zS) (q : Int), bHe (ctx s47) (s47 1 1) (tn 122 s47) (s47 149 5) T' q 13 40) at o48
        have e263 : s47 1 1 = st 1 1 := fs47 1 1 rfl rfl
        have g264 := g_wStart gs47
        have g265 := g_wStart gs48
        rcases o48 with ⟨y48, b48, rd48⟩ | ⟨y48, l48⟩
        · refine ⟨fun h266 => (by exfalso; omega), fun h266 => ?_⟩
          refine ⟨by omega, ?_⟩
          exact hQ _ _ ⟨gs48, (fr_tr (fr_tr (fr_rf _ _) fs47 rfl) fs48 rfl), (show ((1 : Int) = 1 ∧ (∃ (i : Nat) (e : Int), i < 26 ∧ tk (ctx st) (st 1 1) (st 149 5) 1 (owv i) e ∧ sB (ctx st) (st 1 1) (tn 122 st) e (tn 122 s48) (s48 149 5) i) ∧ RDc s48) ∨ ((1 : Int) = 0 ∧ ((¬ ∃ (i : Nat) (e : Int), i < 26 ∧ tk (ctx st) (st 1 1) (st 149 5) 1 (owv i) e) ∨ ∃ (i : Nat) (e : Int), i < 26 ∧ tk (ctx st) (st 1 1) (st 149 5) 1 (owv i) e ∧ sF (ctx st) (st 1 1) (tn 122 st) e i)) from (by
            have hT : ctx s47 = ctx st ∧ s47 1 1 = st 1 1 := ⟨by unfold ctx; funext j; rw [fs47 2 _ rfl rfl], fs47 1 1 rfl rfl⟩
            have hn : tn 122 s47 = tn 122 st := tn_fr (x := 122) rfl fs47
            have z : bHe (ctx s47) (s47 1 1) (tn 122 s47) (s47 149 5) (tn 122 s48) (s48 149 5) 13 40 := b48
            rw [hT.1, hT.2, hn] at z
            exact Or.inl ⟨rfl, ⟨11, s47 149 5, by omega, (nx_ow 11 rd ow nx47 (by omega) (by omega) rfl), z⟩, rd48⟩))⟩
        · refine ⟨fun h267 => ?_, fun h267 => (by exfalso; omega)⟩
          refine ⟨by omega, ?_⟩
          exact hQ _ _ ⟨gs48, (fr_tr (fr_tr (fr_rf _ _) fs47 rfl) fs48 rfl), (show ((0 : Int) = 1 ∧ (∃ (i : Nat) (e : Int), i < 26 ∧ tk (ctx st) (st 1 1) (st 149 5) 1 (owv i) e ∧ sB (ctx st) (st 1 1) (tn 122 st) e (tn 122 s48) (s48 149 5) i) ∧ RDc s48) ∨ ((0 : Int) = 0 ∧ ((¬ ∃ (i : Nat) (e : Int), i < 26 ∧ tk (ctx st) (st 1 1) (st 149 5) 1 (owv i) e) ∨ ∃ (i : Nat) (e : Int), i < 26 ∧ tk (ctx st) (st 1 1) (st 149 5) 1 (owv i) e ∧ sF (ctx st) (st 1 1) (tn 122 st) e i)) from (by
            have hT : ctx s47 = ctx st ∧ s47 1 1 = st 1 1 := ⟨by unfold ctx; funext j; rw [fs47 2 _ rfl rfl], fs47 1 1 rfl rfl⟩
            have hn : tn 122 s47 = tn 122 st := tn_fr (x := 122) rfl fs47
            have z : ¬ ∃ (T' : zS) (q : Int), bHe (ctx s47) (s47 1 1) (tn 122 s47) (s47 149 5) T' q 13 40 := l48
            rw [hT.1, hT.2, hn] at z
            exact Or.inr ⟨rfl, Or.inr ⟨11, s47 149 5, by omega, (nx_ow 11 rd ow nx47 (by omega) (by omega) rfl), z⟩⟩))⟩
      · refine ⟨fun h268 => ?_, fun h268 => (by exfalso; omega)⟩
        refine ⟨by omega, ?_⟩
        have g269 := g_wStart gs47
        exact hQ _ _ ⟨gs47, (fr_tr (fr_rf _ _) fs47 rfl), (show ((0 : Int) = 1 ∧ (∃ (i : Nat) (e : Int), i < 26 ∧ tk (ctx st) (st 1 1) (st 149 5) 1 (owv i) e ∧ sB (ctx st) (st 1 1) (tn 122 st) e (tn 122 s47) (s47 149 5) i) ∧ RDc s47) ∨ ((0 : Int) = 0 ∧ ((¬ ∃ (i : Nat) (e : Int), i < 26 ∧ tk (ctx st) (st 1 1) (st 149 5) 1 (owv i) e) ∨ ∃ (i : Nat) (e : Int), i < 26 ∧ tk (ctx st) (st 1 1) (st 149 5) 1 (owv i) e ∧ sF (ctx st) (st 1 1) (tn 122 st) e i)) from (by exfalso; omega))⟩
    · refine ⟨rfl, ⟨hG, (show RDc st from rd), (show ((1) = 0 ∨ (1) = 1) ∧ 1 ≤ st 149 3 ∧ st 149 3 ≤ 4 from by omega)⟩, fun r49 s49 q49 => ?_⟩
      obtain ⟨gs49, fs49, o49⟩ := q49
      change (r49 = 1 ∧ (1) = 1 ∧ RDc s49 ∧ NX st s49) ∨ (r49 = 0 ∧ (1) = 0) at o49
      rcases o49 with ⟨y49, k49, rd49, nx49⟩ | ⟨y49, k49⟩
      · refine ⟨fun h270 => (by exfalso; omega), fun h270 => ?_⟩
        have e271 : s49 148 1 = st 148 1 := fs49 148 1 rfl rfl
        refine ⟨rfl, ⟨gs49, (show RDc s49 from rd49), (show cOW s49 from (fun i hi => ((show aFr m_cStatementA st s49 from (fr_tr (fr_rf _ _) fs49 rfl)) 150 i rfl rfl).trans (ow i hi))), (show s49 148 1 = 122 from by omega)⟩, fun r50 s50 q50 => ?_⟩
        obtain ⟨gs50, fs50, o50⟩ := q50
        change (r50 = 1 ∧ bHe (ctx s49) (s49 1 1) (tn 122 s49) (s49 149 5) (tn 122 s50) (s50 149 5) 14 100 ∧ RDc s50) ∨ (r50 = 0 ∧ ¬ ∃ (T' : zS) (q : Int), bHe (ctx s49) (s49 1 1) (tn 122 s49) (s49 149 5) T' q 14 100) at o50
        have e272 : s49 1 1 = st 1 1 := fs49 1 1 rfl rfl
        have g273 := g_wStart gs49
        have g274 := g_wStart gs50
        rcases o50 with ⟨y50, b50, rd50⟩ | ⟨y50, l50⟩
        · refine ⟨fun h275 => (by exfalso; omega), fun h275 => ?_⟩
          refine ⟨by omega, ?_⟩
          exact hQ _ _ ⟨gs50, (fr_tr (fr_tr (fr_rf _ _) fs49 rfl) fs50 rfl), (show ((1 : Int) = 1 ∧ (∃ (i : Nat) (e : Int), i < 26 ∧ tk (ctx st) (st 1 1) (st 149 5) 1 (owv i) e ∧ sB (ctx st) (st 1 1) (tn 122 st) e (tn 122 s50) (s50 149 5) i) ∧ RDc s50) ∨ ((1 : Int) = 0 ∧ ((¬ ∃ (i : Nat) (e : Int), i < 26 ∧ tk (ctx st) (st 1 1) (st 149 5) 1 (owv i) e) ∨ ∃ (i : Nat) (e : Int), i < 26 ∧ tk (ctx st) (st 1 1) (st 149 5) 1 (owv i) e ∧ sF (ctx st) (st 1 1) (tn 122 st) e i)) from (by
            have hT : ctx s49 = ctx st ∧ s49 1 1 = st 1 1 := ⟨by unfold ctx; funext j; rw [fs49 2 _ rfl rfl], fs49 1 1 rfl rfl⟩
            have hn : tn 122 s49 = tn 122 st := tn_fr (x := 122) rfl fs49
            have z : bHe (ctx s49) (s49 1 1) (tn 122 s49) (s49 149 5) (tn 122 s50) (s50 149 5) 14 100 := b50
            rw [hT.1, hT.2, hn] at z
            exact Or.inl ⟨rfl, ⟨12, s49 149 5, by omega, (nx_ow 12 rd ow nx49 (by omega) (by omega) rfl), z⟩, rd50⟩))⟩
        · refine ⟨fun h276 => ?_, fun h276 => (by exfalso; omega)⟩
          refine ⟨by omega, ?_⟩
          exact hQ _ _ ⟨gs50, (fr_tr (fr_tr (fr_rf _ _) fs49 rfl) fs50 rfl), (show ((0 : Int) = 1 ∧ (∃ (i : Nat) (e : Int), i < 26 ∧ tk (ctx st) (st 1 1) (st 149 5) 1 (owv i) e ∧ sB (ctx st) (st 1 1) (tn 122 st) e (tn 122 s50) (s50 149 5) i) ∧ RDc s50) ∨ ((0 : Int) = 0 ∧ ((¬ ∃ (i : Nat) (e : Int), i < 26 ∧ tk (ctx st) (st 1 1) (st 149 5) 1 (owv i) e) ∨ ∃ (i : Nat) (e : Int), i < 26 ∧ tk (ctx st) (st 1 1) (st 149 5) 1 (owv i) e ∧ sF (ctx st) (st 1 1) (tn 122 st) e i)) from (by
            have hT : ctx s49 = ctx st ∧ s49 1 1 = st 1 1 := ⟨by unfold ctx; funext j; rw [fs49 2 _ rfl rfl], fs49 1 1 rfl rfl⟩
            have hn : tn 122 s49 = tn 122 st := tn_fr (x := 122) rfl fs49
            have z : ¬ ∃ (T' : zS) (q : Int), bHe (ctx s49) (s49 1 1) (tn 122 s49) (s49 149 5) T' q 14 100 := l50
            rw [hT.1, hT.2, hn] at z
            exact Or.inr ⟨rfl, Or.inr ⟨12, s49 149 5, by omega, (nx_ow 12 rd ow nx49 (by omega) (by omega) rfl), z⟩⟩))⟩
      · refine ⟨fun h277 => ?_, fun h277 => (by exfalso; omega)⟩
        refine ⟨by omega, ?_⟩
        have g278 := g_wStart gs49
        exact hQ _ _ ⟨gs49, (fr_tr (fr_rf _ _) fs49 rfl), (show ((0 : Int) = 1 ∧ (∃ (i : Nat) (e : Int), i < 26 ∧ tk (ctx st) (st 1 1) (st 149 5) 1 (owv i) e ∧ sB (ctx st) (st 1 1) (tn 122 st) e (tn 122 s49) (s49 149 5) i) ∧ RDc s49) ∨ ((0 : Int) = 0 ∧ ((¬ ∃ (i : Nat) (e : Int), i < 26 ∧ tk (ctx st) (st 1 1) (st 149 5) 1 (owv i) e) ∨ ∃ (i : Nat) (e : Int), i < 26 ∧ tk (ctx st) (st 1 1) (st 149 5) 1 (owv i) e ∧ sF (ctx st) (st 1 1) (tn 122 st) e i)) from (by exfalso; omega))⟩
  · have g279 := g_wSpot hG
    refine ⟨rfl, hG, ?_⟩
    refine ⟨by omega, ?_⟩
    exact hQ _ _ ⟨(gInv_up (gInv_up hG (p_rFault (by omega))) (p_rFaultAt (by omega))), (fr_f (fr_f (fr_rf _ _) rfl) rfl), (show ((0 : Int) = 1 ∧ (∃ (i : Nat) (e : Int), i < 26 ∧ tk (ctx st) (st 1 1) (st 149 5) 1 (owv i) e ∧ sB (ctx st) (st 1 1) (tn 122 st) e (tn 122 (zup (zup st 148 3 1) 148 4 (st 149 6))) (st 149 5) i) ∧ RDc (zup (zup st 148 3 1) 148 4 (st 149 6))) ∨ ((0 : Int) = 0 ∧ ((¬ ∃ (i : Nat) (e : Int), i < 26 ∧ tk (ctx st) (st 1 1) (st 149 5) 1 (owv i) e) ∨ ∃ (i : Nat) (e : Int), i < 26 ∧ tk (ctx st) (st 1 1) (st 149 5) 1 (owv i) e ∧ sF (ctx st) (st 1 1) (tn 122 st) e i)) from Or.inr ⟨rfl, Or.inl (own_nk rd ow (by omega))⟩)⟩
theorem k_cStatementA_m (hTb : aTb zSh rx_tb cl) {D : Nat} (hD : 125 ≤ D) : ∀ as st (Q Q' : zQ), (∀ r st', Q r st' → Q' r st') → k_cStatementA 237 as st Q → cl D 237 as st Q' := by
  intro as st Q Q' hQ h
  unfold k_cStatementA at h
  split at h
  · obtain ⟨rfl, h⟩ := h
    exact c_cStatementA hTb hD (ct_cStatementA_m hQ h)
  · exact h.elim
end R9w
