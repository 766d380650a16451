/-! printed by wip/pw/r/q1.py: the reference's machine, small parts -/
/-- 189 stands outside what the bank being written has -/
def Z9 (st s : zS) : Prop := ∀ i : Nat, ¬ (1600 * st 170 35 ≤ (i : Int) ∧ (i : Int) < 1600 * st 170 35 + 1600) → s 189 i = st 189 i
theorem Z9_rf (st : zS) : Z9 st st := fun _ _ => rfl
theorem Z9_up {st s : zS} {c i : Nat} {v : Int} (h : Z9 st s) (hc : ¬ 189 = c) : Z9 st (zup s c i v) := fun j hj => (zup_nc s v hc).trans (h j hj)
theorem Z9_st {st s : zS} {i : Nat} {v b : Int} (h : Z9 st s) (e : b = st 170 35) (hi : 1600 * b ≤ (i : Int) ∧ (i : Int) < 1600 * b + 1600) : Z9 st (zup s 189 i v) := fun j hj => (zup_ni s v (fun q => hj (by rw [q, ← e]; exact hi))).trans (h j hj)
theorem Z9_fr {m : aM} {st s : zS} (f : aFr m st s) (h1 : ∀ i, amf m 189 i = false) (h2 : ama m 189 = false) : Z9 st s := fun i _ => f 189 i (h1 i) h2
theorem Z9_tr {st s1 s2 : zS} (h : Z9 st s1) (e : s1 170 35 = st 170 35) (k : Z9 s1 s2) : Z9 st s2 := fun i hi => (k i (by rw [e]; exact hi)).trans (h i hi)
def m_rNext : aM := ([(170, 3), (170, 4), (170, 5), (170, 6), (170, 7), (170, 12)], [])
def rq_rNext (t : Int → Int) (n : Int) (st : zS) : Prop := gInv zgt st ∧ (RDr st t n) ∧ (st 170 12 = -1)
def en_rNext (t : Int → Int) (n : Int) (st : zS) (s1 : zS) : Prop := gInv zgt s1 ∧ aFr m_rNext st s1 ∧ (RDr s1 t n) ∧ (NXr st s1 t n)
def ct_rNext (t : Int → Int) (n : Int) (st : zS) (Q : zQ) : Prop := rq_rNext t n st ∧ (∀ (s1 : zS), en_rNext t n st s1 → Q none s1)
theorem ct_rNext_m {t : Int → Int} {n : Int} {st : zS} {Q Q' : zQ} (hQ : ∀ r st', Q r st' → Q' r st') (h : ct_rNext t n st Q) : ct_rNext t n st Q' := ⟨h.1, fun x0 x1 => hQ _ _ (h.2 x0 x1)⟩
def k_rNext (t : Int → Int) (n : Int) : zCall := fun _ as st Q => match as with
  | [.inr (.inr (.inl z_o))] => z_o = 170 ∧ ct_rNext t n st Q
  | _ => False
def rq_rLex  (st : zS) : Prop := gInv zgt st ∧ (st 170 12 = -1)
def ct_rLex  (st : zS) (Q : zQ) : Prop := rq_rLex  st ∧ Q none st
theorem ct_rLex_m {st : zS} {Q Q' : zQ} (hQ : ∀ r st', Q r st' → Q' r st') (h : ct_rLex  st Q) : ct_rLex  st Q' := ⟨h.1, hQ _ _ (h.2)⟩
def k_rLex : zCall := fun _ as st Q => match as with
  | [.inr (.inr (.inl z_o))] => z_o = 170 ∧ ct_rLex  st Q
  | _ => False
def m_rJoins : aM := ([(170, 34), (170, 43), (170, 45)], [188, 189])
def rq_rJoins (kk ph bg pr : Int) (uu w : List Int) (fs : List mFr) (c : List Int) (l : Int) (st : zS) : Prop := gInv zgt st ∧ (FR (st 192) (st 193) (st 194) (st 195) (st 196) (st 197) ((kk, ph, bg, pr, uu ++ w) :: fs) (st 170 42) (st 170 45)) ∧ (WB ((kk, ph, bg, pr, uu ++ w) :: fs)) ∧ (RG uu l) ∧ (TR w l) ∧ (CDr (st 170 35) (st 170 34) (st 188) (st 189) (c)) ∧ (st 170 34 + st 170 45 ≤ 1600 ∧ 0 ≤ st 170 43 ∧ st 170 43 ≤ 7 ∧ st 170 42 ≤ 9)
def en_rJoins (kk ph bg pr : Int) (uu w : List Int) (fs : List mFr) (c : List Int) (l : Int) (st : zS) (s1 : zS) : Prop := gInv zgt s1 ∧ aFr m_rJoins st s1 ∧ Z9 st s1 ∧ (FR (s1 192) (s1 193) (s1 194) (s1 195) (s1 196) (s1 197) ((kk, ph, bg, pr, w) :: fs) (s1 170 42) (s1 170 45)) ∧ (CDr (s1 170 35) (s1 170 34) (s1 188) (s1 189) (c ++ uu)) ∧ (s1 170 43 = st 170 43 - nots uu) ∧ (s1 170 34 + s1 170 45 = st 170 34 + st 170 45)
def ct_rJoins (kk ph bg pr : Int) (uu w : List Int) (fs : List mFr) (c : List Int) (l : Int) (st : zS) (Q : zQ) : Prop := rq_rJoins kk ph bg pr uu w fs c l st ∧ (∀ (s1 : zS), en_rJoins kk ph bg pr uu w fs c l st s1 → Q none s1)
theorem ct_rJoins_m {kk ph bg pr : Int} {uu w : List Int} {fs : List mFr} {c : List Int} {l : Int} {st : zS} {Q Q' : zQ} (hQ : ∀ r st', Q r st' → Q' r st') (h : ct_rJoins kk ph bg pr uu w fs c l st Q) : ct_rJoins kk ph bg pr uu w fs c l st Q' := ⟨h.1, fun x0 x1 => hQ _ _ (h.2 x0 x1)⟩
def k_rJoins (kk ph bg pr : Int) (uu w : List Int) (fs : List mFr) (c : List Int) : zCall := fun _ as st Q => match as with
  | [.inr (.inr (.inl z_o)), .inl l] => z_o = 170 ∧ ct_rJoins kk ph bg pr uu w fs c l st Q
  | _ => False
def m_rOpens : aM := ([(170, 3), (170, 4), (170, 5), (170, 6), (170, 7), (170, 12), (170, 42), (170, 43)], [192, 193, 194, 196])
def rq_rOpens (t : Int → Int) (n : Int) (k : Int) (st : zS) : Prop := gInv zgt st ∧ (RDr st t n) ∧ (st 170 12 = -1 ∧ st 170 8 = 0 ∧ 0 ≤ st 170 43 ∧ st 170 43 < 7 ∧ 0 ≤ st 170 42 ∧ st 170 42 ≤ 18 ∧ 0 ≤ st 170 45 ∧ st 170 45 ≤ 499 ∧ 0 ≤ k ∧ k ≤ 6)
def en_rOpens (t : Int → Int) (n : Int) (k : Int) (st : zS) (s1 : zS) : Prop := gInv zgt s1 ∧ aFr m_rOpens st s1 ∧ (RDr s1 t n) ∧ (NXr st s1 t n) ∧ (s1 170 42 = st 170 42 + 1 ∧ s1 170 43 = st 170 43 + 1) ∧ ((s1 192) = up1 (st 192) (st 170 42).toNat k) ∧ ((s1 193) = up1 (st 193) (st 170 42).toNat 0) ∧ ((s1 194) = up1 (st 194) (st 170 42).toNat 1) ∧ ((s1 196) = up1 (st 196) (st 170 42).toNat (st 170 45))
def ct_rOpens (t : Int → Int) (n : Int) (k : Int) (st : zS) (Q : zQ) : Prop := rq_rOpens t n k st ∧ (∀ (s1 : zS), en_rOpens t n k st s1 → Q none s1)
theorem ct_rOpens_m {t : Int → Int} {n : Int} {k : Int} {st : zS} {Q Q' : zQ} (hQ : ∀ r st', Q r st' → Q' r st') (h : ct_rOpens t n k st Q) : ct_rOpens t n k st Q' := ⟨h.1, fun x0 x1 => hQ _ _ (h.2 x0 x1)⟩
def k_rOpens (t : Int → Int) (n : Int) : zCall := fun _ as st Q => match as with
  | [.inr (.inr (.inl z_o)), .inl k] => z_o = 170 ∧ ct_rOpens t n k st Q
  | _ => False
section Rz1
variable {cl : Nat → zCall}
theorem c_rNext (hTb : aTb zSh rx_tb cl) {t : Int → Int} {n : Int} {D : Nat} (hD : 2 ≤ D) {st : zS} {Q : zQ} (h : ct_rNext t n st Q) : cl D 149 [.inr (.inr (.inl 170))] st Q := by
  obtain ⟨⟨hG, ⟨⟨h2, ht⟩, hp, k, v, e, h3, h4⟩, lx⟩, hQ⟩ := h
  have he : st 170 5 = e ∧ ¬ k = 5 := by
    obtain ⟨-, h4⟩ := h4
    rcases h4 with h4 | h4 | h4 | h4 | h4 <;> omega
  have hn : st 170 5 ≤ st 170 2 := by
    rcases TK_end hp.1 h3 with z | z <;> omega
  refine c_rAhead hTb hD ⟨⟨hG, hn⟩, fun s1 q => hQ s1 ?_⟩
  obtain ⟨q1, q2, k', v', s', e', q3, q4⟩ := q
  have hh : ∀ j : Int, 0 ≤ j → j < st 170 2 → t j = (fun k => st 171 k.toNat) j := fun j z1 z2 => (ht j z1 (by omega)).symm
  have h05 : 0 ≤ st 170 5 := (g_signEnd hG).1
  have q5 := TK_e hh h05 q3
  rw [h2] at q5
  have e4 : s1 170 4 = s' := q4.1
  have e2 : s1 170 2 = st 170 2 := q2 170 2 rfl rfl
  have hw : wrn (fun j => wbl (tcc t n j)) (st 170 5) (s1 170 4) := by rw [e4]; exact q5.1
  have hw2 := wrn_in (P := wbl) (by unfold wbl; omega) (by omega) hw
  refine ⟨q1, q2, ⟨⟨by omega, fun j z1 z2 => ?_⟩, ⟨by have := hw.1; omega, hw2⟩, k', v', e', ?_, ?_⟩, ?_⟩
  · rw [q2 171 _ rfl rfl]; exact ht j z1 z2
  · rw [e4]; exact TK_can q5
  · rw [e4] at q4 ⊢; exact q4
  · intro k2 v2 e2' h5 h6
    obtain ⟨-, -, -, z⟩ := TK_u h3 h5
    rw [← z, ← he.1]
    exact hw
theorem k_rNext_m (hTb : aTb zSh rx_tb cl) {t : Int → Int} {n : Int} {D : Nat} (hD : 2 ≤ D) : ∀ as st (Q Q' : zQ), (∀ r st', Q r st' → Q' r st') → (k_rNext t n) 149 as st Q → cl D 149 as st Q' := by
  intro as st Q Q' hQ h
  unfold k_rNext at h
  split at h
  · obtain ⟨rfl, h⟩ := h
    exact c_rNext hTb hD (ct_rNext_m hQ h)
  · exact h.elim
set_option maxHeartbeats 4000000 in
set_option maxRecDepth 100000 in
theorem c_rLex (hTb : aTb zSh rx_tb cl) {D : Nat} (hD : 2 ≤ D) {st : zS} {Q : zQ} (h : ct_rLex  st Q) : cl D 181 [.inr (.inr (.inl 170))] st Q := by
  obtain ⟨d, rfl⟩ : ∃ d, D = d + 1 := ⟨D - 1, by omega⟩
  refine hTb d 181 (rx_m181, 1, 0, 0, 0) rfl _ _ _ (Nat.le_of_ble_eq_true rfl) (fun K hcl hsf hsl => ?_)
  have hcm : zmo (wcL [(178, k_blame)]) (cl d) := (wcL_m (wm_cons (k_blame_m hTb (by omega)) wm_nil))
  obtain ⟨hR, hQ⟩ := h
  obtain ⟨hG, lx⟩ := hR
  change st 170 12 = -1 at lx
  have g1 := g_lexAt hG
  refine yr1_ok (Rt := Q) (wc := (wcL [(178, k_blame)])) (stp := []) hcm hcl [] 30 ?_
  show ((st 170 12 = ((-1) : Int) → Q none st) ∧ (¬ (st 170 12 = ((-1) : Int)) → _))
  refine ⟨fun h2 => ?_, fun h2 => (by exfalso; omega)⟩
  exact hQ
theorem k_rLex_m (hTb : aTb zSh rx_tb cl) {D : Nat} (hD : 2 ≤ D) : ∀ as st (Q Q' : zQ), (∀ r st', Q r st' → Q' r st') → k_rLex 181 as st Q → cl D 181 as st Q' := by
  intro as st Q Q' hQ h
  unfold k_rLex at h
  split at h
  · obtain ⟨rfl, h⟩ := h
    exact c_rLex hTb hD (ct_rLex_m hQ h)
  · exact h.elim
set_option maxHeartbeats 4000000 in
set_option maxRecDepth 100000 in
theorem c_rJoins (hTb : aTb zSh rx_tb cl) {kk ph bg pr : Int} {uu w : List Int} {fs : List mFr} {c : List Int} {D : Nat} (hD : 2 ≤ D) {l : Int} {st : zS} {Q : zQ} (h : ct_rJoins kk ph bg pr uu w fs c l st Q) : cl D 191 [.inr (.inr (.inl 170)), .inl l] st Q := by
  obtain ⟨d, rfl⟩ : ∃ d, D = d + 1 := ⟨D - 1, by omega⟩
  refine hTb d 191 (rx_m191, 2, 0, 0, 0) rfl _ _ _ (Nat.le_of_ble_eq_true rfl) (fun K hcl hsf hsl => ?_)
  have hcm : zmo (wcL [(190, k_rank), (189, k_add)]) (cl d) := (wcL_m (wm_cons (k_rank_m hTb (by omega)) (wm_cons (k_add_m hTb (by omega)) wm_nil)))
  obtain ⟨hR, hQ⟩ := h
  obtain ⟨hG, fr, wb, rg, tr, cd, q⟩ := hR
  change FR (st 192) (st 193) (st 194) (st 195) (st 196) (st 197) ((kk, ph, bg, pr, uu ++ w) :: fs) (st 170 42) (st 170 45) at fr
  change WB ((kk, ph, bg, pr, uu ++ w) :: fs) at wb
  change RG uu l at rg
  change TR w l at tr
  change CDr (st 170 35) (st 170 34) (st 188) (st 189) (c) at cd
  change st 170 34 + st 170 45 ≤ 1600 ∧ 0 ≤ st 170 43 ∧ st 170 43 ≤ 7 ∧ st 170 42 ≤ 9 at q
  have lp : ∀ (u : Nat) (s_lp : zS), gInv zgt s_lp ∧ aFr m_rJoins st s_lp ∧ Z9 st s_lp ∧ (∃ u0 u1 : List Int, uu = u0 ++ u1 ∧ WB ((kk, ph, bg, pr, u1 ++ w) :: fs) ∧ FR (s_lp 192) (s_lp 193) (s_lp 194) (s_lp 195) (s_lp 196) (s_lp 197) ((kk, ph, bg, pr, u1 ++ w) :: fs) (s_lp 170 42) (s_lp 170 45) ∧ CDr (s_lp 170 35) (s_lp 170 34) (s_lp 188) (s_lp 189) (c ++ u0) ∧ s_lp 170 43 = st 170 43 - nots u0) ∧ (s_lp 170 34 + s_lp 170 45 = st 170 34 + st 170 45 ∧ s_lp 170 42 = st 170 42) → (s_lp 170 45).toNat = u → K (rx_find rx_m191 0) [(0, .inr (.inr (.inl 170))), (1, .inl l)] [] s_lp := by
    intro u_lp
    induction u_lp using Nat.strongRecOn with
    | _ u_lp ih_lp =>
      intro  s_lp hi hu_lp
      obtain ⟨gI_lp, fI_lp, yI_lp, j_lp, cm_lp⟩ := hi
      obtain ⟨u0, u1, ju, jw, jf, jc, jo⟩ := j_lp
      have jt := FR_top jf
      have jbb := FR_bnd _ _ _ jw jf
      have jln := FR_len jbb.2.1 jf
      rw [List.length_cons] at jbb
      have jcl := jc.1
      have jn := nots_app u0 u1
      rw [← ju] at jn
      have jb1 := nots_b u1
      have jb0 := nots_b u0
      have jh := WB_hd wb
      rw [ju] at jh
      simp only [List.length_append] at jh
      have g2 := g_deep hG
      have e1 : s_lp 170 42 = st 170 42 := fI_lp 170 42 rfl rfl
      have g3 := g_opMany gI_lp
      have g5 := g_in hG
      have e4 : s_lp 170 35 = st 170 35 := fI_lp 170 35 rfl rfl
      have g6 := g_codes gI_lp
      have g7 := g_open gI_lp
      have g8 := g_open hG
      have g9 := g_codes hG
      have g10 := g_opMany hG
      refine yr1_ok (Rt := Q) (wc := (wcL [(190, k_rank), (189, k_add)])) (stp := [0]) hcm hcl [] 69 ?_
      show ((-2147483648 ≤ (s_lp 170 42) - 1 ∧ (s_lp 170 42) - 1 ≤ 2147483647) ∧ ((0 ≤ (s_lp 170 42) - 1 ∧ (s_lp 170 42) - 1 < 20) ∧ ((s_lp 170 45 ≤ s_lp 196 ((s_lp 170 42) - 1 : Int).toNat → Q none s_lp) ∧ (¬ (s_lp 170 45 ≤ s_lp 196 ((s_lp 170 42) - 1 : Int).toNat) → ((-2147483648 ≤ (s_lp 170 45) - 1 ∧ (s_lp 170 45) - 1 ≤ 2147483647) ∧ ((0 ≤ (s_lp 170 45) - 1 ∧ (s_lp 170 45) - 1 < 500) ∧ (∀ (r11 : Int), en_rank (s_lp 197 ((s_lp 170 45) - 1 : Int).toNat) s_lp r11 → ((r11 < l → Q none s_lp) ∧ (¬ (r11 < l) → ((-2147483648 ≤ (s_lp 170 45) - 1 ∧ (s_lp 170 45) - 1 ≤ 2147483647) ∧ ((0 ≤ ((s_lp 170 45) - 1) ∧ ((s_lp 170 45) - 1) < 500) ∧ (170 = 170 ∧ (rq_add (s_lp 197 (((s_lp 170 45) - 1) : Int).toNat) (0) (zup s_lp 170 45 ((s_lp 170 45) - 1)) ∧ (((0 ≤ ((s_lp 170 45) - 1) ∧ ((s_lp 170 45) - 1) < 500) ∧ ((¬ s_lp 197 (((s_lp 170 45) - 1) : Int).toNat = (43 : Int) → K (rx_find rx_m191 0) [(0, .inr (.inr (.inl 170))), (1, .inl l)] [] (zup (zup (zup (zup s_lp 170 45 ((s_lp 170 45) - 1)) 188 ((1600 : Int) * (s_lp 170 35) + (s_lp 170 34) : Int).toNat (s_lp 197 (((s_lp 170 45) - 1) : Int).toNat)) 189 ((1600 : Int) * (s_lp 170 35) + (s_lp 170 34) : Int).toNat (0)) 170 34 ((s_lp 170 34) + 1))) ∧ (¬ (¬ s_lp 197 (((s_lp 170 45) - 1) : Int).toNat = (43 : Int)) → ((-2147483648 ≤ (s_lp 170 43) - 1 ∧ (s_lp 170 43) - 1 ≤ 2147483647) ∧ K (rx_find rx_m191 0) [(0, .inr (.inr (.inl 170))), (1, .inl l)] [] (zup (zup (zup (zup (zup s_lp 170 45 ((s_lp 170 45) - 1)) 188 ((1600 : Int) * (s_lp 170 35) + (s_lp 170 34) : Int).toNat (s_lp 197 (((s_lp 170 45) - 1) : Int).toNat)) 189 ((1600 : Int) * (s_lp 170 35) + (s_lp 170 34) : Int).toNat (0)) 170 34 ((s_lp 170 34) + 1)) 170 43 ((s_lp 170 43) - 1))))))))))))))))))))
      refine ⟨by omega, ?_⟩
      have g14 := g_base hG ((st 170 42) - 1 : Int).toNat
      have e13 : s_lp 196 ((s_lp 170 42) - 1 : Int).toNat = st 196 ((st 170 42) - 1 : Int).toNat := (fI_lp 196 ((s_lp 170 42) - 1 : Int).toNat rfl rfl).trans (by rw [e1] <;> rfl)
      refine ⟨by omega, ?_⟩
      refine ⟨fun h15 => ?_, fun h15 => ?_⟩
      · exact hQ _ ⟨gI_lp, fI_lp, yI_lp, (show FR (s_lp 192) (s_lp 193) (s_lp 194) (s_lp 195) (s_lp 196) (s_lp 197) ((kk, ph, bg, pr, w) :: fs) (s_lp 170 42) (s_lp 170 45) from (by
            rcases u1 with _ | ⟨y, u1⟩
            · rw [List.append_nil] at ju
              rw [List.nil_append] at jf
              subst ju
              exact jf
            · exfalso
              rw [List.cons_append] at jf jt
              rw [List.length_cons] at jt
              have zl := (u1 ++ w).length
              omega)), (show CDr (s_lp 170 35) (s_lp 170 34) (s_lp 188) (s_lp 189) (c ++ uu) from (by
            rcases u1 with _ | ⟨y, u1⟩
            · rw [List.append_nil] at ju
              rw [List.nil_append] at jf
              subst ju
              exact jc
            · exfalso
              rw [List.cons_append] at jf jt
              rw [List.length_cons] at jt
              have zl := (u1 ++ w).length
              omega)), (show s_lp 170 43 = st 170 43 - nots uu from (by
            rcases u1 with _ | ⟨y, u1⟩
            · rw [List.append_nil] at ju
              rw [List.nil_append] at jf
              subst ju
              exact jo
            · exfalso
              rw [List.cons_append] at jf jt
              rw [List.length_cons] at jt
              have zl := (u1 ++ w).length
              omega)), (show s_lp 170 34 + s_lp 170 45 = st 170 34 + st 170 45 from by omega)⟩
      · refine ⟨by omega, ?_⟩
        have g17 := g_ops hG ((s_lp 170 45) - 1 : Int).toNat
        have e16 : s_lp 197 ((s_lp 170 45) - 1 : Int).toNat = st 197 ((s_lp 170 45) - 1 : Int).toNat := fI_lp 197 ((s_lp 170 45) - 1 : Int).toNat rfl rfl
        refine ⟨by omega, ?_⟩
        refine fun r11 q11 => ?_
        have e11 := q11
        change r11 = rkf (s_lp 197 ((s_lp 170 45) - 1 : Int).toNat) at e11
        refine ⟨fun h18 => ?_, fun h18 => ?_⟩
        · exact hQ _ ⟨gI_lp, fI_lp, yI_lp, (show FR (s_lp 192) (s_lp 193) (s_lp 194) (s_lp 195) (s_lp 196) (s_lp 197) ((kk, ph, bg, pr, w) :: fs) (s_lp 170 42) (s_lp 170 45) from (by
            rcases u1 with _ | ⟨y, u1⟩
            · rw [List.append_nil] at ju
              rw [List.nil_append] at jf
              subst ju
              exact jf
            · exfalso
              rw [List.cons_append] at jf jt
              rw [List.length_cons] at jt
              have z := FR_take jf
              have z2 : l ≤ rkf y := rg y (by rw [ju]; exact List.mem_append_right _ List.mem_cons_self)
              rw [z.2.1] at e11
              omega)), (show CDr (s_lp 170 35) (s_lp 170 34) (s_lp 188) (s_lp 189) (c ++ uu) from (by
            rcases u1 with _ | ⟨y, u1⟩
            · rw [List.append_nil] at ju
              rw [List.nil_append] at jf
              subst ju
              exact jc
            · exfalso
              rw [List.cons_append] at jf jt
              rw [List.length_cons] at jt
              have z := FR_take jf
              have z2 : l ≤ rkf y := rg y (by rw [ju]; exact List.mem_append_right _ List.mem_cons_self)
              rw [z.2.1] at e11
              omega)), (show s_lp 170 43 = st 170 43 - nots uu from (by
            rcases u1 with _ | ⟨y, u1⟩
            · rw [List.append_nil] at ju
              rw [List.nil_append] at jf
              subst ju
              exact jo
            · exfalso
              rw [List.cons_append] at jf jt
              rw [List.length_cons] at jt
              have z := FR_take jf
              have z2 : l ≤ rkf y := rg y (by rw [ju]; exact List.mem_append_right _ List.mem_cons_self)
              rw [z.2.1] at e11
              omega)), (show s_lp 170 34 + s_lp 170 45 = st 170 34 + st 170 45 from by omega)⟩
        · refine ⟨by omega, ?_⟩
          have g20 := g_ops hG (((s_lp 170 45) - 1) : Int).toNat
          have e19 : s_lp 197 (((s_lp 170 45) - 1) : Int).toNat = st 197 (((s_lp 170 45) - 1) : Int).toNat := fI_lp 197 (((s_lp 170 45) - 1) : Int).toNat rfl rfl
          refine ⟨by omega, ?_⟩
          refine ⟨rfl, ⟨(gInv_up gI_lp (p_opMany (by omega))), (show s_lp 170 34 ≤ 1599 from by omega)⟩, ?_⟩
          refine ⟨by omega, ?_⟩
          refine ⟨fun h21 => ?_, fun h21 => ?_⟩
          · exact ih_lp _ (show (((s_lp 170 45) - 1) : Int).toNat < u_lp from by omega) (zup (zup (zup (zup s_lp 170 45 ((s_lp 170 45) - 1)) 188 ((1600 : Int) * (s_lp 170 35) + (s_lp 170 34) : Int).toNat (s_lp 197 (((s_lp 170 45) - 1) : Int).toNat)) 189 ((1600 : Int) * (s_lp 170 35) + (s_lp 170 34) : Int).toNat (0)) 170 34 ((s_lp 170 34) + 1)) ⟨(gInv_up (gInv_up (gInv_up (gInv_up gI_lp (p_opMany (by omega))) (p_codeSort (by omega))) (p_codeValue (by omega))) (p_codes (by omega))), (fr_f (fr_a (fr_a (fr_f fI_lp rfl) rfl) rfl) rfl), (Z9_up (Z9_st (Z9_up (Z9_up yI_lp (by decide)) (by decide)) (b := s_lp 170 35) ((show aFr m_rJoins st s_lp from fI_lp) 170 35 rfl rfl) (by omega)) (by decide)), (show ∃ u0 u1 : List Int, uu = u0 ++ u1 ∧ WB ((kk, ph, bg, pr, u1 ++ w) :: fs) ∧ FR (s_lp 192) (s_lp 193) (s_lp 194) (s_lp 195) (s_lp 196) (s_lp 197) ((kk, ph, bg, pr, u1 ++ w) :: fs) (s_lp 170 42) (((s_lp 170 45) - 1)) ∧ CDr (s_lp 170 35) (((s_lp 170 34) + 1)) (up1 (s_lp 188) ((1600 : Int) * (s_lp 170 35) + (s_lp 170 34) : Int).toNat (s_lp 197 (((s_lp 170 45) - 1) : Int).toNat)) (up1 (s_lp 189) ((1600 : Int) * (s_lp 170 35) + (s_lp 170 34) : Int).toNat (0)) (c ++ u0) ∧ s_lp 170 43 = st 170 43 - nots u0 from (by
            rcases u1 with _ | ⟨y, u1⟩
            · exfalso
              rw [List.nil_append] at jt jf
              rcases w with _ | ⟨y, w⟩
              · rw [List.length_nil] at jt
                omega
              · have z := FR_take jf
                have z2 := tr y w rfl
                rw [z.2.1] at e11
                omega
            · rw [List.cons_append] at jf
              have z := FR_take jf
              rw [z.2.1]
              have zr := (WB_el wb) y (List.mem_append_left _ (by rw [ju]; exact List.mem_append_right _ List.mem_cons_self))
              have hc : CDr (s_lp 170 35) (s_lp 170 34 + 1) (up1 (s_lp 188) (1600 * s_lp 170 35 + s_lp 170 34).toNat y) (up1 (s_lp 189) (1600 * s_lp 170 35 + s_lp 170 34).toNat 0) ((c ++ u0) ++ [y]) := CDr_add (by omega) jc (by omega) (fun h => by omega)
              exact ⟨u0 ++ [y], u1, by rw [ju, List.append_assoc]; rfl, WB_c (by have q := WB_hd jw; rw [List.cons_append, List.length_cons] at q; omega) (fun x hx => WB_el jw x (List.mem_cons_of_mem _ hx)) (WB_tl jw), z.2.2, by rw [← List.append_assoc]; exact hc, by rw [nots_app, nots_c, nots_n]; split <;> omega⟩)), (show ((s_lp 170 34) + 1) + ((s_lp 170 45) - 1) = st 170 34 + st 170 45 ∧ s_lp 170 42 = st 170 42 from by omega)⟩ rfl
          · refine ⟨by omega, ?_⟩
            exact ih_lp _ (show (((s_lp 170 45) - 1) : Int).toNat < u_lp from by omega) (zup (zup (zup (zup (zup s_lp 170 45 ((s_lp 170 45) - 1)) 188 ((1600 : Int) * (s_lp 170 35) + (s_lp 170 34) : Int).toNat (s_lp 197 (((s_lp 170 45) - 1) : Int).toNat)) 189 ((1600 : Int) * (s_lp 170 35) + (s_lp 170 34) : Int).toNat (0)) 170 34 ((s_lp 170 34) + 1)) 170 43 ((s_lp 170 43) - 1)) ⟨(gInv_up (gInv_up (gInv_up (gInv_up (gInv_up gI_lp (p_opMany (by omega))) (p_codeSort (by omega))) (p_codeValue (by omega))) (p_codes (by omega))) (p_open (by omega))), (fr_f (fr_f (fr_a (fr_a (fr_f fI_lp rfl) rfl) rfl) rfl) rfl), (Z9_up (Z9_up (Z9_st (Z9_up (Z9_up yI_lp (by decide)) (by decide)) (b := s_lp 170 35) ((show aFr m_rJoins st s_lp from fI_lp) 170 35 rfl rfl) (by omega)) (by decide)) (by decide)), (show ∃ u0 u1 : List Int, uu = u0 ++ u1 ∧ WB ((kk, ph, bg, pr, u1 ++ w) :: fs) ∧ FR (s_lp 192) (s_lp 193) (s_lp 194) (s_lp 195) (s_lp 196) (s_lp 197) ((kk, ph, bg, pr, u1 ++ w) :: fs) (s_lp 170 42) (((s_lp 170 45) - 1)) ∧ CDr (s_lp 170 35) (((s_lp 170 34) + 1)) (up1 (s_lp 188) ((1600 : Int) * (s_lp 170 35) + (s_lp 170 34) : Int).toNat (s_lp 197 (((s_lp 170 45) - 1) : Int).toNat)) (up1 (s_lp 189) ((1600 : Int) * (s_lp 170 35) + (s_lp 170 34) : Int).toNat (0)) (c ++ u0) ∧ ((s_lp 170 43) - 1) = st 170 43 - nots u0 from (by
            rcases u1 with _ | ⟨y, u1⟩
            · exfalso
              rw [List.nil_append] at jt jf
              rcases w with _ | ⟨y, w⟩
              · rw [List.length_nil] at jt
                omega
              · have z := FR_take jf
                have z2 := tr y w rfl
                rw [z.2.1] at e11
                omega
            · rw [List.cons_append] at jf
              have z := FR_take jf
              rw [z.2.1]
              have zr := (WB_el wb) y (List.mem_append_left _ (by rw [ju]; exact List.mem_append_right _ List.mem_cons_self))
              have hc : CDr (s_lp 170 35) (s_lp 170 34 + 1) (up1 (s_lp 188) (1600 * s_lp 170 35 + s_lp 170 34).toNat y) (up1 (s_lp 189) (1600 * s_lp 170 35 + s_lp 170 34).toNat 0) ((c ++ u0) ++ [y]) := CDr_add (by omega) jc (by omega) (fun h => by omega)
              exact ⟨u0 ++ [y], u1, by rw [ju, List.append_assoc]; rfl, WB_c (by have q := WB_hd jw; rw [List.cons_append, List.length_cons] at q; omega) (fun x hx => WB_el jw x (List.mem_cons_of_mem _ hx)) (WB_tl jw), z.2.2, by rw [← List.append_assoc]; exact hc, by rw [nots_app, nots_c, nots_n]; split <;> omega⟩)), (show ((s_lp 170 34) + 1) + ((s_lp 170 45) - 1) = st 170 34 + st 170 45 ∧ s_lp 170 42 = st 170 42 from by omega)⟩ rfl
  have g22 := g_deep hG
  have g23 := g_opMany hG
  have g24 := g_in hG
  have g25 := g_codes hG
  have g26 := g_open hG
  have g27 := g_deep hG
  have g28 := g_opMany hG
  have g29 := g_in hG
  have g30 := g_codes hG
  have g31 := g_open hG
  show K (rx_find rx_m191 0) [(0, .inr (.inr (.inl 170))), (1, .inl l)] [] st
  exact lp _ st ⟨hG, (fr_rf _ _), (Z9_rf _), (show ∃ u0 u1 : List Int, uu = u0 ++ u1 ∧ WB ((kk, ph, bg, pr, u1 ++ w) :: fs) ∧ FR (st 192) (st 193) (st 194) (st 195) (st 196) (st 197) ((kk, ph, bg, pr, u1 ++ w) :: fs) (st 170 42) (st 170 45) ∧ CDr (st 170 35) (st 170 34) (st 188) (st 189) (c ++ u0) ∧ st 170 43 = st 170 43 - nots u0 from ⟨[], uu, rfl, wb, fr, (by rw [List.append_nil]; exact cd), by rw [nots_n]; omega⟩), (show st 170 34 + st 170 45 = st 170 34 + st 170 45 ∧ st 170 42 = st 170 42 from by omega)⟩ rfl
theorem k_rJoins_m (hTb : aTb zSh rx_tb cl) {kk ph bg pr : Int} {uu w : List Int} {fs : List mFr} {c : List Int} {D : Nat} (hD : 2 ≤ D) : ∀ as st (Q Q' : zQ), (∀ r st', Q r st' → Q' r st') → (k_rJoins kk ph bg pr uu w fs c) 191 as st Q → cl D 191 as st Q' := by
  intro as st Q Q' hQ h
  unfold k_rJoins at h
  split at h
  · obtain ⟨rfl, h⟩ := h
    exact c_rJoins hTb hD (ct_rJoins_m hQ h)
  · exact h.elim
set_option maxHeartbeats 4000000 in
set_option maxRecDepth 100000 in
theorem c_rOpens (hTb : aTb zSh rx_tb cl) {t : Int → Int} {n : Int} {D : Nat} (hD : 3 ≤ D) {k : Int} {st : zS} {Q : zQ} (h : ct_rOpens t n k st Q) : cl D 194 [.inr (.inr (.inl 170)), .inl k] st Q := by
  obtain ⟨d, rfl⟩ : ∃ d, D = d + 1 := ⟨D - 1, by omega⟩
  refine hTb d 194 (rx_m194, 2, 0, 0, 0) rfl _ _ _ (Nat.le_of_ble_eq_true rfl) (fun K hcl hsf hsl => ?_)
  have hcm : zmo (wcL [(178, k_blame), (149, k_rNext t n), (193, k_pushes)]) (cl d) := (wcL_m (wm_cons (k_blame_m hTb (by omega)) (wm_cons (k_rNext_m hTb (by omega)) (wm_cons (k_pushes_m hTb (by omega)) wm_nil))))
  obtain ⟨hR, hQ⟩ := h
  obtain ⟨hG, rd, lx⟩ := hR
  change RDr st t n at rd
  change st 170 12 = -1 ∧ st 170 8 = 0 ∧ 0 ≤ st 170 43 ∧ st 170 43 < 7 ∧ 0 ≤ st 170 42 ∧ st 170 42 ≤ 18 ∧ 0 ≤ st 170 45 ∧ st 170 45 ≤ 499 ∧ 0 ≤ k ∧ k ≤ 6 at lx
  have g1 := g_lexAt hG
  have g2 := g_faultKind hG
  have g3 := g_open hG
  have g4 := g_deep hG
  have g5 := g_opMany hG
  have g6 := g_signAt hG
  refine yr1_ok (Rt := Q) (wc := (wcL [(178, k_blame), (149, k_rNext t n), (193, k_pushes)])) (stp := []) hcm hcl [] 45 ?_
  show ((¬ st 170 43 = (7 : Int) → ((st 170 8 ≤ (0 : Int) → ((-2147483648 ≤ (st 170 43) + 1 ∧ (st 170 43) + 1 ≤ 2147483647) ∧ (170 = 170 ∧ (rq_rNext t n  (zup st 170 43 ((st 170 43) + 1)) ∧ (∀ (s7 : zS), en_rNext t n  (zup st 170 43 ((st 170 43) + 1)) s7 → (170 = 170 ∧ (rq_pushes k s7 ∧ (Q none (zup (zup (zup (zup (zup s7 192 (s7 170 42 : Int).toNat k) 193 (s7 170 42 : Int).toNat 0) 194 (s7 170 42 : Int).toNat 1) 196 (s7 170 42 : Int).toNat (s7 170 45)) 170 42 ((s7 170 42) + 1)))))))))) ∧ (¬ (st 170 8 ≤ (0 : Int)) → _))) ∧ (¬ (¬ st 170 43 = (7 : Int)) → _))
  refine ⟨fun h9 => ?_, fun h9 => (by exfalso; omega)⟩
  refine ⟨fun h10 => ?_, fun h10 => (by exfalso; omega)⟩
  refine ⟨by omega, ?_⟩
  refine ⟨rfl, ⟨(gInv_up hG (p_open (by omega))), (show RDr (zup st 170 43 ((st 170 43) + 1)) t n from (show RDr (zup st 170 43 ((st 170 43) + 1)) t n from rd)), (show st 170 12 = -1 from by omega)⟩, fun s7 q7 => ?_⟩
  obtain ⟨gs7, fs7, rd7, nx7⟩ := q7
  change RDr s7 t n at rd7
  change NXr (zup st 170 43 ((st 170 43) + 1)) s7 t n at nx7
  have e11 : s7 170 42 = st 170 42 := fs7 170 42 rfl rfl
  have e12 : s7 170 45 = st 170 45 := fs7 170 45 rfl rfl
  refine ⟨rfl, ⟨gs7, (show 0 ≤ s7 170 42 ∧ s7 170 42 ≤ 19 from by omega)⟩, ?_⟩
  have e13 : s7 170 43 = ((st 170 43) + 1) := fs7 170 43 rfl rfl
  exact hQ _ ⟨(gInv_up (gInv_up (gInv_up (gInv_up (gInv_up gs7 (p_frame (by omega))) (p_phase (by omega))) (p_begins (by omega))) (p_base (by omega))) (p_deep (by omega))), (fr_f (fr_a (fr_a (fr_a (fr_a (fr_tr (fr_f (fr_rf _ _) rfl) fs7 rfl) rfl) rfl) rfl) rfl) rfl), (show RDr (zup (zup (zup (zup (zup s7 192 (s7 170 42 : Int).toNat k) 193 (s7 170 42 : Int).toNat 0) 194 (s7 170 42 : Int).toNat 1) 196 (s7 170 42 : Int).toNat (s7 170 45)) 170 42 ((s7 170 42) + 1)) t n from (show RDr (zup (zup (zup (zup (zup s7 192 (s7 170 42 : Int).toNat k) 193 (s7 170 42 : Int).toNat 0) 194 (s7 170 42 : Int).toNat 1) 196 (s7 170 42 : Int).toNat (s7 170 45)) 170 42 ((s7 170 42) + 1)) t n from rd7)), (show NXr st (zup (zup (zup (zup (zup s7 192 (s7 170 42 : Int).toNat k) 193 (s7 170 42 : Int).toNat 0) 194 (s7 170 42 : Int).toNat 1) 196 (s7 170 42 : Int).toNat (s7 170 45)) 170 42 ((s7 170 42) + 1)) t n from (show NXr st (zup (zup (zup (zup (zup s7 192 (s7 170 42 : Int).toNat k) 193 (s7 170 42 : Int).toNat 0) 194 (s7 170 42 : Int).toNat 1) 196 (s7 170 42 : Int).toNat (s7 170 45)) 170 42 ((s7 170 42) + 1)) t n from nx7)), (show ((s7 170 42) + 1) = st 170 42 + 1 ∧ s7 170 43 = st 170 43 + 1 from by omega), (show (up1 (s7 192) (s7 170 42 : Int).toNat k) = up1 (st 192) (st 170 42).toNat k from (by rw [show s7 170 42 = st 170 42 from fs7 170 42 rfl rfl, show s7 192 = st 192 from funext (fun i => fs7 192 i rfl rfl)])), (show (up1 (s7 193) (s7 170 42 : Int).toNat 0) = up1 (st 193) (st 170 42).toNat 0 from (by rw [show s7 170 42 = st 170 42 from fs7 170 42 rfl rfl, show s7 193 = st 193 from funext (fun i => fs7 193 i rfl rfl)])), (show (up1 (s7 194) (s7 170 42 : Int).toNat 1) = up1 (st 194) (st 170 42).toNat 1 from (by rw [show s7 170 42 = st 170 42 from fs7 170 42 rfl rfl, show s7 194 = st 194 from funext (fun i => fs7 194 i rfl rfl)])), (show (up1 (s7 196) (s7 170 42 : Int).toNat (s7 170 45)) = up1 (st 196) (st 170 42).toNat (st 170 45) from (by rw [show s7 170 42 = st 170 42 from fs7 170 42 rfl rfl, show s7 196 = st 196 from funext (fun i => fs7 196 i rfl rfl), show s7 170 45 = st 170 45 from fs7 170 45 rfl rfl]))⟩
theorem k_rOpens_m (hTb : aTb zSh rx_tb cl) {t : Int → Int} {n : Int} {D : Nat} (hD : 3 ≤ D) : ∀ as st (Q Q' : zQ), (∀ r st', Q r st' → Q' r st') → (k_rOpens t n) 194 as st Q → cl D 194 as st Q' := by
  intro as st Q Q' hQ h
  unfold k_rOpens at h
  split at h
  · obtain ⟨rfl, h⟩ := h
    exact c_rOpens hTb hD (ct_rOpens_m hQ h)
  · exact h.elim
end Rz1
