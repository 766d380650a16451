/-! printed by wip/p32/libx.py: the class goes to the next word -/
def m_cAdvance : aM := ([(149, 2), (149, 3), (149, 4), (149, 5), (149, 6)], [])
def rq_cAdvance  (st : zS) : Prop := gInv zgt st ∧ ((1 ≤ st 149 3 ∧ st 149 3 ≤ 3) ↔ nbp (fun j : Int => st 2 j.toNat % 256) (st 149 2))
def en_cAdvance  (st : zS) (s1 : zS) : Prop := gInv zgt s1 ∧ aFr m_cAdvance st s1 ∧ (∃ k v s e : Int, TK (fun j : Int => st 2 j.toNat % 256) (st 1 1) (st 149 2) k v s e ∧ CW (s1 149 3) (s1 149 4) (s1 149 5) (s1 149 2) k v s e (st 150))
def ct_cAdvance  (st : zS) (Q : zQ) : Prop := rq_cAdvance  st ∧ (∀ (s1 : zS), en_cAdvance  st s1 → Q none s1)
theorem ct_cAdvance_m {st : zS} {Q Q' : zQ} (hQ : ∀ r st', Q r st' → Q' r st') (h : ct_cAdvance  st Q) : ct_cAdvance  st Q' := ⟨h.1, fun x0 x1 => hQ _ _ (h.2 x0 x1)⟩
def k_cAdvance : zCall := fun _ as st Q => match as with
  | [.inr (.inr (.inl z_o))] => z_o = 149 ∧ ct_cAdvance  st Q
  | _ => False
theorem k_cAdvance_mon : zmon k_cAdvance := by
  intro nu as st Q Q' hQ h
  unfold k_cAdvance at h ⊢
  split at h
  · exact ⟨h.1, ct_cAdvance_m hQ h.2⟩
  · exact h.elim
def m_cRewind : aM := ([(149, 2), (149, 3), (149, 4), (149, 5), (149, 6)], [])
def rq_cRewind  (st : zS) : Prop := gInv zgt st
def en_cRewind  (st : zS) (s1 : zS) : Prop := gInv zgt s1 ∧ aFr m_cRewind st s1 ∧ (∃ k v s e : Int, TK (fun j : Int => st 2 j.toNat % 256) (st 1 1) (0 : Int) k v s e ∧ CW (s1 149 3) (s1 149 4) (s1 149 5) (s1 149 2) k v s e (st 150))
def ct_cRewind  (st : zS) (Q : zQ) : Prop := rq_cRewind  st ∧ (∀ (s1 : zS), en_cRewind  st s1 → Q none s1)
theorem ct_cRewind_m {st : zS} {Q Q' : zQ} (hQ : ∀ r st', Q r st' → Q' r st') (h : ct_cRewind  st Q) : ct_cRewind  st Q' := ⟨h.1, fun x0 x1 => hQ _ _ (h.2 x0 x1)⟩
def k_cRewind : zCall := fun _ as st Q => match as with
  | [.inr (.inr (.inl z_o))] => z_o = 149 ∧ ct_cRewind  st Q
  | _ => False
theorem k_cRewind_mon : zmon k_cRewind := by
  intro nu as st Q Q' hQ h
  unfold k_cRewind at h ⊢
  split at h
  · exact ⟨h.1, ct_cRewind_m hQ h.2⟩
  · exact h.elim
section R95
variable {cl : Nat → zCall}
set_option maxHeartbeats 40000000 in
set_option maxRecDepth 100000 in
theorem c_cAdvance (hTb : aTb zSh rx_tb cl) {D : Nat} (hD : 3 ≤ D) {st : zS} {Q : zQ} (h : ct_cAdvance  st Q) : cl D 143 [.inr (.inr (.inl 149))] st Q := by
  obtain ⟨d, rfl⟩ : ∃ d, D = d + 1 := ⟨D - 1, by omega⟩
  refine hTb d 143 (rx_m143, 3, 0, 0, 0) rfl _ _ _ (Nat.le_of_ble_eq_true rfl) (fun K hcl hsf hsl => ?_)
  have hcm : zmo (wcL [(144, k_cIsWN), (72, k_cAt), (296, k_cIsLetter), (297, k_cIsDigit), (298, k_cTakeWord), (300, k_cTakeNumber)]) (cl d) := (wcL_m (wm_cons (k_cIsWN_m hTb (by omega)) (wm_cons (k_cAt_m hTb (by omega)) (wm_cons (k_cIsLetter_m hTb (by omega)) (wm_cons (k_cIsDigit_m hTb (by omega)) (wm_cons (k_cTakeWord_m hTb (by omega)) (wm_cons (k_cTakeNumber_m hTb (by omega)) wm_nil)))))))
  obtain ⟨hR, hQ⟩ := h
  obtain ⟨hG, nb⟩ := hR
  change (1 ≤ st 149 3 ∧ st 149 3 ≤ 3) ↔ nbp (fun j : Int => st 2 j.toNat % 256) (st 149 2) at nb
  have m185 : ∀ (bh : Int) (ne : Int) (s_m185 : zS), gInv zgt s_m185 ∧ aFr m_cAdvance st s_m185 ∧ ((ne = 0 ∨ ne = 1) ∧ (ne = 1 ↔ nbp (fun j : Int => st 2 j.toNat % 256) (st 149 2)) ∧ bh = st 149 2) ∧ (CP (fun j : Int => st 2 j.toNat % 256) (st 1 1) (st 149 2) (s_m185 149 3) (s_m185 149 4) (s_m185 149 5) (s_m185 149 2) (st 150)) → K (rx_find rx_m143 185) [(2, .inl bh), (1, .inl ne), (0, .inr (.inr (.inl 149)))] [] s_m185 := by
    intro bh ne s_m185 hi
    obtain ⟨gI_m185, fI_m185, ne_m185, c_m185⟩ := hi
    have g0 := g_wAt hG
    have g1 := g_wAt hG
    have g2 := g_tsize hG
    have g3 := g_wKind gI_m185
    have g4 := g_wValue gI_m185
    have g5 := g_wStart gI_m185
    have g6 := g_wAt gI_m185
    refine yr1_ok (Rt := Q) (wc := (wcL [(144, k_cIsWN), (72, k_cAt), (296, k_cIsLetter), (297, k_cIsDigit), (298, k_cTakeWord), (300, k_cTakeNumber)])) (stp := [185]) hcm hcl [] 120 ?_
    show ((ne = (0 : Int) → Q none s_m185) ∧ (¬ (ne = (0 : Int)) → ((¬ bh = s_m185 149 5 → Q none s_m185) ∧ (¬ (¬ bh = s_m185 149 5) → (149 = 149 ∧ (∀ (r7 : Int), en_cIsWN  s_m185 r7 → ((r7 = (0 : Int) → Q none s_m185) ∧ (¬ (r7 = (0 : Int)) → Q none (zup s_m185 149 3 5)))))))))
    refine ⟨fun h8 => ?_, fun h8 => ?_⟩
    · exact hQ _ ⟨gI_m185, fI_m185, (show ∃ k v s e : Int, TK (fun j : Int => st 2 j.toNat % 256) (st 1 1) (st 149 2) k v s e ∧ CW (s_m185 149 3) (s_m185 149 4) (s_m185 149 5) (s_m185 149 2) k v s e (st 150) from CP_tok c_m185 (by omega) (fun z => by have z1 := ne_m185.2.1.mpr z.1; omega))⟩
    · refine ⟨fun h9 => ?_, fun h9 => ?_⟩
      · exact hQ _ ⟨gI_m185, fI_m185, (show ∃ k v s e : Int, TK (fun j : Int => st 2 j.toNat % 256) (st 1 1) (st 149 2) k v s e ∧ CW (s_m185 149 3) (s_m185 149 4) (s_m185 149 5) (s_m185 149 2) k v s e (st 150) from CP_tok c_m185 (by omega) (fun z => by have z1 := ne_m185.2.1.mpr z.1; omega))⟩
      · refine ⟨rfl, fun r7 q7 => ?_⟩
        have b7 := q7
        change (r7 = 0 ∨ r7 = 1) ∧ (r7 = 1 ↔ 1 ≤ s_m185 149 3 ∧ s_m185 149 3 ≤ 3) at b7
        refine ⟨fun h10 => ?_, fun h10 => ?_⟩
        · exact hQ _ ⟨gI_m185, fI_m185, (show ∃ k v s e : Int, TK (fun j : Int => st 2 j.toNat % 256) (st 1 1) (st 149 2) k v s e ∧ CW (s_m185 149 3) (s_m185 149 4) (s_m185 149 5) (s_m185 149 2) k v s e (st 150) from CP_tok c_m185 (by omega) (fun z => by have z1 := ne_m185.2.1.mpr z.1; omega))⟩
        · exact hQ _ ⟨(gInv_up gI_m185 (p_wKind (by omega))), (fr_f fI_m185 rfl), (show ∃ k v s e : Int, TK (fun j : Int => st 2 j.toNat % 256) (st 1 1) (st 149 2) k v s e ∧ CW (5) (s_m185 149 4) (s_m185 149 5) (s_m185 149 2) k v s e (st 150) from CP_bad c_m185 (ne_m185.2.1.mp (by omega)) (by omega) (by omega))⟩
  have lp : ∀ (u : Nat) (bh : Int) (ne : Int) (s_lp : zS), gInv zgt s_lp ∧ aFr m_cAdvance st s_lp ∧ ((ne = 0 ∨ ne = 1) ∧ (ne = 1 ↔ nbp (fun j : Int => st 2 j.toNat % 256) (st 149 2)) ∧ bh = st 149 2) ∧ (st 149 2 ≤ s_lp 149 2 ∧ ∀ j : Int, st 149 2 ≤ j → j < s_lp 149 2 → wbl (tcc (fun j : Int => st 2 j.toNat % 256) (st 1 1) j)) → (st 1 1 - s_lp 149 2 + 1601).toNat = u → K (rx_find rx_m143 10) [(2, .inl bh), (1, .inl ne), (0, .inr (.inr (.inl 149)))] [] s_lp := by
    intro u
    induction u using Nat.strongRecOn with
    | _ u ih =>
      intro bh ne s_lp hi hu
      obtain ⟨gI_lp, fI_lp, ne_lp, b_lp⟩ := hi
      have ce : ∀ k : Int, tcc (fun k => s_lp 2 k.toNat % 256) (s_lp 1 1) k = tcc (fun k => st 2 k.toNat % 256) (st 1 1) k := fun k => by rw [fI_lp 1 1 rfl rfl]; exact tcc_e (fun j _ _ => by show s_lp 2 j.toNat % 256 = st 2 j.toNat % 256; rw [fI_lp 2 _ rfl rfl]) k
      have c1 := ce (s_lp 149 2)
      have cr := tcc_r (st := s_lp) (n := s_lp 1 1) (s_lp 149 2)
      have g11 := g_wAt hG
      have g12 := g_wAt gI_lp
      have g13 := g_tsize hG
      have e14 : s_lp 1 1 = st 1 1 := fI_lp 1 1 rfl rfl
      refine yr1_ok (Rt := Q) (wc := (wcL [(144, k_cIsWN), (72, k_cAt), (296, k_cIsLetter), (297, k_cIsDigit), (298, k_cTakeWord), (300, k_cTakeNumber)])) (stp := [10, 185]) hcm hcl [] 120 ?_
      show ((s_lp 1 1 ≤ s_lp 149 2 → ((s_lp 149 2 < s_lp 1 1 → (1 = 1 ∧ (rq_cAt (s_lp 149 2) (zup (zup s_lp 149 5 (s_lp 149 2)) 149 6 (s_lp 149 2)) ∧ (∀ (r15 : Int), en_cAt (s_lp 149 2) (zup (zup s_lp 149 5 (s_lp 149 2)) 149 6 (s_lp 149 2)) r15 → (∀ (r16 : Int), en_cIsLetter r15 (zup (zup s_lp 149 5 (s_lp 149 2)) 149 6 (s_lp 149 2)) r16 → ((r16 = (0 : Int) → (1 = 1 ∧ (rq_cAt (s_lp 149 2) (zup (zup s_lp 149 5 (s_lp 149 2)) 149 6 (s_lp 149 2)) ∧ (∀ (r17 : Int), en_cAt (s_lp 149 2) (zup (zup s_lp 149 5 (s_lp 149 2)) 149 6 (s_lp 149 2)) r17 → (∀ (r18 : Int), en_cIsDigit r17 (zup (zup s_lp 149 5 (s_lp 149 2)) 149 6 (s_lp 149 2)) r18 → ((r18 = (0 : Int) → (1 = 1 ∧ (rq_cAt (s_lp 149 2) (zup (zup (zup s_lp 149 5 (s_lp 149 2)) 149 6 (s_lp 149 2)) 149 3 4) ∧ (∀ (r19 : Int), en_cAt (s_lp 149 2) (zup (zup (zup s_lp 149 5 (s_lp 149 2)) 149 6 (s_lp 149 2)) 149 3 4) r19 → ((-2147483648 ≤ (s_lp 149 2) + 1 ∧ (s_lp 149 2) + 1 ≤ 2147483647) ∧ K (rx_find rx_m143 185) [(2, .inl bh), (1, .inl ne), (0, .inr (.inr (.inl 149)))] [] (zup (zup (zup (zup (zup s_lp 149 5 (s_lp 149 2)) 149 6 (s_lp 149 2)) 149 3 4) 149 4 r19) 149 2 ((s_lp 149 2) + 1))))))) ∧ (¬ (r18 = (0 : Int)) → (149 = 149 ∧ (rq_cTakeNumber  (zup (zup s_lp 149 5 (s_lp 149 2)) 149 6 (s_lp 149 2)) ∧ (∀ (s20 : zS), en_cTakeNumber  (zup (zup s_lp 149 5 (s_lp 149 2)) 149 6 (s_lp 149 2)) s20 → K (rx_find rx_m143 185) [(2, .inl bh), (1, .inl ne), (0, .inr (.inr (.inl 149)))] [] s20)))))))))) ∧ (¬ (r16 = (0 : Int)) → (149 = 149 ∧ (rq_cTakeWord  (zup (zup s_lp 149 5 (s_lp 149 2)) 149 6 (s_lp 149 2)) ∧ (∀ (s21 : zS), en_cTakeWord  (zup (zup s_lp 149 5 (s_lp 149 2)) 149 6 (s_lp 149 2)) s21 → K (rx_find rx_m143 185) [(2, .inl bh), (1, .inl ne), (0, .inr (.inr (.inl 149)))] [] s21)))))))))) ∧ (¬ (s_lp 149 2 < s_lp 1 1) → K (rx_find rx_m143 185) [(2, .inl bh), (1, .inl ne), (0, .inr (.inr (.inl 149)))] [] (zup (zup (zup s_lp 149 5 (s_lp 149 2)) 149 6 (s_lp 149 2)) 149 3 0)))) ∧ (¬ (s_lp 1 1 ≤ s_lp 149 2) → (1 = 1 ∧ (rq_cAt (s_lp 149 2) s_lp ∧ (∀ (r22 : Int), en_cAt (s_lp 149 2) s_lp r22 → ((r22 = (32 : Int) → ((-2147483648 ≤ (s_lp 149 2) + 1 ∧ (s_lp 149 2) + 1 ≤ 2147483647) ∧ K (rx_find rx_m143 10) [(2, .inl bh), (1, .inl ne), (0, .inr (.inr (.inl 149)))] [] (zup s_lp 149 2 ((s_lp 149 2) + 1)))) ∧ (¬ (r22 = (32 : Int)) → (1 = 1 ∧ (rq_cAt (s_lp 149 2) s_lp ∧ (∀ (r23 : Int), en_cAt (s_lp 149 2) s_lp r23 → ((¬ r23 = (10 : Int) → ((s_lp 149 2 < s_lp 1 1 → (1 = 1 ∧ (rq_cAt (s_lp 149 2) (zup (zup s_lp 149 5 (s_lp 149 2)) 149 6 (s_lp 149 2)) ∧ (∀ (r24 : Int), en_cAt (s_lp 149 2) (zup (zup s_lp 149 5 (s_lp 149 2)) 149 6 (s_lp 149 2)) r24 → (∀ (r25 : Int), en_cIsLetter r24 (zup (zup s_lp 149 5 (s_lp 149 2)) 149 6 (s_lp 149 2)) r25 → ((r25 = (0 : Int) → (1 = 1 ∧ (rq_cAt (s_lp 149 2) (zup (zup s_lp 149 5 (s_lp 149 2)) 149 6 (s_lp 149 2)) ∧ (∀ (r26 : Int), en_cAt (s_lp 149 2) (zup (zup s_lp 149 5 (s_lp 149 2)) 149 6 (s_lp 149 2)) r26 → (∀ (r27 : Int), en_cIsDigit r26 (zup (zup s_lp 149 5 (s_lp 149 2)) 149 6 (s_lp 149 2)) r27 → ((r27 = (0 : Int) → (1 = 1 ∧ (rq_cAt (s_lp 149 2) (zup (zup (zup s_lp 149 5 (s_lp 149 2)) 149 6 (s_lp 149 2)) 149 3 4) ∧ (∀ (r28 : Int), en_cAt (s_lp 149 2) (zup (zup (zup s_lp 149 5 (s_lp 149 2)) 149 6 (s_lp 149 2)) 149 3 4) r28 → ((-2147483648 ≤ (s_lp 149 2) + 1 ∧ (s_lp 149 2) + 1 ≤ 2147483647) ∧ K (rx_find rx_m143 185) [(2, .inl bh), (1, .inl ne), (0, .inr (.inr (.inl 149)))] [] (zup (zup (zup (zup (zup s_lp 149 5 (s_lp 149 2)) 149 6 (s_lp 149 2)) 149 3 4) 149 4 r28) 149 2 ((s_lp 149 2) + 1))))))) ∧ (¬ (r27 = (0 : Int)) → (149 = 149 ∧ (rq_cTakeNumber  (zup (zup s_lp 149 5 (s_lp 149 2)) 149 6 (s_lp 149 2)) ∧ (∀ (s29 : zS), en_cTakeNumber  (zup (zup s_lp 149 5 (s_lp 149 2)) 149 6 (s_lp 149 2)) s29 → K (rx_find rx_m143 185) [(2, .inl bh), (1, .inl ne), (0, .inr (.inr (.inl 149)))] [] s29)))))))))) ∧ (¬ (r25 = (0 : Int)) → (149 = 149 ∧ (rq_cTakeWord  (zup (zup s_lp 149 5 (s_lp 149 2)) 149 6 (s_lp 149 2)) ∧ (∀ (s30 : zS), en_cTakeWord  (zup (zup s_lp 149 5 (s_lp 149 2)) 149 6 (s_lp 149 2)) s30 → K (rx_find rx_m143 185) [(2, .inl bh), (1, .inl ne), (0, .inr (.inr (.inl 149)))] [] s30)))))))))) ∧ (¬ (s_lp 149 2 < s_lp 1 1) → K (rx_find rx_m143 185) [(2, .inl bh), (1, .inl ne), (0, .inr (.inr (.inl 149)))] [] (zup (zup (zup s_lp 149 5 (s_lp 149 2)) 149 6 (s_lp 149 2)) 149 3 0)))) ∧ (¬ (¬ r23 = (10 : Int)) → ((-2147483648 ≤ (s_lp 149 2) + 1 ∧ (s_lp 149 2) + 1 ≤ 2147483647) ∧ K (rx_find rx_m143 10) [(2, .inl bh), (1, .inl ne), (0, .inr (.inr (.inl 149)))] [] (zup s_lp 149 2 ((s_lp 149 2) + 1)))))))))))))))
      refine ⟨fun h31 => ?_, fun h31 => ?_⟩
      · refine ⟨fun h32 => ?_, fun h32 => ?_⟩
        · refine ⟨rfl, (gInv_up (gInv_up gI_lp (p_wStart (by omega))) (p_wSpot (by omega))), fun r15 q15 => ?_⟩
          have e15 := q15
          change r15 = tcc (fun j : Int => s_lp 2 j.toNat % 256) (s_lp 1 1) ((s_lp 149 2)) at e15
          refine fun r16 q16 => ?_
          have b16 := q16
          change (r16 = 0 ∨ r16 = 1) ∧ (r16 = 1 ↔ 97 ≤ r15 ∧ r15 ≤ 122) at b16
          refine ⟨fun h33 => ?_, fun h33 => ?_⟩
          · refine ⟨rfl, (gInv_up (gInv_up gI_lp (p_wStart (by omega))) (p_wSpot (by omega))), fun r17 q17 => ?_⟩
            have e17 := q17
            change r17 = tcc (fun j : Int => s_lp 2 j.toNat % 256) (s_lp 1 1) ((s_lp 149 2)) at e17
            refine fun r18 q18 => ?_
            have b18 := q18
            change (r18 = 0 ∨ r18 = 1) ∧ (r18 = 1 ↔ 48 ≤ r17 ∧ r17 ≤ 57) at b18
            refine ⟨fun h34 => ?_, fun h34 => ?_⟩
            · refine ⟨rfl, (gInv_up (gInv_up (gInv_up gI_lp (p_wStart (by omega))) (p_wSpot (by omega))) (p_wKind (by omega))), fun r19 q19 => ?_⟩
              have e19 := q19
              change r19 = tcc (fun j : Int => s_lp 2 j.toNat % 256) (s_lp 1 1) ((s_lp 149 2)) at e19
              refine ⟨by omega, ?_⟩
              exact m185 bh ne (zup (zup (zup (zup (zup s_lp 149 5 (s_lp 149 2)) 149 6 (s_lp 149 2)) 149 3 4) 149 4 r19) 149 2 ((s_lp 149 2) + 1)) ⟨(gInv_up (gInv_up (gInv_up (gInv_up (gInv_up gI_lp (p_wStart (by omega))) (p_wSpot (by omega))) (p_wKind (by omega))) (p_wValue (by omega))) (p_wAt (by omega))), (fr_f (fr_f (fr_f (fr_f (fr_f fI_lp rfl) rfl) rfl) rfl) rfl), (show (ne = 0 ∨ ne = 1) ∧ (ne = 1 ↔ nbp (fun j : Int => st 2 j.toNat % 256) (st 149 2)) ∧ bh = st 149 2 from ne_lp), (show CP (fun j : Int => st 2 j.toNat % 256) (st 1 1) (st 149 2) (4) (r19) ((s_lp 149 2)) (((s_lp 149 2) + 1)) (st 150) from by
          have zi : tcc (fun k => st 2 k.toNat % 256) (st 1 1) (s_lp 149 2) = (fun k => st 2 k.toNat % 256) (s_lp 149 2) := tcc_in (by omega)
          refine ⟨⟨b_lp.1, b_lp.2, fun z => ?_⟩, Or.inr (Or.inr (Or.inr ⟨by omega, fun z => ?_, fun z => ?_, rfl, ?_, rfl⟩))⟩
          · have z : wbl (tcc (fun k => st 2 k.toNat % 256) (st 1 1) (s_lp 149 2)) := z
            unfold wbl at z
            omega
          · rw [← zi] at z
            unfold wle at z
            omega
          · rw [← zi] at z
            unfold wdi at z
            omega
          · rw [← zi]; omega)⟩
            · refine ⟨rfl, ⟨(gInv_up (gInv_up gI_lp (p_wStart (by omega))) (p_wSpot (by omega))), (show wdi (tcc (fun j : Int => s_lp 2 j.toNat % 256) (s_lp 1 1) (s_lp 149 2)) from by
          have z1 : wdi (tcc (fun k => st 2 k.toNat % 256) (st 1 1) (s_lp 149 2)) := by unfold wdi; omega
          rw [← ce] at z1
          exact z1)⟩, fun s20 q20 => ?_⟩
              obtain ⟨gs20, fs20, w20⟩ := q20
              change cNum (fun j : Int => s_lp 2 j.toNat % 256) (s_lp 1 1) (s_lp 149 2) (s20 149 2) (s20 149 3) (s20 149 4) at w20
              have g35 := g_wAt gs20
              have g36 := g_wKind gs20
              have g37 := g_wValue gs20
              have e38 : s20 149 5 = (s_lp 149 2) := fs20 149 5 rfl rfl
              exact m185 bh ne s20 ⟨gs20, (fr_tr (fr_f (fr_f fI_lp rfl) rfl) fs20 rfl), (show (ne = 0 ∨ ne = 1) ∧ (ne = 1 ↔ nbp (fun j : Int => st 2 j.toNat % 256) (st 149 2)) ∧ bh = st 149 2 from ne_lp), (show CP (fun j : Int => st 2 j.toNat % 256) (st 1 1) (st 149 2) (s20 149 3) (s20 149 4) (s20 149 5) (s20 149 2) (st 150) from by
          have zq : wdi (tcc (fun k => st 2 k.toNat % 256) (st 1 1) (s_lp 149 2)) := by unfold wdi; omega
          have zi := tcc_di zq
          have es : s20 149 5 = s_lp 149 2 := by omega
          refine ⟨⟨by rw [es]; exact b_lp.1, by rw [es]; exact b_lp.2, fun z => ?_⟩, ?_⟩
          · rw [es] at z
            have z : wbl (tcc (fun k => st 2 k.toNat % 256) (st 1 1) (s_lp 149 2)) := z
            unfold wbl at z
            unfold wdi at zq
            omega
          · rw [es]
            refine (Or.inr (Or.inr (Or.inl ⟨zi.1.2, (by show wdi (st 2 (s_lp 149 2).toNat % 256); rw [← zi.2]; exact zq), ?_⟩)))
            have e1 : s_lp 1 1 = st 1 1 := fI_lp 1 1 rfl rfl
            have e2 : (fun k : Int => s_lp 2 k.toNat % 256) = (fun k => st 2 k.toNat % 256) := by funext k; rw [fI_lp 2 _ rfl rfl]
            have e3 : s_lp 150 = st 150 := funext (fun i => fI_lp 150 i rfl rfl)
            have z : cNum (fun k => s_lp 2 k.toNat % 256) (s_lp 1 1) (s_lp 149 2) (s20 149 2) (s20 149 3) (s20 149 4) := w20
            rw [e1, e2] at z
            exact z)⟩
          · refine ⟨rfl, ⟨(gInv_up (gInv_up gI_lp (p_wStart (by omega))) (p_wSpot (by omega))), (show wle (tcc (fun j : Int => s_lp 2 j.toNat % 256) (s_lp 1 1) (s_lp 149 2)) from by
          have z1 : wle (tcc (fun k => st 2 k.toNat % 256) (st 1 1) (s_lp 149 2)) := by unfold wle; omega
          rw [← ce] at z1
          exact z1)⟩, fun s21 q21 => ?_⟩
            obtain ⟨gs21, fs21, w21⟩ := q21
            change cWrd (fun j : Int => s_lp 2 j.toNat % 256) (s_lp 1 1) (s_lp 149 2) (s21 149 2) (s21 149 3) (s21 149 4) ((zup (zup s_lp 149 5 (s_lp 149 2)) 149 6 (s_lp 149 2)) 150) at w21
            have g39 := g_wAt gs21
            have g40 := g_wKind gs21
            have g41 := g_wValue gs21
            have e42 : s21 149 5 = (s_lp 149 2) := fs21 149 5 rfl rfl
            exact m185 bh ne s21 ⟨gs21, (fr_tr (fr_f (fr_f fI_lp rfl) rfl) fs21 rfl), (show (ne = 0 ∨ ne = 1) ∧ (ne = 1 ↔ nbp (fun j : Int => st 2 j.toNat % 256) (st 149 2)) ∧ bh = st 149 2 from ne_lp), (show CP (fun j : Int => st 2 j.toNat % 256) (st 1 1) (st 149 2) (s21 149 3) (s21 149 4) (s21 149 5) (s21 149 2) (st 150) from by
          have zq : wle (tcc (fun k => st 2 k.toNat % 256) (st 1 1) (s_lp 149 2)) := by unfold wle; omega
          have zi := tcc_le zq
          have es : s21 149 5 = s_lp 149 2 := by omega
          refine ⟨⟨by rw [es]; exact b_lp.1, by rw [es]; exact b_lp.2, fun z => ?_⟩, ?_⟩
          · rw [es] at z
            have z : wbl (tcc (fun k => st 2 k.toNat % 256) (st 1 1) (s_lp 149 2)) := z
            unfold wbl at z
            unfold wle at zq
            omega
          · rw [es]
            refine (Or.inr (Or.inl ⟨zi.1.2, (by show wle (st 2 (s_lp 149 2).toNat % 256); rw [← zi.2]; exact zq), ?_⟩))
            have e1 : s_lp 1 1 = st 1 1 := fI_lp 1 1 rfl rfl
            have e2 : (fun k : Int => s_lp 2 k.toNat % 256) = (fun k => st 2 k.toNat % 256) := by funext k; rw [fI_lp 2 _ rfl rfl]
            have e3 : s_lp 150 = st 150 := funext (fun i => fI_lp 150 i rfl rfl)
            have z : cWrd (fun k => s_lp 2 k.toNat % 256) (s_lp 1 1) (s_lp 149 2) (s21 149 2) (s21 149 3) (s21 149 4) (s_lp 150) := w21
            rw [e1, e2, e3] at z
            exact z)⟩
        · have g43 := g_wValue gI_lp
          exact m185 bh ne (zup (zup (zup s_lp 149 5 (s_lp 149 2)) 149 6 (s_lp 149 2)) 149 3 0) ⟨(gInv_up (gInv_up (gInv_up gI_lp (p_wStart (by omega))) (p_wSpot (by omega))) (p_wKind (by omega))), (fr_f (fr_f (fr_f fI_lp rfl) rfl) rfl), (show (ne = 0 ∨ ne = 1) ∧ (ne = 1 ↔ nbp (fun j : Int => st 2 j.toNat % 256) (st 149 2)) ∧ bh = st 149 2 from ne_lp), (show CP (fun j : Int => st 2 j.toNat % 256) (st 1 1) (st 149 2) (0) (s_lp 149 4) ((s_lp 149 2)) (s_lp 149 2) (st 150) from by
          refine ⟨⟨b_lp.1, b_lp.2, fun z => ?_⟩, Or.inl ⟨by omega, rfl, rfl⟩⟩
          have z : wbl (tcc (fun k => st 2 k.toNat % 256) (st 1 1) (s_lp 149 2)) := z
          rw [tcc_out (by omega)] at z
          unfold wbl at z
          omega)⟩
      · refine ⟨rfl, gI_lp, fun r22 q22 => ?_⟩
        have e22 := q22
        change r22 = tcc (fun j : Int => s_lp 2 j.toNat % 256) (s_lp 1 1) ((s_lp 149 2)) at e22
        refine ⟨fun h44 => ?_, fun h44 => ?_⟩
        · refine ⟨by omega, ?_⟩
          exact ih _ (show (st 1 1 - ((s_lp 149 2) + 1) + 1601 : Int).toNat < u from by omega) bh ne (zup s_lp 149 2 ((s_lp 149 2) + 1)) ⟨(gInv_up gI_lp (p_wAt (by omega))), (fr_f fI_lp rfl), (show (ne = 0 ∨ ne = 1) ∧ (ne = 1 ↔ nbp (fun j : Int => st 2 j.toNat % 256) (st 149 2)) ∧ bh = st 149 2 from ne_lp), (show st 149 2 ≤ ((s_lp 149 2) + 1) ∧ ∀ j : Int, st 149 2 ≤ j → j < ((s_lp 149 2) + 1) → wbl (tcc (fun j : Int => st 2 j.toNat % 256) (st 1 1) j) from ⟨by omega, fun j z1 z2 => by
            by_cases z3 : j = s_lp 149 2
            · rw [z3]; unfold wbl; omega
            · exact b_lp.2 j z1 (by omega)⟩)⟩ rfl
        · refine ⟨rfl, gI_lp, fun r23 q23 => ?_⟩
          have e23 := q23
          change r23 = tcc (fun j : Int => s_lp 2 j.toNat % 256) (s_lp 1 1) ((s_lp 149 2)) at e23
          refine ⟨fun h45 => ?_, fun h45 => ?_⟩
          · refine ⟨fun h46 => ?_, fun h46 => ?_⟩
            · refine ⟨rfl, (gInv_up (gInv_up gI_lp (p_wStart (by omega))) (p_wSpot (by omega))), fun r24 q24 => ?_⟩
              have e24 := q24
              change r24 = tcc (fun j : Int => s_lp 2 j.toNat % 256) (s_lp 1 1) ((s_lp 149 2)) at e24
              refine fun r25 q25 => ?_
              have b25 := q25
              change (r25 = 0 ∨ r25 = 1) ∧ (r25 = 1 ↔ 97 ≤ r24 ∧ r24 ≤ 122) at b25
              refine ⟨fun h47 => ?_, fun h47 => ?_⟩
              · refine ⟨rfl, (gInv_up (gInv_up gI_lp (p_wStart (by omega))) (p_wSpot (by omega))), fun r26 q26 => ?_⟩
                have e26 := q26
                change r26 = tcc (fun j : Int => s_lp 2 j.toNat % 256) (s_lp 1 1) ((s_lp 149 2)) at e26
                refine fun r27 q27 => ?_
                have b27 := q27
                change (r27 = 0 ∨ r27 = 1) ∧ (r27 = 1 ↔ 48 ≤ r26 ∧ r26 ≤ 57) at b27
                refine ⟨fun h48 => ?_, fun h48 => ?_⟩
                · refine ⟨rfl, (gInv_up (gInv_up (gInv_up gI_lp (p_wStart (by omega))) (p_wSpot (by omega))) (p_wKind (by omega))), fun r28 q28 => ?_⟩
                  have e28 := q28
                  change r28 = tcc (fun j : Int => s_lp 2 j.toNat % 256) (s_lp 1 1) ((s_lp 149 2)) at e28
                  refine ⟨by omega, ?_⟩
                  exact m185 bh ne (zup (zup (zup (zup (zup s_lp 149 5 (s_lp 149 2)) 149 6 (s_lp 149 2)) 149 3 4) 149 4 r28) 149 2 ((s_lp 149 2) + 1)) ⟨(gInv_up (gInv_up (gInv_up (gInv_up (gInv_up gI_lp (p_wStart (by omega))) (p_wSpot (by omega))) (p_wKind (by omega))) (p_wValue (by omega))) (p_wAt (by omega))), (fr_f (fr_f (fr_f (fr_f (fr_f fI_lp rfl) rfl) rfl) rfl) rfl), (show (ne = 0 ∨ ne = 1) ∧ (ne = 1 ↔ nbp (fun j : Int => st 2 j.toNat % 256) (st 149 2)) ∧ bh = st 149 2 from ne_lp), (show CP (fun j : Int => st 2 j.toNat % 256) (st 1 1) (st 149 2) (4) (r28) ((s_lp 149 2)) (((s_lp 149 2) + 1)) (st 150) from by
          have zi : tcc (fun k => st 2 k.toNat % 256) (st 1 1) (s_lp 149 2) = (fun k => st 2 k.toNat % 256) (s_lp 149 2) := tcc_in (by omega)
          refine ⟨⟨b_lp.1, b_lp.2, fun z => ?_⟩, Or.inr (Or.inr (Or.inr ⟨by omega, fun z => ?_, fun z => ?_, rfl, ?_, rfl⟩))⟩
          · have z : wbl (tcc (fun k => st 2 k.toNat % 256) (st 1 1) (s_lp 149 2)) := z
            unfold wbl at z
            omega
          · rw [← zi] at z
            unfold wle at z
            omega
          · rw [← zi] at z
            unfold wdi at z
            omega
          · rw [← zi]; omega)⟩
                · refine ⟨rfl, ⟨(gInv_up (gInv_up gI_lp (p_wStart (by omega))) (p_wSpot (by omega))), (show wdi (tcc (fun j : Int => s_lp 2 j.toNat % 256) (s_lp 1 1) (s_lp 149 2)) from by
          have z1 : wdi (tcc (fun k => st 2 k.toNat % 256) (st 1 1) (s_lp 149 2)) := by unfold wdi; omega
          rw [← ce] at z1
          exact z1)⟩, fun s29 q29 => ?_⟩
                  obtain ⟨gs29, fs29, w29⟩ := q29
                  change cNum (fun j : Int => s_lp 2 j.toNat % 256) (s_lp 1 1) (s_lp 149 2) (s29 149 2) (s29 149 3) (s29 149 4) at w29
                  have g49 := g_wAt gs29
                  have g50 := g_wKind gs29
                  have g51 := g_wValue gs29
                  have e52 : s29 149 5 = (s_lp 149 2) := fs29 149 5 rfl rfl
                  exact m185 bh ne s29 ⟨gs29, (fr_tr (fr_f (fr_f fI_lp rfl) rfl) fs29 rfl), (show (ne = 0 ∨ ne = 1) ∧ (ne = 1 ↔ nbp (fun j : Int => st 2 j.toNat % 256) (st 149 2)) ∧ bh = st 149 2 from ne_lp), (show CP (fun j : Int => st 2 j.toNat % 256) (st 1 1) (st 149 2) (s29 149 3) (s29 149 4) (s29 149 5) (s29 149 2) (st 150) from by
          have zq : wdi (tcc (fun k => st 2 k.toNat % 256) (st 1 1) (s_lp 149 2)) := by unfold wdi; omega
          have zi := tcc_di zq
          have es : s29 149 5 = s_lp 149 2 := by omega
          refine ⟨⟨by rw [es]; exact b_lp.1, by rw [es]; exact b_lp.2, fun z => ?_⟩, ?_⟩
          · rw [es] at z
            have z : wbl (tcc (fun k => st 2 k.toNat % 256) (st 1 1) (s_lp 149 2)) := z
            unfold wbl at z
            unfold wdi at zq
            omega
          · rw [es]
            refine (Or.inr (Or.inr (Or.inl ⟨zi.1.2, (by show wdi (st 2 (s_lp 149 2).toNat % 256); rw [← zi.2]; exact zq), ?_⟩)))
            have e1 : s_lp 1 1 = st 1 1 := fI_lp 1 1 rfl rfl
            have e2 : (fun k : Int => s_lp 2 k.toNat % 256) = (fun k => st 2 k.toNat % 256) := by funext k; rw [fI_lp 2 _ rfl rfl]
            have e3 : s_lp 150 = st 150 := funext (fun i => fI_lp 150 i rfl rfl)
            have z : cNum (fun k => s_lp 2 k.toNat % 256) (s_lp 1 1) (s_lp 149 2) (s29 149 2) (s29 149 3) (s29 149 4) := w29
            rw [e1, e2] at z
            exact z)⟩
              · refine ⟨rfl, ⟨(gInv_up (gInv_up gI_lp (p_wStart (by omega))) (p_wSpot (by omega))), (show wle (tcc (fun j : Int => s_lp 2 j.toNat % 256) (s_lp 1 1) (s_lp 149 2)) from by
          have z1 : wle (tcc (fun k => st 2 k.toNat % 256) (st 1 1) (s_lp 149 2)) := by unfold wle; omega
          rw [← ce] at z1
          exact z1)⟩, fun s30 q30 => ?_⟩
                obtain ⟨gs30, fs30, w30⟩ := q30
                change cWrd (fun j : Int => s_lp 2 j.toNat % 256) (s_lp 1 1) (s_lp 149 2) (s30 149 2) (s30 149 3) (s30 149 4) ((zup (zup s_lp 149 5 (s_lp 149 2)) 149 6 (s_lp 149 2)) 150) at w30
                have g53 := g_wAt gs30
                have g54 := g_wKind gs30
                have g55 := g_wValue gs30
                have e56 : s30 149 5 = (s_lp 149 2) := fs30 149 5 rfl rfl
                exact m185 bh ne s30 ⟨gs30, (fr_tr (fr_f (fr_f fI_lp rfl) rfl) fs30 rfl), (show (ne = 0 ∨ ne = 1) ∧ (ne = 1 ↔ nbp (fun j : Int => st 2 j.toNat % 256) (st 149 2)) ∧ bh = st 149 2 from ne_lp), (show CP (fun j : Int => st 2 j.toNat % 256) (st 1 1) (st 149 2) (s30 149 3) (s30 149 4) (s30 149 5) (s30 149 2) (st 150) from by
          have zq : wle (tcc (fun k => st 2 k.toNat % 256) (st 1 1) (s_lp 149 2)) := by unfold wle; omega
          have zi := tcc_le zq
          have es : s30 149 5 = s_lp 149 2 := by omega
          refine ⟨⟨by rw [es]; exact b_lp.1, by rw [es]; exact b_lp.2, fun z => ?_⟩, ?_⟩
          · rw [es] at z
            have z : wbl (tcc (fun k => st 2 k.toNat % 256) (st 1 1) (s_lp 149 2)) := z
            unfold wbl at z
            unfold wle at zq
            omega
          · rw [es]
            refine (Or.inr (Or.inl ⟨zi.1.2, (by show wle (st 2 (s_lp 149 2).toNat % 256); rw [← zi.2]; exact zq), ?_⟩))
            have e1 : s_lp 1 1 = st 1 1 := fI_lp 1 1 rfl rfl
            have e2 : (fun k : Int => s_lp 2 k.toNat % 256) = (fun k => st 2 k.toNat % 256) := by funext k; rw [fI_lp 2 _ rfl rfl]
            have e3 : s_lp 150 = st 150 := funext (fun i => fI_lp 150 i rfl rfl)
            have z : cWrd (fun k => s_lp 2 k.toNat % 256) (s_lp 1 1) (s_lp 149 2) (s30 149 2) (s30 149 3) (s30 149 4) (s_lp 150) := w30
            rw [e1, e2, e3] at z
            exact z)⟩
            · have g57 := g_wValue gI_lp
              exact m185 bh ne (zup (zup (zup s_lp 149 5 (s_lp 149 2)) 149 6 (s_lp 149 2)) 149 3 0) ⟨(gInv_up (gInv_up (gInv_up gI_lp (p_wStart (by omega))) (p_wSpot (by omega))) (p_wKind (by omega))), (fr_f (fr_f (fr_f fI_lp rfl) rfl) rfl), (show (ne = 0 ∨ ne = 1) ∧ (ne = 1 ↔ nbp (fun j : Int => st 2 j.toNat % 256) (st 149 2)) ∧ bh = st 149 2 from ne_lp), (show CP (fun j : Int => st 2 j.toNat % 256) (st 1 1) (st 149 2) (0) (s_lp 149 4) ((s_lp 149 2)) (s_lp 149 2) (st 150) from by
          refine ⟨⟨b_lp.1, b_lp.2, fun z => ?_⟩, Or.inl ⟨by omega, rfl, rfl⟩⟩
          have z : wbl (tcc (fun k => st 2 k.toNat % 256) (st 1 1) (s_lp 149 2)) := z
          rw [tcc_out (by omega)] at z
          unfold wbl at z
          omega)⟩
          · refine ⟨by omega, ?_⟩
            exact ih _ (show (st 1 1 - ((s_lp 149 2) + 1) + 1601 : Int).toNat < u from by omega) bh ne (zup s_lp 149 2 ((s_lp 149 2) + 1)) ⟨(gInv_up gI_lp (p_wAt (by omega))), (fr_f fI_lp rfl), (show (ne = 0 ∨ ne = 1) ∧ (ne = 1 ↔ nbp (fun j : Int => st 2 j.toNat % 256) (st 149 2)) ∧ bh = st 149 2 from ne_lp), (show st 149 2 ≤ ((s_lp 149 2) + 1) ∧ ∀ j : Int, st 149 2 ≤ j → j < ((s_lp 149 2) + 1) → wbl (tcc (fun j : Int => st 2 j.toNat % 256) (st 1 1) j) from ⟨by omega, fun j z1 z2 => by
            by_cases z3 : j = s_lp 149 2
            · rw [z3]; unfold wbl; omega
            · exact b_lp.2 j z1 (by omega)⟩)⟩ rfl
  have g58 := g_wAt hG
  refine yr1_ok (Rt := Q) (wc := (wcL [(144, k_cIsWN), (72, k_cAt), (296, k_cIsLetter), (297, k_cIsDigit), (298, k_cTakeWord), (300, k_cTakeNumber)])) (stp := [10, 185]) hcm hcl [] 120 ?_
  show (149 = 149 ∧ (∀ (r59 : Int), en_cIsWN  st r59 → K (rx_find rx_m143 10) [(2, .inl (st 149 2)), (1, .inl r59), (0, .inr (.inr (.inl 149)))] [] st))
  refine ⟨rfl, fun r59 q59 => ?_⟩
  have b59 := q59
  change (r59 = 0 ∨ r59 = 1) ∧ (r59 = 1 ↔ 1 ≤ st 149 3 ∧ st 149 3 ≤ 3) at b59
  have g60 := g_wKind hG
  have g61 := g_tsize hG
  exact lp _ (st 149 2) r59 st ⟨hG, (fr_rf _ _), (show (r59 = 0 ∨ r59 = 1) ∧ (r59 = 1 ↔ nbp (fun j : Int => st 2 j.toNat % 256) (st 149 2)) ∧ (st 149 2) = st 149 2 from ⟨b59.1, b59.2.trans nb, rfl⟩), (show st 149 2 ≤ st 149 2 ∧ ∀ j : Int, st 149 2 ≤ j → j < st 149 2 → wbl (tcc (fun j : Int => st 2 j.toNat % 256) (st 1 1) j) from ⟨Int.le_refl _, fun j z1 z2 => by omega⟩)⟩ rfl
theorem k_cAdvance_m (hTb : aTb zSh rx_tb cl) {D : Nat} (hD : 3 ≤ D) : ∀ as st (Q Q' : zQ), (∀ r st', Q r st' → Q' r st') → k_cAdvance 143 as st Q → cl D 143 as st Q' := by
  intro as st Q Q' hQ h
  unfold k_cAdvance at h
  split at h
  · obtain ⟨rfl, h⟩ := h
    exact c_cAdvance hTb hD (ct_cAdvance_m hQ h)
  · exact h.elim
set_option maxHeartbeats 40000000 in
set_option maxRecDepth 100000 in
theorem c_cRewind (hTb : aTb zSh rx_tb cl) {D : Nat} (hD : 4 ≤ D) {st : zS} {Q : zQ} (h : ct_cRewind  st Q) : cl D 142 [.inr (.inr (.inl 149))] st Q := by
  obtain ⟨d, rfl⟩ : ∃ d, D = d + 1 := ⟨D - 1, by omega⟩
  refine hTb d 142 (rx_m142, 1, 0, 0, 0) rfl _ _ _ (Nat.le_of_ble_eq_true rfl) (fun K hcl hsf hsl => ?_)
  have hcm : zmo (wcL [(143, k_cAdvance)]) (cl d) := (wcL_m (wm_cons (k_cAdvance_m hTb (by omega)) wm_nil))
  obtain ⟨hR, hQ⟩ := h
  have hG := hR
  refine yr1_ok (Rt := Q) (wc := (wcL [(143, k_cAdvance)])) (stp := []) hcm hcl [] 29 ?_
  show (149 = 149 ∧ (rq_cAdvance  (zup (zup st 149 2 0) 149 3 0) ∧ (∀ (s1 : zS), en_cAdvance  (zup (zup st 149 2 0) 149 3 0) s1 → Q none s1)))
  refine ⟨rfl, ⟨(gInv_up (gInv_up hG (p_wAt (by omega))) (p_wKind (by omega))), (show (1 ≤ 0 ∧ 0 ≤ 3) ↔ nbp (fun j : Int => st 2 j.toNat % 256) (0) from ⟨fun z => by omega, fun z => absurd z.1 (by decide)⟩)⟩, fun s1 q1 => ?_⟩
  obtain ⟨gs1, fs1, k1⟩ := q1
  change ∃ k v s e : Int, TK (fun j : Int => st 2 j.toNat % 256) (st 1 1) (0) k v s e ∧ CW (s1 149 3) (s1 149 4) (s1 149 5) (s1 149 2) k v s e ((zup (zup st 149 2 0) 149 3 0) 150) at k1
  have g2 := g_tsize hG
  have g3 := g_wKind gs1
  have g4 := g_wValue gs1
  have g5 := g_wStart gs1
  have g6 := g_wAt gs1
  exact hQ _ ⟨gs1, (fr_tr (fr_f (fr_f (fr_rf _ _) rfl) rfl) fs1 rfl), (show ∃ k v s e : Int, TK (fun j : Int => st 2 j.toNat % 256) (st 1 1) (0 : Int) k v s e ∧ CW (s1 149 3) (s1 149 4) (s1 149 5) (s1 149 2) k v s e (st 150) from k1)⟩
theorem k_cRewind_m (hTb : aTb zSh rx_tb cl) {D : Nat} (hD : 4 ≤ D) : ∀ as st (Q Q' : zQ), (∀ r st', Q r st' → Q' r st') → k_cRewind 142 as st Q → cl D 142 as st Q' := by
  intro as st Q Q' hQ h
  unfold k_cRewind at h
  split at h
  · obtain ⟨rfl, h⟩ := h
    exact c_cRewind hTb hD (ct_cRewind_m hQ h)
  · exact h.elim
end R95
