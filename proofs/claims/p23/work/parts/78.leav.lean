/-! printed by wip/p32/libg.py: a loop is left out -/
def m_leavesOut : aM := ([(170, 62)], [210, 211])
def rq_leavesOut  (st : zS) : Prop := gInv zgt st ∧ (goA st)
def en_leavesOut  (st : zS) (s1 : zS) : Prop := gInv zgt s1 ∧ aFr m_leavesOut st s1 ∧ (goA s1)
def ct_leavesOut  (st : zS) (Q : zQ) : Prop := rq_leavesOut  st ∧ (∀ (s1 : zS), en_leavesOut  st s1 → Q none s1)
theorem ct_leavesOut_m {st : zS} {Q Q' : zQ} (hQ : ∀ r st', Q r st' → Q' r st') (h : ct_leavesOut  st Q) : ct_leavesOut  st Q' := ⟨h.1, fun x0 x1 => hQ _ _ (h.2 x0 x1)⟩
def k_leavesOut : zCall := fun _ as st Q => match as with
  | [.inr (.inr (.inl z_o))] => z_o = 170 ∧ ct_leavesOut  st Q
  | _ => False
theorem k_leavesOut_mon : zmon k_leavesOut := by
  intro nu as st Q Q' hQ h
  unfold k_leavesOut at h ⊢
  split at h
  · exact ⟨h.1, ct_leavesOut_m hQ h.2⟩
  · exact h.elim
section R78
variable {cl : Nat → zCall}
set_option maxHeartbeats 40000000 in
set_option maxRecDepth 100000 in
theorem c_leavesOut (hTb : aTb zSh rx_tb cl) {D : Nat} (hD : 1 ≤ D) {st : zS} {Q : zQ} (h : ct_leavesOut  st Q) : cl D 220 [.inr (.inr (.inl 170))] st Q := by
  obtain ⟨d, rfl⟩ : ∃ d, D = d + 1 := ⟨D - 1, by omega⟩
  refine hTb d 220 (rx_m220, 5, 0, 0, 0) rfl _ _ _ (Nat.le_of_ble_eq_true rfl) (fun K hcl hsf hsl => ?_)
  have hcm : zmo (zno) (cl d) := zno_m
  obtain ⟨hR, hQ⟩ := h
  obtain ⟨hG, ga⟩ := hR
  change goA st at ga
  have lk : ∀ (u : Nat) (k : Int) (l : Int) (b : Int) (a : Int) (s_lk : zS), gInv zgt s_lk ∧ aFr m_leavesOut st s_lk ∧ (LO st s_lk a l k) ∧ (0 ≤ a ∧ 0 < l ∧ b = a + l ∧ b ≤ k ∧ k ≤ st 170 62 ∧ b < st 170 62 ∧ s_lk 170 62 = st 170 62 ∧ st 210 (a : Int).toNat = st 210 (b : Int).toNat) → (st 170 62 - k).toNat = u → K (rx_find rx_m220 47) [(4, .inl k), (3, .inl l), (2, .inl b), (1, .inl a), (0, .inr (.inr (.inl 170)))] [] s_lk := by
    intro u_lk
    induction u_lk using Nat.strongRecOn with
    | _ u_lk ih_lk =>
      intro k l b a s_lk hi hu_lk
      obtain ⟨gI_lk, fI_lk, c_lk, d_lk⟩ := hi
      have g1 := g_goMany hG
      have g2 := g_goMany gI_lk
      have g3 := g_goPlace hG (a : Int).toNat
      have g4 := g_goPlace hG (b : Int).toNat
      refine yr1_ok (Rt := Q) (wc := (zno)) (stp := [47]) hcm hcl [] 88 ?_
      show ((s_lk 170 62 ≤ k → ((-2147483648 ≤ (s_lk 170 62) - l ∧ (s_lk 170 62) - l ≤ 2147483647) ∧ Q none (zup s_lk 170 62 ((s_lk 170 62) - l)))) ∧ (¬ (s_lk 170 62 ≤ k) → ((-2147483648 ≤ k - l ∧ k - l ≤ 2147483647) ∧ ((0 ≤ k ∧ k < 30) ∧ ((0 ≤ k - l ∧ k - l < 30) ∧ ((-2147483648 ≤ k - l ∧ k - l ≤ 2147483647) ∧ ((0 ≤ k ∧ k < 30) ∧ ((0 ≤ k - l ∧ k - l < 30) ∧ ((-2147483648 ≤ k + 1 ∧ k + 1 ≤ 2147483647) ∧ K (rx_find rx_m220 47) [(4, .inl (k + 1)), (3, .inl l), (2, .inl b), (1, .inl a), (0, .inr (.inr (.inl 170)))] [] (zup (zup s_lk 210 (k - l : Int).toNat (s_lk 210 (k : Int).toNat)) 211 (k - l : Int).toNat (s_lk 211 (k : Int).toNat)))))))))))
      refine ⟨fun h5 => ?_, fun h5 => ?_⟩
      · refine ⟨by omega, ?_⟩
        exact hQ _ ⟨(gInv_up gI_lk (p_goMany (by omega))), (fr_f fI_lk rfl), (show goA (zup s_lk 170 62 ((s_lk 170 62) - l)) from (show s_lk 170 62 = st 170 62 by omega) ▸ LO_goA ga c_lk (fI_lk 170 13 rfl rfl) (fun i => fI_lk 177 i rfl rfl) (by omega) (by omega) (b := b) (by omega) (by omega) (by omega) d_lk.2.2.2.2.2.2.2)⟩
      · refine ⟨by omega, ?_⟩
        have g6 := g_goPlace gI_lk (k : Int).toNat
        refine ⟨by omega, ?_⟩
        refine ⟨by omega, ?_⟩
        refine ⟨by omega, ?_⟩
        have g7 := g_goTold gI_lk (k : Int).toNat
        refine ⟨by omega, ?_⟩
        refine ⟨by omega, ?_⟩
        refine ⟨by omega, ?_⟩
        exact ih_lk _ (show (st 170 62 - (k + 1) : Int).toNat < u_lk from by omega) (k + 1) l b a (zup (zup s_lk 210 (k - l : Int).toNat (s_lk 210 (k : Int).toNat)) 211 (k - l : Int).toNat (s_lk 211 (k : Int).toNat)) ⟨(gInv_up (gInv_up gI_lk (p_goPlace (by omega))) (p_goTold (by omega))), (fr_a (fr_a fI_lk rfl) rfl), (show LO st (zup (zup s_lk 210 (k - l : Int).toNat (s_lk 210 (k : Int).toNat)) 211 (k - l : Int).toNat (s_lk 211 (k : Int).toNat)) a l (k + 1) from LO_set c_lk (by omega) (by omega) (by omega) rfl rfl), (show 0 ≤ a ∧ 0 < l ∧ b = a + l ∧ b ≤ (k + 1) ∧ (k + 1) ≤ st 170 62 ∧ b < st 170 62 ∧ s_lk 170 62 = st 170 62 ∧ st 210 (a : Int).toNat = st 210 (b : Int).toNat from by omega)⟩ rfl
  have la : ∀ (u : Nat) (a : Int), (0 ≤ a ∧ a ≤ st 170 62) → (st 170 62 - a).toNat = u → K (rx_find rx_m220 2) [(1, .inl a), (0, .inr (.inr (.inl 170)))] [] st := by
    intro u_la
    induction u_la using Nat.strongRecOn with
    | _ u_la ih_la =>
      intro a hi hu_la
      have b_la := hi
      have g8 := g_goMany hG
      have lb : ∀ (u : Nat) (b : Int), (a < b ∧ b ≤ st 170 62 ∧ a < st 170 62) → (st 170 62 - b).toNat = u → K (rx_find rx_m220 14) [(2, .inl b), (1, .inl a), (0, .inr (.inr (.inl 170)))] [] st := by
        intro u_lb
        induction u_lb using Nat.strongRecOn with
        | _ u_lb ih_lb =>
          intro b hi hu_lb
          have b_lb := hi
          have g9 := g_goMany hG
          refine yr1_ok (Rt := Q) (wc := (zno)) (stp := [2, 14, 47]) hcm hcl [] 88 ?_
          show ((st 170 62 ≤ b → ((-2147483648 ≤ a + 1 ∧ a + 1 ≤ 2147483647) ∧ K (rx_find rx_m220 2) [(1, .inl (a + 1)), (2, .inl b), (0, .inr (.inr (.inl 170)))] [] st)) ∧ (¬ (st 170 62 ≤ b) → ((0 ≤ a ∧ a < 30) ∧ ((0 ≤ b ∧ b < 30) ∧ ((st 210 (a : Int).toNat = st 210 (b : Int).toNat → ((-2147483648 ≤ b - a ∧ b - a ≤ 2147483647) ∧ K (rx_find rx_m220 47) [(4, .inl b), (3, .inl (b - a)), (2, .inl b), (1, .inl a), (0, .inr (.inr (.inl 170)))] [] st)) ∧ (¬ (st 210 (a : Int).toNat = st 210 (b : Int).toNat) → ((-2147483648 ≤ b + 1 ∧ b + 1 ≤ 2147483647) ∧ K (rx_find rx_m220 14) [(2, .inl (b + 1)), (1, .inl a), (0, .inr (.inr (.inl 170)))] [] st)))))))
          refine ⟨fun h10 => ?_, fun h10 => ?_⟩
          · refine ⟨by omega, ?_⟩
            exact hsl _ _ _ _ _ (sb_cons (.head _) (sb_cons (.tail _ (.tail _ (.head _))) sb_nil)) (ih_la _ (show (st 170 62 - (a + 1) : Int).toNat < u_la from by omega) (a + 1) (show 0 ≤ (a + 1) ∧ (a + 1) ≤ st 170 62 from by omega) rfl)
          · have g11 := g_goPlace hG (a : Int).toNat
            refine ⟨by omega, ?_⟩
            have g12 := g_goPlace hG (b : Int).toNat
            refine ⟨by omega, ?_⟩
            refine ⟨fun h13 => ?_, fun h13 => ?_⟩
            · refine ⟨by omega, ?_⟩
              exact lk _ b (b - a) b a st ⟨hG, (fr_rf _ _), (show LO st st a (b - a) b from LO_start _ (by omega)), (show 0 ≤ a ∧ 0 < (b - a) ∧ b = a + (b - a) ∧ b ≤ b ∧ b ≤ st 170 62 ∧ b < st 170 62 ∧ st 170 62 = st 170 62 ∧ st 210 (a : Int).toNat = st 210 (b : Int).toNat from by omega)⟩ rfl
            · refine ⟨by omega, ?_⟩
              exact ih_lb _ (show (st 170 62 - (b + 1) : Int).toNat < u_lb from by omega) (b + 1) (show a < (b + 1) ∧ (b + 1) ≤ st 170 62 ∧ a < st 170 62 from by omega) rfl
      refine yr1_ok (Rt := Q) (wc := (zno)) (stp := [2, 14, 47]) hcm hcl [] 88 ?_
      show ((st 170 62 ≤ a → Q none st) ∧ (¬ (st 170 62 ≤ a) → ((-2147483648 ≤ a + 1 ∧ a + 1 ≤ 2147483647) ∧ K (rx_find rx_m220 14) [(2, .inl (a + 1)), (1, .inl a), (0, .inr (.inr (.inl 170)))] [] st)))
      refine ⟨fun h14 => ?_, fun h14 => ?_⟩
      · exact hQ _ ⟨hG, (fr_rf _ _), (show goA st from ga)⟩
      · refine ⟨by omega, ?_⟩
        exact lb _ (a + 1) (show a < (a + 1) ∧ (a + 1) ≤ st 170 62 ∧ a < st 170 62 from by omega) rfl
  have g15 := g_goMany hG
  refine yr1_ok (Rt := Q) (wc := (zno)) (stp := [2, 14, 47]) hcm hcl [] 88 ?_
  show K (rx_find rx_m220 2) [(1, .inl 0), (0, .inr (.inr (.inl 170)))] [] st
  exact la _ 0 (show 0 ≤ (0 : Int) ∧ (0 : Int) ≤ st 170 62 from by omega) rfl
theorem k_leavesOut_m (hTb : aTb zSh rx_tb cl) {D : Nat} (hD : 1 ≤ D) : ∀ as st (Q Q' : zQ), (∀ r st', Q r st' → Q' r st') → k_leavesOut 220 as st Q → cl D 220 as st Q' := by
  intro as st Q Q' hQ h
  unfold k_leavesOut at h
  split at h
  · obtain ⟨rfl, h⟩ := h
    exact c_leavesOut hTb hD (ct_leavesOut_m hQ h)
  · exact h.elim
end R78
