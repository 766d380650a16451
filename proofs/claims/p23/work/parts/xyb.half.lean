/-! printed by wip/pw/py/h1.py: a half told, both sides -/
/-- a half's text: rows of two bytes -/
def HFok (t : Int → Int) (n p : Int) : Prop := 2 ≤ n ∧ n ≤ 40 ∧ n % 2 = 0 ∧ ∀ j : Int, 0 ≤ j → 2 * j < n → t (2 * j) < 20 ∧ t (2 * j + 1) < p
theorem HFok_e {t t' : Int → Int} {n p : Int} (e : ∀ j : Int, 0 ≤ j → j < n → t j = t' j) : HFok t n p ↔ HFok t' n p := by
  unfold HFok
  constructor
  · intro ⟨a, b, c, d⟩
    refine ⟨a, b, c, fun j h1 h2 => ?_⟩
    rw [← e _ (by omega) (by omega), ← e _ (by omega) (by omega)]
    exact d j h1 h2
  · intro ⟨a, b, c, d⟩
    refine ⟨a, b, c, fun j h1 h2 => ?_⟩
    rw [e _ (by omega) (by omega), e _ (by omega) (by omega)]
    exact d j h1 h2
theorem HFok_no {t : Int → Int} {n p i : Int} (h0 : 0 ≤ i) (h1 : i < n) (h2 : i % 2 = 0) (h : ¬ (t i < 20 ∧ t (i + 1) < p)) : ¬ HFok t n p := by
  intro ⟨a, b, c, d⟩
  have z := d (i / 2) (by omega) (by omega)
  rw [show 2 * (i / 2) = i by omega] at z
  exact h z
def rq_wFits (p : Int) (st : zS) : Prop := gInv zgt st
def en_wFits (p : Int) (st : zS) (r : Int) : Prop := ((r = 0 ∨ r = 1) ∧ (r = 1 ↔ HFok (fun j : Int => st 2 j.toNat % 256) (st 1 1) p))
def ct_wFits (p : Int) (st : zS) (Q : zQ) : Prop := rq_wFits p st ∧ (∀ (r : Int), en_wFits p st r → Q (some (.inl r)) st)
theorem ct_wFits_m {p : Int} {st : zS} {Q Q' : zQ} (hQ : ∀ r st', Q r st' → Q' r st') (h : ct_wFits p st Q) : ct_wFits p st Q' := ⟨h.1, fun x0 x1 => hQ _ _ (h.2 x0 x1)⟩
def k_wFits : zCall := fun _ as st Q => match as with
  | [.inr (.inr (.inl z_o)), .inr (.inr (.inl z_0)), .inl p] => z_o = 115 ∧ z_0 = 1 ∧ ct_wFits p st Q
  | _ => False
def m_wTake : aM := ([(115, 5)], [116, 117])
def rq_wTake  (st : zS) : Prop := gInv zgt st ∧ (2 ≤ st 1 1 ∧ st 1 1 ≤ 40 ∧ st 1 1 % 2 = 0) ∧ (∀ j : Int, 0 ≤ j → 2 * j < st 1 1 → st 2 (2 * j).toNat % 256 < 20)
def en_wTake  (st : zS) (s1 : zS) : Prop := gInv zgt s1 ∧ aFr m_wTake st s1 ∧ (s1 115 5 = st 1 1 / 2) ∧ (∀ j : Int, 0 ≤ j → 2 * j < st 1 1 → s1 116 j.toNat = st 2 (2 * j).toNat % 256 ∧ s1 117 j.toNat = st 2 (2 * j + 1).toNat % 256)
def ct_wTake  (st : zS) (Q : zQ) : Prop := rq_wTake  st ∧ (∀ (s1 : zS), en_wTake  st s1 → Q none s1)
theorem ct_wTake_m {st : zS} {Q Q' : zQ} (hQ : ∀ r st', Q r st' → Q' r st') (h : ct_wTake  st Q) : ct_wTake  st Q' := ⟨h.1, fun x0 x1 => hQ _ _ (h.2 x0 x1)⟩
def k_wTake : zCall := fun _ as st Q => match as with
  | [.inr (.inr (.inl z_o)), .inr (.inr (.inl z_0))] => z_o = 115 ∧ z_0 = 1 ∧ ct_wTake  st Q
  | _ => False
def m_wHalfA : aM := ([(1, 1), (115, 5)], [116, 117, 121])
def rq_wHalfA  (st : zS) : Prop := gInv zgt st ∧ (st 0 8 = 122)
def en_wHalfA  (st : zS) (r : Int) (s1 : zS) : Prop := gInv zgt s1 ∧ aFr m_wHalfA st s1 ∧ (s1 1 1 = 0) ∧ ((HFok (fun j : Int => st 2 j.toNat % 256) (st 1 1) (st 122 1) ∧ r = st 1 1 / 2 ∧ s1 115 5 = st 1 1 / 2 ∧ (∀ i : Nat, s1 121 i = st 121 i) ∧ ∀ j : Int, 0 ≤ j → 2 * j < st 1 1 → s1 116 j.toNat = st 2 (2 * j).toNat % 256 ∧ s1 117 j.toNat = st 2 (2 * j + 1).toNat % 256) ∨ (¬ HFok (fun j : Int => st 2 j.toNat % 256) (st 1 1) (st 122 1) ∧ r = -1 ∧ s1 115 5 = st 115 5 ∧ (∀ i : Nat, s1 116 i = st 116 i) ∧ (∀ i : Nat, s1 117 i = st 117 i) ∧ ∀ i : Nat, s1 121 i = up1 (st 121) 5 (zw (st 121 5 + 1)) i))
def ct_wHalfA  (st : zS) (Q : zQ) : Prop := rq_wHalfA  st ∧ (∀ (r : Int) (s1 : zS), en_wHalfA  st r s1 → Q (some (.inl r)) s1)
theorem ct_wHalfA_m {st : zS} {Q Q' : zQ} (hQ : ∀ r st', Q r st' → Q' r st') (h : ct_wHalfA  st Q) : ct_wHalfA  st Q' := ⟨h.1, fun x0 x1 x2 => hQ _ _ (h.2 x0 x1 x2)⟩
def k_wHalfA : zCall := fun _ as st Q => match as with
  | [.inr (.inr (.inl z_o))] => z_o = 0 ∧ ct_wHalfA  st Q
  | _ => False
def m_wHalfB : aM := ([(1, 1), (115, 5)], [116, 117, 121])
def rq_wHalfB  (st : zS) : Prop := gInv zgt st ∧ (st 0 8 = 135)
def en_wHalfB  (st : zS) (r : Int) (s1 : zS) : Prop := gInv zgt s1 ∧ aFr m_wHalfB st s1 ∧ (s1 1 1 = 0) ∧ ((HFok (fun j : Int => st 2 j.toNat % 256) (st 1 1) (st 135 1) ∧ r = st 1 1 / 2 ∧ s1 115 5 = st 1 1 / 2 ∧ (∀ i : Nat, s1 121 i = st 121 i) ∧ ∀ j : Int, 0 ≤ j → 2 * j < st 1 1 → s1 116 j.toNat = st 2 (2 * j).toNat % 256 ∧ s1 117 j.toNat = st 2 (2 * j + 1).toNat % 256) ∨ (¬ HFok (fun j : Int => st 2 j.toNat % 256) (st 1 1) (st 135 1) ∧ r = -1 ∧ s1 115 5 = st 115 5 ∧ (∀ i : Nat, s1 116 i = st 116 i) ∧ (∀ i : Nat, s1 117 i = st 117 i) ∧ ∀ i : Nat, s1 121 i = up1 (st 121) 5 (zw (st 121 5 + 1)) i))
def ct_wHalfB  (st : zS) (Q : zQ) : Prop := rq_wHalfB  st ∧ (∀ (r : Int) (s1 : zS), en_wHalfB  st r s1 → Q (some (.inl r)) s1)
theorem ct_wHalfB_m {st : zS} {Q Q' : zQ} (hQ : ∀ r st', Q r st' → Q' r st') (h : ct_wHalfB  st Q) : ct_wHalfB  st Q' := ⟨h.1, fun x0 x1 x2 => hQ _ _ (h.2 x0 x1 x2)⟩
def k_wHalfB : zCall := fun _ as st Q => match as with
  | [.inr (.inr (.inl z_o))] => z_o = 0 ∧ ct_wHalfB  st Q
  | _ => False
def m_vHalf : aM := ([(170, 1), (170, 71)], [198, 216, 217])
def rq_vHalf  (st : zS) : Prop := gInv zgt st
def en_vHalf  (st : zS) (r : Int) (s1 : zS) : Prop := gInv zgt s1 ∧ aFr m_vHalf st s1 ∧ (s1 170 1 = 0) ∧ ((HFok (fun j : Int => st 171 j.toNat) (st 170 1) (st 172 (st 170 13 : Int).toNat) ∧ r = st 170 1 / 2 ∧ s1 170 71 = st 170 1 / 2 ∧ (∀ i : Nat, s1 198 i = st 198 i) ∧ ∀ j : Int, 0 ≤ j → 2 * j < st 170 1 → s1 216 j.toNat = st 171 (2 * j).toNat ∧ s1 217 j.toNat = st 171 (2 * j + 1).toNat) ∨ (¬ HFok (fun j : Int => st 171 j.toNat) (st 170 1) (st 172 (st 170 13 : Int).toNat) ∧ r = -1 ∧ s1 170 71 = st 170 71 ∧ (∀ i : Nat, s1 216 i = st 216 i) ∧ (∀ i : Nat, s1 217 i = st 217 i) ∧ ∀ i : Nat, s1 198 i = up1 (st 198) 5 (zw (st 198 5 + 1)) i))
def ct_vHalf  (st : zS) (Q : zQ) : Prop := rq_vHalf  st ∧ (∀ (r : Int) (s1 : zS), en_vHalf  st r s1 → Q (some (.inl r)) s1)
theorem ct_vHalf_m {st : zS} {Q Q' : zQ} (hQ : ∀ r st', Q r st' → Q' r st') (h : ct_vHalf  st Q) : ct_vHalf  st Q' := ⟨h.1, fun x0 x1 x2 => hQ _ _ (h.2 x0 x1 x2)⟩
def k_vHalf : zCall := fun _ as st Q => match as with
  | [.inr (.inr (.inl z_o))] => z_o = 170 ∧ ct_vHalf  st Q
  | _ => False
section XYB
variable {cl : Nat → zCall}
set_option maxHeartbeats 4000000 in
set_option maxRecDepth 100000 in
theorem c_wFits (hTb : aTb zSh rx_tb cl) {D : Nat} (hD : 2 ≤ D) {p : Int} {st : zS} {Q : zQ} (h : ct_wFits p st Q) : cl D 162 [.inr (.inr (.inl 115)), .inr (.inr (.inl 1)), .inl p] st Q := by
  obtain ⟨d, rfl⟩ : ∃ d, D = d + 1 := ⟨D - 1, by omega⟩
  refine hTb d 162 (rx_m162, 4, 0, 0, 2) rfl _ _ _ (Nat.le_of_ble_eq_true rfl) (fun K hcl hsf hsl => ?_)
  have hcm : zmo (wcL [(72, k_wAt)]) (cl d) := (wcL_m (wm_cons (k_wAt_m hTb (by omega)) wm_nil))
  obtain ⟨hR, hQ⟩ := h
  have hG := hR
  have lp : ∀ (u : Nat) (i : Int), (0 ≤ i ∧ i % 2 = 0 ∧ 2 ≤ st 1 1 ∧ st 1 1 ≤ 40 ∧ st 1 1 % 2 = 0 ∧ i ≤ st 1 1) ∧ (∀ j : Int, 0 ≤ j → 2 * j < i → st 2 (2 * j).toNat % 256 < 20 ∧ st 2 (2 * j + 1).toNat % 256 < p) → (st 1 1 - i).toNat = u → K (rx_find rx_m162 30) [(3, .inl i), (0, .inr (.inr (.inl 115))), (1, .inr (.inr (.inl 1))), (2, .inl p)] [] st := by
    intro u
    induction u using Nat.strongRecOn with
    | _ u ih =>
      intro i hi hu
      obtain ⟨i_lp, b_lp⟩ := hi
      have g1 := g_tsize hG
      refine yr1_ok (Rt := Q) (wc := (wcL [(72, k_wAt)])) (stp := [30]) hcm hcl [] 59 ?_
      show ((st 1 1 ≤ i → ((1 = (0 : Int) ∨ 1 = (1 : Int)) ∧ Q (some (.inl 1)) st)) ∧ (¬ (st 1 1 ≤ i) → (1 = 1 ∧ (rq_wAt i st ∧ (∀ (r2 : Int), en_wAt i st r2 → (((20 : Int) ≤ r2 → ((0 = (0 : Int) ∨ 0 = (1 : Int)) ∧ Q (some (.inl 0)) st)) ∧ (¬ ((20 : Int) ≤ r2) → ((-2147483648 ≤ i + 1 ∧ i + 1 ≤ 2147483647) ∧ (1 = 1 ∧ (rq_wAt (i + 1) st ∧ (∀ (r3 : Int), en_wAt (i + 1) st r3 → ((r3 < p → ((-2147483648 ≤ i + 2 ∧ i + 2 ≤ 2147483647) ∧ K (rx_find rx_m162 30) [(3, .inl (i + 2)), (0, .inr (.inr (.inl 115))), (1, .inr (.inr (.inl 1))), (2, .inl p)] [] st)) ∧ (¬ (r3 < p) → ((0 = (0 : Int) ∨ 0 = (1 : Int)) ∧ Q (some (.inl 0)) st))))))))))))))
      refine ⟨fun h4 => ?_, fun h4 => ?_⟩
      · refine ⟨by omega, ?_⟩
        exact hQ _ (show ((1 : Int) = 0 ∨ (1 : Int) = 1) ∧ ((1 : Int) = 1 ↔ HFok (fun j : Int => st 2 j.toNat % 256) (st 1 1) p) from ⟨Or.inr rfl, ⟨fun _ => ⟨by omega, by omega, by omega, fun j z1 z2 => b_lp j z1 (by omega)⟩, fun _ => rfl⟩⟩)
      · refine ⟨rfl, hG, fun r2 q2 => ?_⟩
        have e2 := q2
        change (0 ≤ i ∧ i < st 1 1 → r2 = st 2 (i : Int).toNat % 256) ∧ (¬ (0 ≤ i ∧ i < st 1 1) → r2 = -1) at e2
        have g5 := g_trow hG (i : Int).toNat
        refine ⟨fun h6 => ?_, fun h6 => ?_⟩
        · refine ⟨by omega, ?_⟩
          exact hQ _ (show ((0 : Int) = 0 ∨ (0 : Int) = 1) ∧ ((0 : Int) = 1 ↔ HFok (fun j : Int => st 2 j.toNat % 256) (st 1 1) p) from ⟨Or.inl rfl, ⟨fun z => absurd z (by decide), fun z => absurd z (HFok_no (i := i) (by omega) (by omega) (by omega) (fun z2 => by have z3 : st 2 (i : Int).toNat % 256 < 20 ∧ st 2 (i + 1 : Int).toNat % 256 < p := z2; omega))⟩⟩)
        · refine ⟨by omega, ?_⟩
          refine ⟨rfl, hG, fun r3 q3 => ?_⟩
          have e3 := q3
          change (0 ≤ (i + 1) ∧ (i + 1) < st 1 1 → r3 = st 2 ((i + 1) : Int).toNat % 256) ∧ (¬ (0 ≤ (i + 1) ∧ (i + 1) < st 1 1) → r3 = -1) at e3
          have g7 := g_trow hG ((i + 1) : Int).toNat
          refine ⟨fun h8 => ?_, fun h8 => ?_⟩
          · refine ⟨by omega, ?_⟩
            exact ih _ (show (st 1 1 - (i + 2) : Int).toNat < u from by omega) (i + 2) ⟨(show 0 ≤ (i + 2) ∧ (i + 2) % 2 = 0 ∧ 2 ≤ st 1 1 ∧ st 1 1 ≤ 40 ∧ st 1 1 % 2 = 0 ∧ (i + 2) ≤ st 1 1 from by omega), (show ∀ j : Int, 0 ≤ j → 2 * j < (i + 2) → st 2 (2 * j).toNat % 256 < 20 ∧ st 2 (2 * j + 1).toNat % 256 < p from fun j z1 z2 => by
            by_cases z3 : 2 * j = i
            · rw [z3]; exact ⟨by omega, by omega⟩
            · exact b_lp j z1 (by omega))⟩ rfl
          · refine ⟨by omega, ?_⟩
            exact hQ _ (show ((0 : Int) = 0 ∨ (0 : Int) = 1) ∧ ((0 : Int) = 1 ↔ HFok (fun j : Int => st 2 j.toNat % 256) (st 1 1) p) from ⟨Or.inl rfl, ⟨fun z => absurd z (by decide), fun z => absurd z (HFok_no (i := i) (by omega) (by omega) (by omega) (fun z2 => by have z3 : st 2 (i : Int).toNat % 256 < 20 ∧ st 2 (i + 1 : Int).toNat % 256 < p := z2; omega))⟩⟩)
  have g9 := g_tsize hG
  refine yr1_ok (Rt := Q) (wc := (wcL [(72, k_wAt)])) (stp := [30]) hcm hcl [] 59 ?_
  show ((st 1 1 < (2 : Int) → ((0 = (0 : Int) ∨ 0 = (1 : Int)) ∧ Q (some (.inl 0)) st)) ∧ (¬ (st 1 1 < (2 : Int)) → (((40 : Int) < st 1 1 → ((0 = (0 : Int) ∨ 0 = (1 : Int)) ∧ Q (some (.inl 0)) st)) ∧ (¬ ((40 : Int) < st 1 1) → ((0 ≤ st 1 1 ∧ st 1 1 ≤ 2147483647 ∧ 0 < (2 : Int)) ∧ (((st 1 1) % 2 = (0 : Int) → K (rx_find rx_m162 30) [(3, .inl 0), (0, .inr (.inr (.inl 115))), (1, .inr (.inr (.inl 1))), (2, .inl p)] [] st) ∧ (¬ ((st 1 1) % 2 = (0 : Int)) → ((0 = (0 : Int) ∨ 0 = (1 : Int)) ∧ Q (some (.inl 0)) st))))))))
  refine ⟨fun h10 => ?_, fun h10 => ?_⟩
  · refine ⟨by omega, ?_⟩
    exact hQ _ (show ((0 : Int) = 0 ∨ (0 : Int) = 1) ∧ ((0 : Int) = 1 ↔ HFok (fun j : Int => st 2 j.toNat % 256) (st 1 1) p) from ⟨Or.inl rfl, ⟨fun z => absurd z (by decide), fun z => by obtain ⟨z1, z2, z3, -⟩ := z; omega⟩⟩)
  · refine ⟨fun h11 => ?_, fun h11 => ?_⟩
    · refine ⟨by omega, ?_⟩
      exact hQ _ (show ((0 : Int) = 0 ∨ (0 : Int) = 1) ∧ ((0 : Int) = 1 ↔ HFok (fun j : Int => st 2 j.toNat % 256) (st 1 1) p) from ⟨Or.inl rfl, ⟨fun z => absurd z (by decide), fun z => by obtain ⟨z1, z2, z3, -⟩ := z; omega⟩⟩)
    · refine ⟨by omega, ?_⟩
      refine ⟨fun h12 => ?_, fun h12 => ?_⟩
      · exact lp _ 0 ⟨(show 0 ≤ (0 : Int) ∧ (0 : Int) % 2 = 0 ∧ 2 ≤ st 1 1 ∧ st 1 1 ≤ 40 ∧ st 1 1 % 2 = 0 ∧ (0 : Int) ≤ st 1 1 from by omega), (show ∀ j : Int, 0 ≤ j → 2 * j < (0 : Int) → st 2 (2 * j).toNat % 256 < 20 ∧ st 2 (2 * j + 1).toNat % 256 < p from fun j z1 z2 => by omega)⟩ rfl
      · refine ⟨by omega, ?_⟩
        exact hQ _ (show ((0 : Int) = 0 ∨ (0 : Int) = 1) ∧ ((0 : Int) = 1 ↔ HFok (fun j : Int => st 2 j.toNat % 256) (st 1 1) p) from ⟨Or.inl rfl, ⟨fun z => absurd z (by decide), fun z => by obtain ⟨z1, z2, z3, -⟩ := z; omega⟩⟩)
theorem k_wFits_m (hTb : aTb zSh rx_tb cl) {D : Nat} (hD : 2 ≤ D) : ∀ as st (Q Q' : zQ), (∀ r st', Q r st' → Q' r st') → k_wFits 162 as st Q → cl D 162 as st Q' := by
  intro as st Q Q' hQ h
  unfold k_wFits at h
  split at h
  · obtain ⟨rfl, rfl, h⟩ := h
    exact c_wFits hTb hD (ct_wFits_m hQ h)
  · exact h.elim
set_option maxHeartbeats 4000000 in
set_option maxRecDepth 100000 in
theorem c_wTake (hTb : aTb zSh rx_tb cl) {D : Nat} (hD : 2 ≤ D) {st : zS} {Q : zQ} (h : ct_wTake  st Q) : cl D 224 [.inr (.inr (.inl 115)), .inr (.inr (.inl 1))] st Q := by
  obtain ⟨d, rfl⟩ : ∃ d, D = d + 1 := ⟨D - 1, by omega⟩
  refine hTb d 224 (rx_m224, 3, 0, 0, 0) rfl _ _ _ (Nat.le_of_ble_eq_true rfl) (fun K hcl hsf hsl => ?_)
  have hcm : zmo (wcL [(16, k_wMin), (72, k_wAt)]) (cl d) := (wcL_m (wm_cons (k_wMin_m hTb (by omega)) (wm_cons (k_wAt_m hTb (by omega)) wm_nil)))
  obtain ⟨hR, hQ⟩ := h
  obtain ⟨hG, q, hf⟩ := hR
  change 2 ≤ st 1 1 ∧ st 1 1 ≤ 40 ∧ st 1 1 % 2 = 0 at q
  change ∀ j : Int, 0 ≤ j → 2 * j < st 1 1 → st 2 (2 * j).toNat % 256 < 20 at hf
  have g1 := g_tsize hG
  have lp : ∀ (u : Nat) (i : Int) (s_lp : zS), gInv zgt s_lp ∧ aFr m_wTake st s_lp ∧ (s_lp 115 5 = st 1 1 / 2) ∧ (0 ≤ i ∧ i ≤ st 1 1 / 2) ∧ (∀ j : Int, 0 ≤ j → j < i → s_lp 116 j.toNat = st 2 (2 * j).toNat % 256 ∧ s_lp 117 j.toNat = st 2 (2 * j + 1).toNat % 256) → (st 1 1 / 2 - i).toNat = u → K (rx_find rx_m224 17) [(2, .inl i), (0, .inr (.inr (.inl 115))), (1, .inr (.inr (.inl 1)))] [] s_lp := by
    intro u
    induction u using Nat.strongRecOn with
    | _ u ih =>
      intro i s_lp hi hu
      obtain ⟨gI_lp, fI_lp, n_lp, i_lp, a_lp⟩ := hi
      have hfi := fun z => hf i i_lp.1 z
      have g2 := g_f115_5 gI_lp
      have g3 := g_tsize hG
      have e4 : s_lp 1 1 = st 1 1 := fI_lp 1 1 rfl rfl
      refine yr1_ok (Rt := Q) (wc := (wcL [(16, k_wMin), (72, k_wAt)])) (stp := [17]) hcm hcl [] 57 ?_
      show ((s_lp 115 5 ≤ i → Q none s_lp) ∧ (¬ (s_lp 115 5 ≤ i) → ((-2147483648 ≤ (2 : Int) * i ∧ (2 : Int) * i ≤ 2147483647) ∧ (1 = 1 ∧ (rq_wAt ((2 : Int) * i) s_lp ∧ (∀ (r5 : Int), en_wAt ((2 : Int) * i) s_lp r5 → ((0 ≤ i ∧ i < 20) ∧ ((-2147483648 ≤ (2 : Int) * i ∧ (2 : Int) * i ≤ 2147483647) ∧ ((-2147483648 ≤ ((2 : Int) * i) + 1 ∧ ((2 : Int) * i) + 1 ≤ 2147483647) ∧ (1 = 1 ∧ (rq_wAt (((2 : Int) * i) + 1) (zup s_lp 116 (i : Int).toNat r5) ∧ (∀ (r6 : Int), en_wAt (((2 : Int) * i) + 1) (zup s_lp 116 (i : Int).toNat r5) r6 → ((0 ≤ i ∧ i < 20) ∧ ((-2147483648 ≤ i + 1 ∧ i + 1 ≤ 2147483647) ∧ K (rx_find rx_m224 17) [(2, .inl (i + 1)), (0, .inr (.inr (.inl 115))), (1, .inr (.inr (.inl 1)))] [] (zup (zup s_lp 116 (i : Int).toNat r5) 117 (i : Int).toNat r6)))))))))))))))
      refine ⟨fun h7 => ?_, fun h7 => ?_⟩
      · exact hQ _ ⟨gI_lp, fI_lp, (show s_lp 115 5 = st 1 1 / 2 from by omega), (show ∀ j : Int, 0 ≤ j → 2 * j < st 1 1 → s_lp 116 j.toNat = st 2 (2 * j).toNat % 256 ∧ s_lp 117 j.toNat = st 2 (2 * j + 1).toNat % 256 from fun j z1 z2 => a_lp j z1 (by omega))⟩
      · refine ⟨by omega, ?_⟩
        refine ⟨rfl, gI_lp, fun r5 q5 => ?_⟩
        have e5 := q5
        change (0 ≤ ((2 : Int) * i) ∧ ((2 : Int) * i) < s_lp 1 1 → r5 = s_lp 2 (((2 : Int) * i) : Int).toNat % 256) ∧ (¬ (0 ≤ ((2 : Int) * i) ∧ ((2 : Int) * i) < s_lp 1 1) → r5 = -1) at e5
        have g9 := g_trow hG (((2 : Int) * i) : Int).toNat
        have e8 : s_lp 2 (((2 : Int) * i) : Int).toNat = st 2 (((2 : Int) * i) : Int).toNat := fI_lp 2 (((2 : Int) * i) : Int).toNat rfl rfl
        refine ⟨by omega, ?_⟩
        refine ⟨by omega, ?_⟩
        refine ⟨by omega, ?_⟩
        refine ⟨rfl, (gInv_up gI_lp (p_a116 (by omega))), fun r6 q6 => ?_⟩
        have e6 := q6
        change (0 ≤ (((2 : Int) * i) + 1) ∧ (((2 : Int) * i) + 1) < s_lp 1 1 → r6 = s_lp 2 ((((2 : Int) * i) + 1) : Int).toNat % 256) ∧ (¬ (0 ≤ (((2 : Int) * i) + 1) ∧ (((2 : Int) * i) + 1) < s_lp 1 1) → r6 = -1) at e6
        have g11 := g_trow hG ((((2 : Int) * i) + 1) : Int).toNat
        have e10 : s_lp 2 ((((2 : Int) * i) + 1) : Int).toNat = st 2 ((((2 : Int) * i) + 1) : Int).toNat := fI_lp 2 ((((2 : Int) * i) + 1) : Int).toNat rfl rfl
        refine ⟨by omega, ?_⟩
        refine ⟨by omega, ?_⟩
        exact ih _ (show (st 1 1 / 2 - (i + 1) : Int).toNat < u from by omega) (i + 1) (zup (zup s_lp 116 (i : Int).toNat r5) 117 (i : Int).toNat r6) ⟨(gInv_up (gInv_up gI_lp (p_a116 (by omega))) (p_a117 (by omega))), (fr_a (fr_a fI_lp rfl) rfl), (show s_lp 115 5 = st 1 1 / 2 from by omega), (show 0 ≤ (i + 1) ∧ (i + 1) ≤ st 1 1 / 2 from by omega), (show ∀ j : Int, 0 ≤ j → j < (i + 1) → (zup (zup s_lp 116 (i : Int).toNat r5) 117 (i : Int).toNat r6) 116 j.toNat = st 2 (2 * j).toNat % 256 ∧ (zup (zup s_lp 116 (i : Int).toNat r5) 117 (i : Int).toNat r6) 117 j.toNat = st 2 (2 * j + 1).toNat % 256 from fun j z1 z2 => by
            show up1 (s_lp 116) (i : Int).toNat r5 j.toNat = _ ∧ up1 (s_lp 117) (i : Int).toNat r6 j.toNat = _
            by_cases z3 : j = i
            · rw [z3, up1_e, up1_e]; exact ⟨by omega, by omega⟩
            · rw [up1_n _ _ (by omega), up1_n _ _ (by omega)]; exact a_lp j z1 (by omega))⟩ rfl
  refine yr1_ok (Rt := Q) (wc := (wcL [(16, k_wMin), (72, k_wAt)])) (stp := [17]) hcm hcl [] 57 ?_
  show ((0 ≤ st 1 1 ∧ st 1 1 ≤ 2147483647 ∧ 0 < (2 : Int)) ∧ (∀ (r12 : Int), en_wMin (20) ((st 1 1) / 2) st r12 → K (rx_find rx_m224 17) [(2, .inl 0), (0, .inr (.inr (.inl 115))), (1, .inr (.inr (.inl 1)))] [] (zup st 115 5 r12)))
  refine ⟨by omega, ?_⟩
  refine fun r12 q12 => ?_
  have e12 := q12
  change ((20) ≤ ((st 1 1) / 2) → r12 = (20)) ∧ (((st 1 1) / 2) < (20) → r12 = ((st 1 1) / 2)) at e12
  exact lp _ 0 (zup st 115 5 r12) ⟨(gInv_up hG (p_f115_5 (by omega))), (fr_f (fr_rf _ _) rfl), (show r12 = st 1 1 / 2 from by omega), (show 0 ≤ (0 : Int) ∧ (0 : Int) ≤ st 1 1 / 2 from by omega), (show ∀ j : Int, 0 ≤ j → j < (0 : Int) → (zup st 115 5 r12) 116 j.toNat = st 2 (2 * j).toNat % 256 ∧ (zup st 115 5 r12) 117 j.toNat = st 2 (2 * j + 1).toNat % 256 from fun j z1 z2 => by omega)⟩ rfl
theorem k_wTake_m (hTb : aTb zSh rx_tb cl) {D : Nat} (hD : 2 ≤ D) : ∀ as st (Q Q' : zQ), (∀ r st', Q r st' → Q' r st') → k_wTake 224 as st Q → cl D 224 as st Q' := by
  intro as st Q Q' hQ h
  unfold k_wTake at h
  split at h
  · obtain ⟨rfl, rfl, h⟩ := h
    exact c_wTake hTb hD (ct_wTake_m hQ h)
  · exact h.elim
set_option maxHeartbeats 4000000 in
set_option maxRecDepth 100000 in
theorem c_wHalfA (hTb : aTb zSh rx_tb cl) {D : Nat} (hD : 3 ≤ D) {st : zS} {Q : zQ} (h : ct_wHalfA  st Q) : cl D 161 [.inr (.inr (.inl 0))] st Q := by
  obtain ⟨d, rfl⟩ : ∃ d, D = d + 1 := ⟨D - 1, by omega⟩
  refine hTb d 161 (rx_m161, 2, 0, 0, 1) rfl _ _ _ (Nat.le_of_ble_eq_true rfl) (fun K hcl hsf hsl => ?_)
  have hcm : zmo (wcL [(162, k_wFits), (224, k_wTake), (89, k_cCut), (163, k_wRefuse)]) (cl d) := (wcL_m (wm_cons (k_wFits_m hTb (by omega)) (wm_cons (k_wTake_m hTb (by omega)) (wm_cons (k_cCut_m hTb (by omega)) (wm_cons (k_wRefuse_m hTb (by omega)) wm_nil)))))
  obtain ⟨hR, hQ⟩ := h
  obtain ⟨hG, dd⟩ := hR
  change st 0 8 = 122 at dd
  have g1 := g_f0_8 hG
  have g2 := g_tsize hG
  have g3 := g_f122_1 hG
  refine dr1_ok (Rt := Q) (wc := (wcL [(162, k_wFits), (224, k_wTake), (89, k_cCut), (163, k_wRefuse)])) (stp := []) hcm hcl [(9, 122)] [] 50 ?_
  show ((st 0 8 = (122 : Int)) ∧ (115 = 115 ∧ ((1) = 1 ∧ (rq_wFits (st 122 1) st ∧ (∀ (r4 : Int), en_wFits (st 122 1) st r4 → ((r4 = (0 : Int) → (1 = 1 ∧ (rq_cCut (0) st ∧ (∀ (s5 : zS), en_cCut (0) st s5 → ((r4 = (0 : Int) → (0 = 0 ∧ (rq_wRefuse (5) s5 ∧ (∀ (r6 : Int) (s6 : zS), en_wRefuse (5) s5 r6 s6 → Q (some (.inl r6)) s6)))) ∧ (¬ (r4 = (0 : Int)) → Q (some (.inl (s5 115 5))) s5)))))) ∧ (¬ (r4 = (0 : Int)) → (115 = 115 ∧ ((1) = 1 ∧ (rq_wTake  st ∧ (∀ (s7 : zS), en_wTake  st s7 → (1 = 1 ∧ (rq_cCut (0) s7 ∧ (∀ (s8 : zS), en_cCut (0) s7 s8 → ((r4 = (0 : Int) → (0 = 0 ∧ (rq_wRefuse (5) s8 ∧ (∀ (r9 : Int) (s9 : zS), en_wRefuse (5) s8 r9 s9 → Q (some (.inl r9)) s9)))) ∧ (¬ (r4 = (0 : Int)) → Q (some (.inl (s8 115 5))) s8))))))))))))))))
  refine ⟨by omega, ?_⟩
  refine ⟨rfl, rfl, hG, fun r4 q4 => ?_⟩
  have b4 := q4
  change (r4 = 0 ∨ r4 = 1) ∧ (r4 = 1 ↔ HFok (fun j : Int => st 2 j.toNat % 256) (st 1 1) (st 122 1)) at b4
  have b_ := b4.2
  refine ⟨fun h10 => ?_, fun h10 => ?_⟩
  · refine ⟨rfl, hG, fun s5 q5 => ?_⟩
    obtain ⟨gs5, fs5, t5⟩ := q5
    change (0 ≤ (0) ∧ (0) < st 1 1 → s5 1 1 = (0)) ∧ (¬ (0 ≤ (0) ∧ (0) < st 1 1) → s5 1 1 = st 1 1) at t5
    have g11 := g_tsize gs5
    refine ⟨fun h12 => ?_, fun h12 => ?_⟩
    · refine ⟨rfl, ⟨gs5, (show 0 ≤ (5) ∧ (5) ≤ 5 from by omega)⟩, fun r6 s6 q6 => ?_⟩
      obtain ⟨gs6, fs6, e6, u6⟩ := q6
      change r6 = -1 at e6
      change ∀ i : Nat, s6 121 i = up1 (s5 121) ((5) : Int).toNat (zw (s5 121 ((5) : Int).toNat + 1)) i at u6
      have e13 : s6 1 1 = s5 1 1 := fs6 1 1 rfl rfl
      have g16 := g_f115_5 hG
      have e15 : s5 115 5 = st 115 5 := fs5 115 5 rfl rfl
      have e14 : s6 115 5 = s5 115 5 := fs6 115 5 rfl rfl
      exact hQ _ _ ⟨gs6, (fr_tr (fr_tr (fr_rf _ _) fs5 rfl) fs6 rfl), (show s6 1 1 = 0 from by omega), (show (HFok (fun j : Int => st 2 j.toNat % 256) (st 1 1) (st 122 1) ∧ r6 = st 1 1 / 2 ∧ s6 115 5 = st 1 1 / 2 ∧ (∀ i : Nat, s6 121 i = st 121 i) ∧ ∀ j : Int, 0 ≤ j → 2 * j < st 1 1 → s6 116 j.toNat = st 2 (2 * j).toNat % 256 ∧ s6 117 j.toNat = st 2 (2 * j + 1).toNat % 256) ∨ (¬ HFok (fun j : Int => st 2 j.toNat % 256) (st 1 1) (st 122 1) ∧ r6 = -1 ∧ s6 115 5 = st 115 5 ∧ (∀ i : Nat, s6 116 i = st 116 i) ∧ (∀ i : Nat, s6 117 i = st 117 i) ∧ ∀ i : Nat, s6 121 i = up1 (st 121) 5 (zw (st 121 5 + 1)) i) from (Or.inr ⟨fun z => absurd (b_.mpr z) (by omega), by omega, by omega, fun i => ((fs6 116 i rfl rfl).trans (fs5 116 i rfl rfl)), fun i => ((fs6 117 i rfl rfl).trans (fs5 117 i rfl rfl)), fun i => by rw [show (5 : Nat) = (5 : Int).toNat from rfl, u6, show s5 121 = st 121 from funext (fun i => fs5 121 i rfl rfl)]⟩))⟩
    · have g18 := g_f115_5 hG
      have e17 : s5 115 5 = st 115 5 := fs5 115 5 rfl rfl
      exact hQ _ _ ⟨gs5, (fr_tr (fr_rf _ _) fs5 rfl), (show s5 1 1 = 0 from by omega), (show (HFok (fun j : Int => st 2 j.toNat % 256) (st 1 1) (st 122 1) ∧ (s5 115 5) = st 1 1 / 2 ∧ s5 115 5 = st 1 1 / 2 ∧ (∀ i : Nat, s5 121 i = st 121 i) ∧ ∀ j : Int, 0 ≤ j → 2 * j < st 1 1 → s5 116 j.toNat = st 2 (2 * j).toNat % 256 ∧ s5 117 j.toNat = st 2 (2 * j + 1).toNat % 256) ∨ (¬ HFok (fun j : Int => st 2 j.toNat % 256) (st 1 1) (st 122 1) ∧ (s5 115 5) = -1 ∧ s5 115 5 = st 115 5 ∧ (∀ i : Nat, s5 116 i = st 116 i) ∧ (∀ i : Nat, s5 117 i = st 117 i) ∧ ∀ i : Nat, s5 121 i = up1 (st 121) 5 (zw (st 121 5 + 1)) i) from (by exfalso; omega))⟩
  · refine ⟨rfl, rfl, ⟨hG, (show 2 ≤ st 1 1 ∧ st 1 1 ≤ 40 ∧ st 1 1 % 2 = 0 from by have hz := b_.mp (by omega); obtain ⟨z1, z2, z3, -⟩ := hz; omega), (show ∀ j : Int, 0 ≤ j → 2 * j < st 1 1 → st 2 (2 * j).toNat % 256 < 20 from fun j z1 z2 => ((b_.mp (by omega)).2.2.2 j z1 z2).1)⟩, fun s7 q7 => ?_⟩
    obtain ⟨gs7, fs7, n7, a7⟩ := q7
    change s7 115 5 = st 1 1 / 2 at n7
    have g19 := g_f115_5 gs7
    change ∀ j : Int, 0 ≤ j → 2 * j < st 1 1 → s7 116 j.toNat = st 2 (2 * j).toNat % 256 ∧ s7 117 j.toNat = st 2 (2 * j + 1).toNat % 256 at a7
    refine ⟨rfl, gs7, fun s8 q8 => ?_⟩
    obtain ⟨gs8, fs8, t8⟩ := q8
    change (0 ≤ (0) ∧ (0) < s7 1 1 → s8 1 1 = (0)) ∧ (¬ (0 ≤ (0) ∧ (0) < s7 1 1) → s8 1 1 = s7 1 1) at t8
    have e20 : s7 1 1 = st 1 1 := fs7 1 1 rfl rfl
    have g21 := g_tsize gs8
    refine ⟨fun h22 => ?_, fun h22 => ?_⟩
    · refine ⟨rfl, ⟨gs8, (show 0 ≤ (5) ∧ (5) ≤ 5 from by omega)⟩, fun r9 s9 q9 => ?_⟩
      obtain ⟨gs9, fs9, e9, u9⟩ := q9
      change r9 = -1 at e9
      change ∀ i : Nat, s9 121 i = up1 (s8 121) ((5) : Int).toNat (zw (s8 121 ((5) : Int).toNat + 1)) i at u9
      have e23 : s9 1 1 = s8 1 1 := fs9 1 1 rfl rfl
      have e25 : s8 115 5 = s7 115 5 := fs8 115 5 rfl rfl
      have e24 : s9 115 5 = s8 115 5 := fs9 115 5 rfl rfl
      have g26 := g_f115_5 hG
      exact hQ _ _ ⟨gs9, (fr_tr (fr_tr (fr_tr (fr_rf _ _) fs7 rfl) fs8 rfl) fs9 rfl), (show s9 1 1 = 0 from by omega), (show (HFok (fun j : Int => st 2 j.toNat % 256) (st 1 1) (st 122 1) ∧ r9 = st 1 1 / 2 ∧ s9 115 5 = st 1 1 / 2 ∧ (∀ i : Nat, s9 121 i = st 121 i) ∧ ∀ j : Int, 0 ≤ j → 2 * j < st 1 1 → s9 116 j.toNat = st 2 (2 * j).toNat % 256 ∧ s9 117 j.toNat = st 2 (2 * j + 1).toNat % 256) ∨ (¬ HFok (fun j : Int => st 2 j.toNat % 256) (st 1 1) (st 122 1) ∧ r9 = -1 ∧ s9 115 5 = st 115 5 ∧ (∀ i : Nat, s9 116 i = st 116 i) ∧ (∀ i : Nat, s9 117 i = st 117 i) ∧ ∀ i : Nat, s9 121 i = up1 (st 121) 5 (zw (st 121 5 + 1)) i) from (by exfalso; omega))⟩
    · have e27 : s8 115 5 = s7 115 5 := fs8 115 5 rfl rfl
      have g28 := g_f115_5 hG
      exact hQ _ _ ⟨gs8, (fr_tr (fr_tr (fr_rf _ _) fs7 rfl) fs8 rfl), (show s8 1 1 = 0 from by omega), (show (HFok (fun j : Int => st 2 j.toNat % 256) (st 1 1) (st 122 1) ∧ (s8 115 5) = st 1 1 / 2 ∧ s8 115 5 = st 1 1 / 2 ∧ (∀ i : Nat, s8 121 i = st 121 i) ∧ ∀ j : Int, 0 ≤ j → 2 * j < st 1 1 → s8 116 j.toNat = st 2 (2 * j).toNat % 256 ∧ s8 117 j.toNat = st 2 (2 * j + 1).toNat % 256) ∨ (¬ HFok (fun j : Int => st 2 j.toNat % 256) (st 1 1) (st 122 1) ∧ (s8 115 5) = -1 ∧ s8 115 5 = st 115 5 ∧ (∀ i : Nat, s8 116 i = st 116 i) ∧ (∀ i : Nat, s8 117 i = st 117 i) ∧ ∀ i : Nat, s8 121 i = up1 (st 121) 5 (zw (st 121 5 + 1)) i) from (Or.inl ⟨b_.mp (by omega), by omega, by omega, fun i => ((fs8 121 i rfl rfl).trans (fs7 121 i rfl rfl)), fun j z1 z2 => by rw [fs8 116 _ rfl rfl, fs8 117 _ rfl rfl]; exact a7 j z1 z2⟩))⟩
theorem k_wHalfA_m (hTb : aTb zSh rx_tb cl) {D : Nat} (hD : 3 ≤ D) : ∀ as st (Q Q' : zQ), (∀ r st', Q r st' → Q' r st') → k_wHalfA 161 as st Q → cl D 161 as st Q' := by
  intro as st Q Q' hQ h
  unfold k_wHalfA at h
  split at h
  · obtain ⟨rfl, h⟩ := h
    exact c_wHalfA hTb hD (ct_wHalfA_m hQ h)
  · exact h.elim
set_option maxHeartbeats 4000000 in
set_option maxRecDepth 100000 in
theorem c_wHalfB (hTb : aTb zSh rx_tb cl) {D : Nat} (hD : 3 ≤ D) {st : zS} {Q : zQ} (h : ct_wHalfB  st Q) : cl D 161 [.inr (.inr (.inl 0))] st Q := by
  obtain ⟨d, rfl⟩ : ∃ d, D = d + 1 := ⟨D - 1, by omega⟩
  refine hTb d 161 (rx_m161, 2, 0, 0, 1) rfl _ _ _ (Nat.le_of_ble_eq_true rfl) (fun K hcl hsf hsl => ?_)
  have hcm : zmo (wcL [(162, k_wFits), (224, k_wTake), (89, k_cCut), (163, k_wRefuse)]) (cl d) := (wcL_m (wm_cons (k_wFits_m hTb (by omega)) (wm_cons (k_wTake_m hTb (by omega)) (wm_cons (k_cCut_m hTb (by omega)) (wm_cons (k_wRefuse_m hTb (by omega)) wm_nil)))))
  obtain ⟨hR, hQ⟩ := h
  obtain ⟨hG, dd⟩ := hR
  change st 0 8 = 135 at dd
  have g1 := g_f0_8 hG
  have g2 := g_tsize hG
  have g3 := g_f135_1 hG
  refine dr1_ok (Rt := Q) (wc := (wcL [(162, k_wFits), (224, k_wTake), (89, k_cCut), (163, k_wRefuse)])) (stp := []) hcm hcl [(9, 135)] [] 50 ?_
  show ((st 0 8 = (135 : Int)) ∧ (115 = 115 ∧ ((1) = 1 ∧ (rq_wFits (st 135 1) st ∧ (∀ (r4 : Int), en_wFits (st 135 1) st r4 → ((r4 = (0 : Int) → (1 = 1 ∧ (rq_cCut (0) st ∧ (∀ (s5 : zS), en_cCut (0) st s5 → ((r4 = (0 : Int) → (0 = 0 ∧ (rq_wRefuse (5) s5 ∧ (∀ (r6 : Int) (s6 : zS), en_wRefuse (5) s5 r6 s6 → Q (some (.inl r6)) s6)))) ∧ (¬ (r4 = (0 : Int)) → Q (some (.inl (s5 115 5))) s5)))))) ∧ (¬ (r4 = (0 : Int)) → (115 = 115 ∧ ((1) = 1 ∧ (rq_wTake  st ∧ (∀ (s7 : zS), en_wTake  st s7 → (1 = 1 ∧ (rq_cCut (0) s7 ∧ (∀ (s8 : zS), en_cCut (0) s7 s8 → ((r4 = (0 : Int) → (0 = 0 ∧ (rq_wRefuse (5) s8 ∧ (∀ (r9 : Int) (s9 : zS), en_wRefuse (5) s8 r9 s9 → Q (some (.inl r9)) s9)))) ∧ (¬ (r4 = (0 : Int)) → Q (some (.inl (s8 115 5))) s8))))))))))))))))
  refine ⟨by omega, ?_⟩
  refine ⟨rfl, rfl, hG, fun r4 q4 => ?_⟩
  have b4 := q4
  change (r4 = 0 ∨ r4 = 1) ∧ (r4 = 1 ↔ HFok (fun j : Int => st 2 j.toNat % 256) (st 1 1) (st 135 1)) at b4
  have b_ := b4.2
  refine ⟨fun h10 => ?_, fun h10 => ?_⟩
  · refine ⟨rfl, hG, fun s5 q5 => ?_⟩
    obtain ⟨gs5, fs5, t5⟩ := q5
    change (0 ≤ (0) ∧ (0) < st 1 1 → s5 1 1 = (0)) ∧ (¬ (0 ≤ (0) ∧ (0) < st 1 1) → s5 1 1 = st 1 1) at t5
    have g11 := g_tsize gs5
    refine ⟨fun h12 => ?_, fun h12 => ?_⟩
    · refine ⟨rfl, ⟨gs5, (show 0 ≤ (5) ∧ (5) ≤ 5 from by omega)⟩, fun r6 s6 q6 => ?_⟩
      obtain ⟨gs6, fs6, e6, u6⟩ := q6
      change r6 = -1 at e6
      change ∀ i : Nat, s6 121 i = up1 (s5 121) ((5) : Int).toNat (zw (s5 121 ((5) : Int).toNat + 1)) i at u6
      have e13 : s6 1 1 = s5 1 1 := fs6 1 1 rfl rfl
      have g16 := g_f115_5 hG
      have e15 : s5 115 5 = st 115 5 := fs5 115 5 rfl rfl
      have e14 : s6 115 5 = s5 115 5 := fs6 115 5 rfl rfl
      exact hQ _ _ ⟨gs6, (fr_tr (fr_tr (fr_rf _ _) fs5 rfl) fs6 rfl), (show s6 1 1 = 0 from by omega), (show (HFok (fun j : Int => st 2 j.toNat % 256) (st 1 1) (st 135 1) ∧ r6 = st 1 1 / 2 ∧ s6 115 5 = st 1 1 / 2 ∧ (∀ i : Nat, s6 121 i = st 121 i) ∧ ∀ j : Int, 0 ≤ j → 2 * j < st 1 1 → s6 116 j.toNat = st 2 (2 * j).toNat % 256 ∧ s6 117 j.toNat = st 2 (2 * j + 1).toNat % 256) ∨ (¬ HFok (fun j : Int => st 2 j.toNat % 256) (st 1 1) (st 135 1) ∧ r6 = -1 ∧ s6 115 5 = st 115 5 ∧ (∀ i : Nat, s6 116 i = st 116 i) ∧ (∀ i : Nat, s6 117 i = st 117 i) ∧ ∀ i : Nat, s6 121 i = up1 (st 121) 5 (zw (st 121 5 + 1)) i) from (Or.inr ⟨fun z => absurd (b_.mpr z) (by omega), by omega, by omega, fun i => ((fs6 116 i rfl rfl).trans (fs5 116 i rfl rfl)), fun i => ((fs6 117 i rfl rfl).trans (fs5 117 i rfl rfl)), fun i => by rw [show (5 : Nat) = (5 : Int).toNat from rfl, u6, show s5 121 = st 121 from funext (fun i => fs5 121 i rfl rfl)]⟩))⟩
    · have g18 := g_f115_5 hG
      have e17 : s5 115 5 = st 115 5 := fs5 115 5 rfl rfl
      exact hQ _ _ ⟨gs5, (fr_tr (fr_rf _ _) fs5 rfl), (show s5 1 1 = 0 from by omega), (show (HFok (fun j : Int => st 2 j.toNat % 256) (st 1 1) (st 135 1) ∧ (s5 115 5) = st 1 1 / 2 ∧ s5 115 5 = st 1 1 / 2 ∧ (∀ i : Nat, s5 121 i = st 121 i) ∧ ∀ j : Int, 0 ≤ j → 2 * j < st 1 1 → s5 116 j.toNat = st 2 (2 * j).toNat % 256 ∧ s5 117 j.toNat = st 2 (2 * j + 1).toNat % 256) ∨ (¬ HFok (fun j : Int => st 2 j.toNat % 256) (st 1 1) (st 135 1) ∧ (s5 115 5) = -1 ∧ s5 115 5 = st 115 5 ∧ (∀ i : Nat, s5 116 i = st 116 i) ∧ (∀ i : Nat, s5 117 i = st 117 i) ∧ ∀ i : Nat, s5 121 i = up1 (st 121) 5 (zw (st 121 5 + 1)) i) from (by exfalso; omega))⟩
  · refine ⟨rfl, rfl, ⟨hG, (show 2 ≤ st 1 1 ∧ st 1 1 ≤ 40 ∧ st 1 1 % 2 = 0 from by have hz := b_.mp (by omega); obtain ⟨z1, z2, z3, -⟩ := hz; omega), (show ∀ j : Int, 0 ≤ j → 2 * j < st 1 1 → st 2 (2 * j).toNat % 256 < 20 from fun j z1 z2 => ((b_.mp (by omega)).2.2.2 j z1 z2).1)⟩, fun s7 q7 => ?_⟩
    obtain ⟨gs7, fs7, n7, a7⟩ := q7
    change s7 115 5 = st 1 1 / 2 at n7
    have g19 := g_f115_5 gs7
    change ∀ j : Int, 0 ≤ j → 2 * j < st 1 1 → s7 116 j.toNat = st 2 (2 * j).toNat % 256 ∧ s7 117 j.toNat = st 2 (2 * j + 1).toNat % 256 at a7
    refine ⟨rfl, gs7, fun s8 q8 => ?_⟩
    obtain ⟨gs8, fs8, t8⟩ := q8
    change (0 ≤ (0) ∧ (0) < s7 1 1 → s8 1 1 = (0)) ∧ (¬ (0 ≤ (0) ∧ (0) < s7 1 1) → s8 1 1 = s7 1 1) at t8
    have e20 : s7 1 1 = st 1 1 := fs7 1 1 rfl rfl
    have g21 := g_tsize gs8
    refine ⟨fun h22 => ?_, fun h22 => ?_⟩
    · refine ⟨rfl, ⟨gs8, (show 0 ≤ (5) ∧ (5) ≤ 5 from by omega)⟩, fun r9 s9 q9 => ?_⟩
      obtain ⟨gs9, fs9, e9, u9⟩ := q9
      change r9 = -1 at e9
      change ∀ i : Nat, s9 121 i = up1 (s8 121) ((5) : Int).toNat (zw (s8 121 ((5) : Int).toNat + 1)) i at u9
      have e23 : s9 1 1 = s8 1 1 := fs9 1 1 rfl rfl
      have e25 : s8 115 5 = s7 115 5 := fs8 115 5 rfl rfl
      have e24 : s9 115 5 = s8 115 5 := fs9 115 5 rfl rfl
      have g26 := g_f115_5 hG
      exact hQ _ _ ⟨gs9, (fr_tr (fr_tr (fr_tr (fr_rf _ _) fs7 rfl) fs8 rfl) fs9 rfl), (show s9 1 1 = 0 from by omega), (show (HFok (fun j : Int => st 2 j.toNat % 256) (st 1 1) (st 135 1) ∧ r9 = st 1 1 / 2 ∧ s9 115 5 = st 1 1 / 2 ∧ (∀ i : Nat, s9 121 i = st 121 i) ∧ ∀ j : Int, 0 ≤ j → 2 * j < st 1 1 → s9 116 j.toNat = st 2 (2 * j).toNat % 256 ∧ s9 117 j.toNat = st 2 (2 * j + 1).toNat % 256) ∨ (¬ HFok (fun j : Int => st 2 j.toNat % 256) (st 1 1) (st 135 1) ∧ r9 = -1 ∧ s9 115 5 = st 115 5 ∧ (∀ i : Nat, s9 116 i = st 116 i) ∧ (∀ i : Nat, s9 117 i = st 117 i) ∧ ∀ i : Nat, s9 121 i = up1 (st 121) 5 (zw (st 121 5 + 1)) i) from (by exfalso; omega))⟩
    · have e27 : s8 115 5 = s7 115 5 := fs8 115 5 rfl rfl
      have g28 := g_f115_5 hG
      exact hQ _ _ ⟨gs8, (fr_tr (fr_tr (fr_rf _ _) fs7 rfl) fs8 rfl), (show s8 1 1 = 0 from by omega), (show (HFok (fun j : Int => st 2 j.toNat % 256) (st 1 1) (st 135 1) ∧ (s8 115 5) = st 1 1 / 2 ∧ s8 115 5 = st 1 1 / 2 ∧ (∀ i : Nat, s8 121 i = st 121 i) ∧ ∀ j : Int, 0 ≤ j → 2 * j < st 1 1 → s8 116 j.toNat = st 2 (2 * j).toNat % 256 ∧ s8 117 j.toNat = st 2 (2 * j + 1).toNat % 256) ∨ (¬ HFok (fun j : Int => st 2 j.toNat % 256) (st 1 1) (st 135 1) ∧ (s8 115 5) = -1 ∧ s8 115 5 = st 115 5 ∧ (∀ i : Nat, s8 116 i = st 116 i) ∧ (∀ i : Nat, s8 117 i = st 117 i) ∧ ∀ i : Nat, s8 121 i = up1 (st 121) 5 (zw (st 121 5 + 1)) i) from (Or.inl ⟨b_.mp (by omega), by omega, by omega, fun i => ((fs8 121 i rfl rfl).trans (fs7 121 i rfl rfl)), fun j z1 z2 => by rw [fs8 116 _ rfl rfl, fs8 117 _ rfl rfl]; exact a7 j z1 z2⟩))⟩
theorem k_wHalfB_m (hTb : aTb zSh rx_tb cl) {D : Nat} (hD : 3 ≤ D) : ∀ as st (Q Q' : zQ), (∀ r st', Q r st' → Q' r st') → k_wHalfB 161 as st Q → cl D 161 as st Q' := by
  intro as st Q Q' hQ h
  unfold k_wHalfB at h
  split at h
  · obtain ⟨rfl, h⟩ := h
    exact c_wHalfB hTb hD (ct_wHalfB_m hQ h)
  · exact h.elim
set_option maxHeartbeats 4000000 in
set_option maxRecDepth 100000 in
theorem c_vHalf (hTb : aTb zSh rx_tb cl) {D : Nat} (hD : 2 ≤ D) {st : zS} {Q : zQ} (h : ct_vHalf  st Q) : cl D 164 [.inr (.inr (.inl 170))] st Q := by
  obtain ⟨d, rfl⟩ : ∃ d, D = d + 1 := ⟨D - 1, by omega⟩
  refine hTb d 164 (rx_m164, 4, 0, 0, 1) rfl _ _ _ (Nat.le_of_ble_eq_true rfl) (fun K hcl hsf hsl => ?_)
  have hcm : zmo (wcL [(67, k_isPlace), (58, k_vRefuses)]) (cl d) := (wcL_m (wm_cons (k_isPlace_m hTb (by omega)) (wm_cons (k_vRefuses_m hTb (by omega)) wm_nil)))
  obtain ⟨hR, hQ⟩ := h
  have hG := hR
  have g1 := g_taped hG
  have g2 := g_bank hG
  have g3 := g_rows hG
  have l2 : ∀ (u : Nat) (k : Int) (s_l2 : zS), gInv zgt s_l2 ∧ aFr m_vHalf st s_l2 ∧ (s_l2 170 71 = st 170 1 / 2 ∧ s_l2 170 1 = 0) ∧ (HFok (fun j : Int => st 171 j.toNat) (st 170 1) (st 172 (st 170 13 : Int).toNat)) ∧ (0 ≤ k ∧ k ≤ st 170 1 / 2) ∧ (∀ i : Nat, s_l2 171 i = st 171 i) ∧ (∀ i : Nat, s_l2 198 i = st 198 i) ∧ (∀ j : Int, 0 ≤ j → j < k → s_l2 216 j.toNat = st 171 (2 * j).toNat ∧ s_l2 217 j.toNat = st 171 (2 * j + 1).toNat) → (st 170 1 / 2 - k).toNat = u → K (rx_find rx_m164 100) [(3, .inl k), (0, .inr (.inr (.inl 170)))] [] s_l2 := by
    intro u_l2
    induction u_l2 using Nat.strongRecOn with
    | _ u_l2 ih_l2 =>
      intro k s_l2 hi hu_l2
      obtain ⟨gI_l2, fI_l2, n_l2, h_l2, i_l2, t_l2, w_l2, a_l2⟩ := hi
      have g4 := g_rows gI_l2
      have g5 := g_taped hG
      have g6 := g_taped gI_l2
      refine yr1_ok (Rt := Q) (wc := (wcL [(67, k_isPlace), (58, k_vRefuses)])) (stp := [100]) hcm hcl [] 111 ?_
      show ((s_l2 170 71 ≤ k → Q (some (.inl (s_l2 170 71))) s_l2) ∧ (¬ (s_l2 170 71 ≤ k) → ((-2147483648 ≤ (2 : Int) * k ∧ (2 : Int) * k ≤ 2147483647) ∧ ((0 ≤ (2 : Int) * k ∧ (2 : Int) * k < 1800) ∧ ((0 ≤ k ∧ k < 20) ∧ ((-2147483648 ≤ (2 : Int) * k ∧ (2 : Int) * k ≤ 2147483647) ∧ ((-2147483648 ≤ ((2 : Int) * k) + 1 ∧ ((2 : Int) * k) + 1 ≤ 2147483647) ∧ ((0 ≤ ((2 : Int) * k) + 1 ∧ ((2 : Int) * k) + 1 < 1800) ∧ ((0 ≤ k ∧ k < 20) ∧ ((-2147483648 ≤ k + 1 ∧ k + 1 ≤ 2147483647) ∧ K (rx_find rx_m164 100) [(3, .inl (k + 1)), (0, .inr (.inr (.inl 170)))] [] (zup (zup s_l2 216 (k : Int).toNat (s_l2 171 ((2 : Int) * k : Int).toNat)) 217 (k : Int).toNat (s_l2 171 (((2 : Int) * k) + 1 : Int).toNat))))))))))))
      refine ⟨fun h7 => ?_, fun h7 => ?_⟩
      · have g8 := g_bank hG
        have g9 := g_places hG (st 170 13 : Int).toNat
        have g10 := g_rows hG
        exact hQ _ _ ⟨gI_l2, fI_l2, (show s_l2 170 1 = 0 from by omega), (show (HFok (fun j : Int => st 171 j.toNat) (st 170 1) (st 172 (st 170 13 : Int).toNat) ∧ (s_l2 170 71) = st 170 1 / 2 ∧ s_l2 170 71 = st 170 1 / 2 ∧ (∀ i : Nat, s_l2 198 i = st 198 i) ∧ ∀ j : Int, 0 ≤ j → 2 * j < st 170 1 → s_l2 216 j.toNat = st 171 (2 * j).toNat ∧ s_l2 217 j.toNat = st 171 (2 * j + 1).toNat) ∨ (¬ HFok (fun j : Int => st 171 j.toNat) (st 170 1) (st 172 (st 170 13 : Int).toNat) ∧ (s_l2 170 71) = -1 ∧ s_l2 170 71 = st 170 71 ∧ (∀ i : Nat, s_l2 216 i = st 216 i) ∧ (∀ i : Nat, s_l2 217 i = st 217 i) ∧ ∀ i : Nat, s_l2 198 i = up1 (st 198) 5 (zw (st 198 5 + 1)) i) from (Or.inl ⟨h_l2, by omega, by omega, w_l2, fun j z1 z2 => a_l2 j z1 (by have y := h_l2.2.2.1; omega)⟩))⟩
      · refine ⟨by omega, ?_⟩
        have g12 := g_tape hG ((2 : Int) * k : Int).toNat
        have e11 : s_l2 171 ((2 : Int) * k : Int).toNat = st 171 ((2 : Int) * k : Int).toNat := fI_l2 171 ((2 : Int) * k : Int).toNat rfl rfl
        refine ⟨by omega, ?_⟩
        refine ⟨by omega, ?_⟩
        refine ⟨by omega, ?_⟩
        refine ⟨by omega, ?_⟩
        have g14 := g_tape hG (((2 : Int) * k) + 1 : Int).toNat
        have e13 : s_l2 171 (((2 : Int) * k) + 1 : Int).toNat = st 171 (((2 : Int) * k) + 1 : Int).toNat := fI_l2 171 (((2 : Int) * k) + 1 : Int).toNat rfl rfl
        refine ⟨by omega, ?_⟩
        refine ⟨by omega, ?_⟩
        refine ⟨by omega, ?_⟩
        exact ih_l2 _ (show (st 170 1 / 2 - (k + 1) : Int).toNat < u_l2 from by omega) (k + 1) (zup (zup s_l2 216 (k : Int).toNat (s_l2 171 ((2 : Int) * k : Int).toNat)) 217 (k : Int).toNat (s_l2 171 (((2 : Int) * k) + 1 : Int).toNat)) ⟨(gInv_up (gInv_up gI_l2 (p_rowNumber (by omega))) (p_rowPlace (by omega))), (fr_a (fr_a fI_l2 rfl) rfl), (show s_l2 170 71 = st 170 1 / 2 ∧ s_l2 170 1 = 0 from by omega), (show HFok (fun j : Int => st 171 j.toNat) (st 170 1) (st 172 (st 170 13 : Int).toNat) from h_l2), (show 0 ≤ (k + 1) ∧ (k + 1) ≤ st 170 1 / 2 from by omega), (show ∀ i : Nat, (zup (zup s_l2 216 (k : Int).toNat (s_l2 171 ((2 : Int) * k : Int).toNat)) 217 (k : Int).toNat (s_l2 171 (((2 : Int) * k) + 1 : Int).toNat)) 171 i = st 171 i from t_l2), (show ∀ i : Nat, (zup (zup s_l2 216 (k : Int).toNat (s_l2 171 ((2 : Int) * k : Int).toNat)) 217 (k : Int).toNat (s_l2 171 (((2 : Int) * k) + 1 : Int).toNat)) 198 i = st 198 i from w_l2), (show ∀ j : Int, 0 ≤ j → j < (k + 1) → (zup (zup s_l2 216 (k : Int).toNat (s_l2 171 ((2 : Int) * k : Int).toNat)) 217 (k : Int).toNat (s_l2 171 (((2 : Int) * k) + 1 : Int).toNat)) 216 j.toNat = st 171 (2 * j).toNat ∧ (zup (zup s_l2 216 (k : Int).toNat (s_l2 171 ((2 : Int) * k : Int).toNat)) 217 (k : Int).toNat (s_l2 171 (((2 : Int) * k) + 1 : Int).toNat)) 217 j.toNat = st 171 (2 * j + 1).toNat from fun j z1 z2 => by
            show up1 (s_l2 216) (k : Int).toNat (s_l2 171 ((2 : Int) * k : Int).toNat) j.toNat = _ ∧ up1 (s_l2 217) (k : Int).toNat (s_l2 171 (((2 : Int) * k) + 1 : Int).toNat) j.toNat = _
            by_cases z3 : j = k
            · rw [z3, up1_e, up1_e]; exact ⟨t_l2 _, t_l2 _⟩
            · rw [up1_n _ _ (by omega), up1_n _ _ (by omega)]; exact a_l2 j z1 (by omega))⟩ rfl
  have l1 : ∀ (u : Nat) (k : Int) (ca : Int), (0 ≤ k ∧ k % 2 = 0 ∧ k ≤ st 170 1 + 1 ∧ (ca = 0 ∨ ca = 1) ∧ (ca = 1 → 2 ≤ st 170 1 ∧ st 170 1 ≤ 40 ∧ st 170 1 % 2 = 0)) ∧ ((ca = 1 → ∀ j : Int, 0 ≤ j → 2 * j < k → st 171 (2 * j).toNat < 20 ∧ st 171 (2 * j + 1).toNat < st 172 (st 170 13 : Int).toNat)) ∧ ((ca = 0 → ¬ HFok (fun j : Int => st 171 j.toNat) (st 170 1) (st 172 (st 170 13 : Int).toNat))) → (st 170 1 + 2 - k).toNat = u → K (rx_find rx_m164 34) [(3, .inl k), (2, .inl ca), (1, .inl (st 170 1)), (0, .inr (.inr (.inl 170)))] [] (zup st 170 1 0) := by
    intro u_l1
    induction u_l1 using Nat.strongRecOn with
    | _ u_l1 ih_l1 =>
      intro k ca hi hu_l1
      obtain ⟨i_l1, b_l1, nf_l1⟩ := hi
      have g15 := g_taped hG
      have g16 := g_bank hG
      refine yr1_ok (Rt := Q) (wc := (wcL [(67, k_isPlace), (58, k_vRefuses)])) (stp := [34, 100]) hcm hcl [] 111 ?_
      show ((st 170 1 ≤ k → ((¬ ca = (0 : Int) → ((0 ≤ st 170 1 ∧ st 170 1 ≤ 2147483647 ∧ 0 < (2 : Int)) ∧ K (rx_find rx_m164 100) [(3, .inl 0), (2, .inl ca), (1, .inl (st 170 1)), (0, .inr (.inr (.inl 170)))] [] (zup (zup st 170 1 0) 170 71 ((st 170 1) / 2)))) ∧ (¬ (¬ ca = (0 : Int)) → (170 = 170 ∧ (rq_vRefuses (5) (zup st 170 1 0) ∧ (∀ (r17 : Int) (s17 : zS), en_vRefuses (5) (zup st 170 1 0) r17 s17 → Q (some (.inl r17)) s17)))))) ∧ (¬ (st 170 1 ≤ k) → ((ca = (0 : Int) → ((¬ ca = (0 : Int) → ((0 ≤ st 170 1 ∧ st 170 1 ≤ 2147483647 ∧ 0 < (2 : Int)) ∧ K (rx_find rx_m164 100) [(3, .inl 0), (2, .inl ca), (1, .inl (st 170 1)), (0, .inr (.inr (.inl 170)))] [] (zup (zup st 170 1 0) 170 71 ((st 170 1) / 2)))) ∧ (¬ (¬ ca = (0 : Int)) → (170 = 170 ∧ (rq_vRefuses (5) (zup st 170 1 0) ∧ (∀ (r18 : Int) (s18 : zS), en_vRefuses (5) (zup st 170 1 0) r18 s18 → Q (some (.inl r18)) s18)))))) ∧ (¬ (ca = (0 : Int)) → ((0 ≤ k ∧ k < 1800) ∧ (((20 : Int) ≤ st 171 (k : Int).toNat → ((-2147483648 ≤ k + 2 ∧ k + 2 ≤ 2147483647) ∧ K (rx_find rx_m164 34) [(3, .inl (k + 2)), (2, .inl 0), (1, .inl (st 170 1)), (0, .inr (.inr (.inl 170)))] [] (zup st 170 1 0))) ∧ (¬ ((20 : Int) ≤ st 171 (k : Int).toNat) → ((-2147483648 ≤ k + 1 ∧ k + 1 ≤ 2147483647) ∧ ((0 ≤ k + 1 ∧ k + 1 < 1800) ∧ (170 = 170 ∧ (rq_isPlace (st 171 (k + 1 : Int).toNat) (zup st 170 1 0) ∧ (∀ (r19 : Int), en_isPlace (st 171 (k + 1 : Int).toNat) (zup st 170 1 0) r19 → ((r19 = (0 : Int) → ((-2147483648 ≤ k + 2 ∧ k + 2 ≤ 2147483647) ∧ K (rx_find rx_m164 34) [(3, .inl (k + 2)), (2, .inl 0), (1, .inl (st 170 1)), (0, .inr (.inr (.inl 170)))] [] (zup st 170 1 0))) ∧ (¬ (r19 = (0 : Int)) → ((-2147483648 ≤ k + 2 ∧ k + 2 ≤ 2147483647) ∧ K (rx_find rx_m164 34) [(3, .inl (k + 2)), (2, .inl 1), (1, .inl (st 170 1)), (0, .inr (.inr (.inl 170)))] [] (zup st 170 1 0))))))))))))))))
      refine ⟨fun h20 => ?_, fun h20 => ?_⟩
      · refine ⟨fun h21 => ?_, fun h21 => ?_⟩
        · refine ⟨by omega, ?_⟩
          have h_ : HFok (fun j : Int => st 171 j.toNat) (st 170 1) (st 172 (st 170 13 : Int).toNat) := ⟨by omega, by omega, by omega, fun j z1 z2 => b_l1 (by omega) j z1 (by omega)⟩
          exact hsl _ _ _ _ _ (sb_cons (.head _) (sb_cons (.tail _ (.tail _ (.tail _ (.head _)))) sb_nil)) (l2 _ 0 (zup (zup st 170 1 0) 170 71 ((st 170 1) / 2)) ⟨(gInv_up (gInv_up hG (p_taped (by omega))) (p_rows (by omega))), (fr_f (fr_f (fr_rf _ _) rfl) rfl), (show ((st 170 1) / 2) = st 170 1 / 2 ∧ 0 = 0 from by omega), (show HFok (fun j : Int => st 171 j.toNat) (st 170 1) (st 172 (st 170 13 : Int).toNat) from h_), (show 0 ≤ (0 : Int) ∧ (0 : Int) ≤ st 170 1 / 2 from by omega), (show ∀ i : Nat, (zup (zup st 170 1 0) 170 71 ((st 170 1) / 2)) 171 i = st 171 i from fun _ => rfl), (show ∀ i : Nat, (zup (zup st 170 1 0) 170 71 ((st 170 1) / 2)) 198 i = st 198 i from fun _ => rfl), (show ∀ j : Int, 0 ≤ j → j < (0 : Int) → (zup (zup st 170 1 0) 170 71 ((st 170 1) / 2)) 216 j.toNat = st 171 (2 * j).toNat ∧ (zup (zup st 170 1 0) 170 71 ((st 170 1) / 2)) 217 j.toNat = st 171 (2 * j + 1).toNat from fun j z1 z2 => by omega)⟩ rfl)
        · refine ⟨rfl, ⟨(gInv_up hG (p_taped (by omega))), (show 0 ≤ (5) ∧ (5) ≤ 5 from by omega)⟩, fun r17 s17 q17 => ?_⟩
          obtain ⟨gs17, fs17, e17, u17⟩ := q17
          change r17 = -1 at e17
          change ∀ i : Nat, s17 198 i = up1 ((zup st 170 1 0) 198) ((5) : Int).toNat (zw ((zup st 170 1 0) 198 ((5) : Int).toNat + 1)) i at u17
          have hn_ := nf_l1 (by omega)
          have e22 : s17 170 1 = 0 := fs17 170 1 rfl rfl
          have g23 := g_places hG (st 170 13 : Int).toNat
          have g25 := g_rows hG
          have e24 : s17 170 71 = st 170 71 := fs17 170 71 rfl rfl
          exact hQ _ _ ⟨gs17, (fr_tr (fr_f (fr_rf _ _) rfl) fs17 rfl), (show s17 170 1 = 0 from by omega), (show (HFok (fun j : Int => st 171 j.toNat) (st 170 1) (st 172 (st 170 13 : Int).toNat) ∧ r17 = st 170 1 / 2 ∧ s17 170 71 = st 170 1 / 2 ∧ (∀ i : Nat, s17 198 i = st 198 i) ∧ ∀ j : Int, 0 ≤ j → 2 * j < st 170 1 → s17 216 j.toNat = st 171 (2 * j).toNat ∧ s17 217 j.toNat = st 171 (2 * j + 1).toNat) ∨ (¬ HFok (fun j : Int => st 171 j.toNat) (st 170 1) (st 172 (st 170 13 : Int).toNat) ∧ r17 = -1 ∧ s17 170 71 = st 170 71 ∧ (∀ i : Nat, s17 216 i = st 216 i) ∧ (∀ i : Nat, s17 217 i = st 217 i) ∧ ∀ i : Nat, s17 198 i = up1 (st 198) 5 (zw (st 198 5 + 1)) i) from (Or.inr ⟨hn_, by omega, by omega, fun i => fs17 216 i rfl rfl, fun i => fs17 217 i rfl rfl, fun i => by rw [show (5 : Nat) = (5 : Int).toNat from rfl, u17]; rfl⟩))⟩
      · refine ⟨fun h26 => ?_, fun h26 => ?_⟩
        · refine ⟨fun h27 => ?_, fun h27 => ?_⟩
          · refine ⟨by omega, ?_⟩
            have h_ : HFok (fun j : Int => st 171 j.toNat) (st 170 1) (st 172 (st 170 13 : Int).toNat) := ⟨by omega, by omega, by omega, fun j z1 z2 => b_l1 (by omega) j z1 (by omega)⟩
            exact hsl _ _ _ _ _ (sb_cons (.head _) (sb_cons (.tail _ (.tail _ (.tail _ (.head _)))) sb_nil)) (l2 _ 0 (zup (zup st 170 1 0) 170 71 ((st 170 1) / 2)) ⟨(gInv_up (gInv_up hG (p_taped (by omega))) (p_rows (by omega))), (fr_f (fr_f (fr_rf _ _) rfl) rfl), (show ((st 170 1) / 2) = st 170 1 / 2 ∧ 0 = 0 from by omega), (show HFok (fun j : Int => st 171 j.toNat) (st 170 1) (st 172 (st 170 13 : Int).toNat) from h_), (show 0 ≤ (0 : Int) ∧ (0 : Int) ≤ st 170 1 / 2 from by omega), (show ∀ i : Nat, (zup (zup st 170 1 0) 170 71 ((st 170 1) / 2)) 171 i = st 171 i from fun _ => rfl), (show ∀ i : Nat, (zup (zup st 170 1 0) 170 71 ((st 170 1) / 2)) 198 i = st 198 i from fun _ => rfl), (show ∀ j : Int, 0 ≤ j → j < (0 : Int) → (zup (zup st 170 1 0) 170 71 ((st 170 1) / 2)) 216 j.toNat = st 171 (2 * j).toNat ∧ (zup (zup st 170 1 0) 170 71 ((st 170 1) / 2)) 217 j.toNat = st 171 (2 * j + 1).toNat from fun j z1 z2 => by omega)⟩ rfl)
          · refine ⟨rfl, ⟨(gInv_up hG (p_taped (by omega))), (show 0 ≤ (5) ∧ (5) ≤ 5 from by omega)⟩, fun r18 s18 q18 => ?_⟩
            obtain ⟨gs18, fs18, e18, u18⟩ := q18
            change r18 = -1 at e18
            change ∀ i : Nat, s18 198 i = up1 ((zup st 170 1 0) 198) ((5) : Int).toNat (zw ((zup st 170 1 0) 198 ((5) : Int).toNat + 1)) i at u18
            have hn_ := nf_l1 (by omega)
            have e28 : s18 170 1 = 0 := fs18 170 1 rfl rfl
            have g29 := g_places hG (st 170 13 : Int).toNat
            have g31 := g_rows hG
            have e30 : s18 170 71 = st 170 71 := fs18 170 71 rfl rfl
            exact hQ _ _ ⟨gs18, (fr_tr (fr_f (fr_rf _ _) rfl) fs18 rfl), (show s18 170 1 = 0 from by omega), (show (HFok (fun j : Int => st 171 j.toNat) (st 170 1) (st 172 (st 170 13 : Int).toNat) ∧ r18 = st 170 1 / 2 ∧ s18 170 71 = st 170 1 / 2 ∧ (∀ i : Nat, s18 198 i = st 198 i) ∧ ∀ j : Int, 0 ≤ j → 2 * j < st 170 1 → s18 216 j.toNat = st 171 (2 * j).toNat ∧ s18 217 j.toNat = st 171 (2 * j + 1).toNat) ∨ (¬ HFok (fun j : Int => st 171 j.toNat) (st 170 1) (st 172 (st 170 13 : Int).toNat) ∧ r18 = -1 ∧ s18 170 71 = st 170 71 ∧ (∀ i : Nat, s18 216 i = st 216 i) ∧ (∀ i : Nat, s18 217 i = st 217 i) ∧ ∀ i : Nat, s18 198 i = up1 (st 198) 5 (zw (st 198 5 + 1)) i) from (Or.inr ⟨hn_, by omega, by omega, fun i => fs18 216 i rfl rfl, fun i => fs18 217 i rfl rfl, fun i => by rw [show (5 : Nat) = (5 : Int).toNat from rfl, u18]; rfl⟩))⟩
        · have g32 := g_tape hG (k : Int).toNat
          refine ⟨by omega, ?_⟩
          refine ⟨fun h33 => ?_, fun h33 => ?_⟩
          · refine ⟨by omega, ?_⟩
            exact ih_l1 _ (show (st 170 1 + 2 - (k + 2) : Int).toNat < u_l1 from by omega) (k + 2) 0 ⟨(show 0 ≤ (k + 2) ∧ (k + 2) % 2 = 0 ∧ (k + 2) ≤ st 170 1 + 1 ∧ ((0 : Int) = 0 ∨ (0 : Int) = 1) ∧ ((0 : Int) = 1 → 2 ≤ st 170 1 ∧ st 170 1 ≤ 40 ∧ st 170 1 % 2 = 0) from by omega), (show ((0 : Int) = 1 → ∀ j : Int, 0 ≤ j → 2 * j < (k + 2) → st 171 (2 * j).toNat < 20 ∧ st 171 (2 * j + 1).toNat < st 172 (st 170 13 : Int).toNat) from fun z => absurd z (by decide)), (show ((0 : Int) = 0 → ¬ HFok (fun j : Int => st 171 j.toNat) (st 170 1) (st 172 (st 170 13 : Int).toNat)) from fun _ => HFok_no (i := k) (by omega) (by omega) (by omega) (fun z2 => by have z3 : st 171 (k : Int).toNat < 20 ∧ st 171 (k + 1 : Int).toNat < st 172 (st 170 13 : Int).toNat := z2; omega))⟩ rfl
          · refine ⟨by omega, ?_⟩
            have g34 := g_tape hG (k + 1 : Int).toNat
            refine ⟨by omega, ?_⟩
            refine ⟨rfl, (gInv_up hG (p_taped (by omega))), fun r19 q19 => ?_⟩
            have b19 := q19
            change (r19 = 0 ∨ r19 = 1) ∧ (r19 = 1 ↔ 0 ≤ (st 171 (k + 1 : Int).toNat) ∧ (st 171 (k + 1 : Int).toNat) < st 172 (st 170 13 : Int).toNat) at b19
            have g35 := g_places hG (st 170 13 : Int).toNat
            refine ⟨fun h36 => ?_, fun h36 => ?_⟩
            · refine ⟨by omega, ?_⟩
              exact ih_l1 _ (show (st 170 1 + 2 - (k + 2) : Int).toNat < u_l1 from by omega) (k + 2) 0 ⟨(show 0 ≤ (k + 2) ∧ (k + 2) % 2 = 0 ∧ (k + 2) ≤ st 170 1 + 1 ∧ ((0 : Int) = 0 ∨ (0 : Int) = 1) ∧ ((0 : Int) = 1 → 2 ≤ st 170 1 ∧ st 170 1 ≤ 40 ∧ st 170 1 % 2 = 0) from by omega), (show ((0 : Int) = 1 → ∀ j : Int, 0 ≤ j → 2 * j < (k + 2) → st 171 (2 * j).toNat < 20 ∧ st 171 (2 * j + 1).toNat < st 172 (st 170 13 : Int).toNat) from fun z => absurd z (by decide)), (show ((0 : Int) = 0 → ¬ HFok (fun j : Int => st 171 j.toNat) (st 170 1) (st 172 (st 170 13 : Int).toNat)) from fun _ => HFok_no (i := k) (by omega) (by omega) (by omega) (fun z2 => by have z3 : st 171 (k : Int).toNat < 20 ∧ st 171 (k + 1 : Int).toNat < st 172 (st 170 13 : Int).toNat := z2; omega))⟩ rfl
            · refine ⟨by omega, ?_⟩
              exact ih_l1 _ (show (st 170 1 + 2 - (k + 2) : Int).toNat < u_l1 from by omega) (k + 2) 1 ⟨(show 0 ≤ (k + 2) ∧ (k + 2) % 2 = 0 ∧ (k + 2) ≤ st 170 1 + 1 ∧ ((1 : Int) = 0 ∨ (1 : Int) = 1) ∧ ((1 : Int) = 1 → 2 ≤ st 170 1 ∧ st 170 1 ≤ 40 ∧ st 170 1 % 2 = 0) from by omega), (show ((1 : Int) = 1 → ∀ j : Int, 0 ≤ j → 2 * j < (k + 2) → st 171 (2 * j).toNat < 20 ∧ st 171 (2 * j + 1).toNat < st 172 (st 170 13 : Int).toNat) from fun _ j z1 z2 => by
              by_cases z3 : 2 * j = k
              · rw [z3]; exact ⟨by omega, by omega⟩
              · exact b_l1 (by omega) j z1 (by omega)), (show ((1 : Int) = 0 → ¬ HFok (fun j : Int => st 171 j.toNat) (st 170 1) (st 172 (st 170 13 : Int).toNat)) from fun z => absurd z (by decide))⟩ rfl
  refine yr1_ok (Rt := Q) (wc := (wcL [(67, k_isPlace), (58, k_vRefuses)])) (stp := [34, 100]) hcm hcl [] 111 ?_
  show ((st 170 1 ≤ (0 : Int) → K (rx_find rx_m164 34) [(3, .inl 0), (2, .inl 0), (1, .inl (st 170 1)), (0, .inr (.inr (.inl 170)))] [] (zup st 170 1 0)) ∧ (¬ (st 170 1 ≤ (0 : Int)) → ((0 ≤ st 170 1 ∧ st 170 1 ≤ 2147483647 ∧ 0 < (2 : Int)) ∧ ((¬ (st 170 1) % 2 = (0 : Int) → K (rx_find rx_m164 34) [(3, .inl 0), (2, .inl 0), (1, .inl (st 170 1)), (0, .inr (.inr (.inl 170)))] [] (zup st 170 1 0)) ∧ (¬ (¬ (st 170 1) % 2 = (0 : Int)) → (((40 : Int) < st 170 1 → K (rx_find rx_m164 34) [(3, .inl 0), (2, .inl 0), (1, .inl (st 170 1)), (0, .inr (.inr (.inl 170)))] [] (zup st 170 1 0)) ∧ (¬ ((40 : Int) < st 170 1) → K (rx_find rx_m164 34) [(3, .inl 0), (2, .inl 1), (1, .inl (st 170 1)), (0, .inr (.inr (.inl 170)))] [] (zup st 170 1 0))))))))
  refine ⟨fun h37 => ?_, fun h37 => ?_⟩
  · exact l1 _ 0 0 ⟨(show 0 ≤ (0 : Int) ∧ (0 : Int) % 2 = 0 ∧ (0 : Int) ≤ st 170 1 + 1 ∧ ((0 : Int) = 0 ∨ (0 : Int) = 1) ∧ ((0 : Int) = 1 → 2 ≤ st 170 1 ∧ st 170 1 ≤ 40 ∧ st 170 1 % 2 = 0) from by omega), (show ((0 : Int) = 1 → ∀ j : Int, 0 ≤ j → 2 * j < (0 : Int) → st 171 (2 * j).toNat < 20 ∧ st 171 (2 * j + 1).toNat < st 172 (st 170 13 : Int).toNat) from fun z => absurd z (by decide)), (show ((0 : Int) = 0 → ¬ HFok (fun j : Int => st 171 j.toNat) (st 170 1) (st 172 (st 170 13 : Int).toNat)) from fun _ z => by obtain ⟨z1, z2, z3, -⟩ := z; omega)⟩ rfl
  · refine ⟨by omega, ?_⟩
    refine ⟨fun h38 => ?_, fun h38 => ?_⟩
    · exact l1 _ 0 0 ⟨(show 0 ≤ (0 : Int) ∧ (0 : Int) % 2 = 0 ∧ (0 : Int) ≤ st 170 1 + 1 ∧ ((0 : Int) = 0 ∨ (0 : Int) = 1) ∧ ((0 : Int) = 1 → 2 ≤ st 170 1 ∧ st 170 1 ≤ 40 ∧ st 170 1 % 2 = 0) from by omega), (show ((0 : Int) = 1 → ∀ j : Int, 0 ≤ j → 2 * j < (0 : Int) → st 171 (2 * j).toNat < 20 ∧ st 171 (2 * j + 1).toNat < st 172 (st 170 13 : Int).toNat) from fun z => absurd z (by decide)), (show ((0 : Int) = 0 → ¬ HFok (fun j : Int => st 171 j.toNat) (st 170 1) (st 172 (st 170 13 : Int).toNat)) from fun _ z => by obtain ⟨z1, z2, z3, -⟩ := z; omega)⟩ rfl
    · refine ⟨fun h39 => ?_, fun h39 => ?_⟩
      · exact l1 _ 0 0 ⟨(show 0 ≤ (0 : Int) ∧ (0 : Int) % 2 = 0 ∧ (0 : Int) ≤ st 170 1 + 1 ∧ ((0 : Int) = 0 ∨ (0 : Int) = 1) ∧ ((0 : Int) = 1 → 2 ≤ st 170 1 ∧ st 170 1 ≤ 40 ∧ st 170 1 % 2 = 0) from by omega), (show ((0 : Int) = 1 → ∀ j : Int, 0 ≤ j → 2 * j < (0 : Int) → st 171 (2 * j).toNat < 20 ∧ st 171 (2 * j + 1).toNat < st 172 (st 170 13 : Int).toNat) from fun z => absurd z (by decide)), (show ((0 : Int) = 0 → ¬ HFok (fun j : Int => st 171 j.toNat) (st 170 1) (st 172 (st 170 13 : Int).toNat)) from fun _ z => by obtain ⟨z1, z2, z3, -⟩ := z; omega)⟩ rfl
      · exact l1 _ 0 1 ⟨(show 0 ≤ (0 : Int) ∧ (0 : Int) % 2 = 0 ∧ (0 : Int) ≤ st 170 1 + 1 ∧ ((1 : Int) = 0 ∨ (1 : Int) = 1) ∧ ((1 : Int) = 1 → 2 ≤ st 170 1 ∧ st 170 1 ≤ 40 ∧ st 170 1 % 2 = 0) from by omega), (show ((1 : Int) = 1 → ∀ j : Int, 0 ≤ j → 2 * j < (0 : Int) → st 171 (2 * j).toNat < 20 ∧ st 171 (2 * j + 1).toNat < st 172 (st 170 13 : Int).toNat) from fun _ j z1 z2 => by omega), (show ((1 : Int) = 0 → ¬ HFok (fun j : Int => st 171 j.toNat) (st 170 1) (st 172 (st 170 13 : Int).toNat)) from fun z => absurd z (by decide))⟩ rfl
theorem k_vHalf_m (hTb : aTb zSh rx_tb cl) {D : Nat} (hD : 2 ≤ D) : ∀ as st (Q Q' : zQ), (∀ r st', Q r st' → Q' r st') → k_vHalf 164 as st Q → cl D 164 as st Q' := by
  intro as st Q Q' hQ h
  unfold k_vHalf at h
  split at h
  · obtain ⟨rfl, h⟩ := h
    exact c_vHalf hTb hD (ct_vHalf_m hQ h)
  · exact h.elim
end XYB
