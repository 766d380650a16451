/-! printed by wip/pw/r/qb0.py: two contracts in one: ahead, finishes -/
def m_jAhead : aM := ([(170, 3), (170, 4), (170, 5), (170, 6), (170, 7), (170, 12)], [])
def rq_jAhead  (st : zS) : Prop := gInv zgt st ∧ (st 170 5 ≤ st 170 2) ∧ (st 170 5 ≤ st 170 2)
def en_jAhead  (st : zS) (s1 : zS) : Prop := gInv zgt s1 ∧ aFr m_jAhead st s1 ∧ (s1 170 4 ≤ s1 170 5 ∧ s1 170 5 ≤ s1 170 2 ∧ (s1 170 3 = 0 ∧ s1 170 4 = s1 170 2 ∨ 1 ≤ s1 170 3 ∧ s1 170 4 < s1 170 5) ∧ st 170 5 ≤ s1 170 4) ∧ (∃ k v s e : Int, TK (fun k => st 171 k.toNat) (st 170 2) (st 170 5) k v s e ∧ RW (s1 170 3) (s1 170 6) (s1 170 7) (s1 170 4) (s1 170 5) (s1 170 12) k v s e)
def ct_jAhead  (st : zS) (Q : zQ) : Prop := rq_jAhead  st ∧ (∀ (s1 : zS), en_jAhead  st s1 → Q none s1)
theorem ct_jAhead_m {st : zS} {Q Q' : zQ} (hQ : ∀ r st', Q r st' → Q' r st') (h : ct_jAhead  st Q) : ct_jAhead  st Q' := ⟨h.1, fun x0 x1 => hQ _ _ (h.2 x0 x1)⟩
def k_jAhead : zCall := fun _ as st Q => match as with
  | [.inr (.inr (.inl z_o))] => z_o = 170 ∧ ct_jAhead  st Q
  | _ => False
def m_jFin : aM := ([(170, 3), (170, 4), (170, 5), (170, 6), (170, 7), (170, 8), (170, 9), (170, 12)], [])
def rq_jFin (t : Int → Int) (n : Int) (k : Int) (st : zS) : Prop := gInv zgt st ∧ (st 170 4 ≤ st 170 5 ∧ st 170 5 ≤ st 170 2 ∧ (st 170 3 = 0 ∧ st 170 4 = st 170 2 ∨ 1 ≤ st 170 3 ∧ st 170 4 < st 170 5)) ∧ (st 170 8 = 0 → RDr st t n)
def en_jFin (t : Int → Int) (n : Int) (k : Int) (st : zS) (s1 : zS) : Prop := gInv zgt s1 ∧ aFr m_jFin st s1 ∧ (s1 170 4 ≤ s1 170 5 ∧ s1 170 5 ≤ s1 170 2 ∧ (s1 170 3 = 0 ∧ s1 170 4 = s1 170 2 ∨ 1 ≤ s1 170 3 ∧ s1 170 4 < s1 170 5) ∧ st 170 4 ≤ s1 170 4 ∧ (s1 170 8 = 0 → st 170 8 = 0 ∧ st 170 5 ≤ s1 170 4 ∧ 1 ≤ st 170 3)) ∧ ((s1 170 8 = 0 ∧ st 170 8 = 0 ∧ tk t n (st 170 4) 3 59 (s1 170 4) ∧ RDr s1 t n ∧ (k = 80 → ∃ v e : Int, tk t n (s1 170 4) 0 v e)) ∨ (0 < s1 170 8 ∧ st 170 8 = 0 ∧ ¬ ∃ q : Int, tk t n (st 170 4) 3 59 q ∧ (k = 80 → ∃ v e : Int, tk t n q 0 v e)) ∨ (0 < s1 170 8 ∧ 0 < st 170 8))
def ct_jFin (t : Int → Int) (n : Int) (k : Int) (st : zS) (Q : zQ) : Prop := rq_jFin t n k st ∧ (∀ (s1 : zS), en_jFin t n k st s1 → Q none s1)
theorem ct_jFin_m {t : Int → Int} {n : Int} {k : Int} {st : zS} {Q Q' : zQ} (hQ : ∀ r st', Q r st' → Q' r st') (h : ct_jFin t n k st Q) : ct_jFin t n k st Q' := ⟨h.1, fun x0 x1 => hQ _ _ (h.2 x0 x1)⟩
def k_jFin (t : Int → Int) (n : Int) : zCall := fun _ as st Q => match as with
  | [.inr (.inr (.inl z_o)), .inl k] => z_o = 170 ∧ ct_jFin t n k st Q
  | _ => False
section RzB
variable {cl : Nat → zCall}
theorem c_jAhead (hTb : aTb zSh rx_tb cl) {D : Nat} (hD : 2 ≤ D) {st : zS} {Q : zQ} (h : ct_jAhead  st Q) : cl D 149 [.inr (.inr (.inl 170))] st Q := by
  obtain ⟨⟨hG, le, lex⟩, hQ⟩ := h
  refine cl_join (Q1 := fun r s => r = none ∧ en_ahead  st s) (Q2 := fun r s => r = none ∧ en_rAhead  st s) (fun cl' h' => c_ahead h' (by omega) ⟨⟨hG, le⟩, fun s1 z => ⟨rfl, z⟩⟩) (fun cl' h' => c_rAhead h' (by omega) ⟨⟨hG, lex⟩, fun s1 z => ⟨rfl, z⟩⟩) hTb (fun r s z1 z2 => ?_)
  obtain ⟨rfl, a0, a1, a2⟩ := z1
  obtain ⟨-, b0, b1, b2⟩ := z2
  exact hQ s ⟨a0, a1, a2, b2⟩
theorem k_jAhead_m (hTb : aTb zSh rx_tb cl) {D : Nat} (hD : 2 ≤ D) : ∀ as st (Q Q' : zQ), (∀ r st', Q r st' → Q' r st') → k_jAhead 149 as st Q → cl D 149 as st Q' := by
  intro as st Q Q' hQ h
  unfold k_jAhead at h
  split at h
  · obtain ⟨rfl, h⟩ := h
    exact c_jAhead hTb hD (ct_jAhead_m hQ h)
  · exact h.elim
theorem c_jFin (hTb : aTb zSh rx_tb cl) {t : Int → Int} {n : Int} {D : Nat} (hD : 4 ≤ D) {k : Int} {st : zS} {Q : zQ} (h : ct_jFin t n k st Q) : cl D 211 [.inr (.inr (.inl 170)), .inl k] st Q := by
  obtain ⟨⟨hG, lx, rd⟩, hQ⟩ := h
  refine cl_join (Q1 := fun r s => r = none ∧ en_finishes k st s) (Q2 := fun r s => r = none ∧ en_rFin t n k st s) (fun cl' h' => c_finishes h' (by omega) ⟨⟨hG, lx⟩, fun s1 z => ⟨rfl, z⟩⟩) (fun cl' h' => c_rFin h' (by omega) ⟨⟨hG, rd⟩, fun s1 z => ⟨rfl, z⟩⟩) hTb (fun r s z1 z2 => ?_)
  obtain ⟨rfl, a0, a1, a2⟩ := z1
  obtain ⟨-, b0, b1, b2⟩ := z2
  exact hQ s ⟨a0, a1, a2, b2⟩
theorem k_jFin_m (hTb : aTb zSh rx_tb cl) {t : Int → Int} {n : Int} {D : Nat} (hD : 4 ≤ D) : ∀ as st (Q Q' : zQ), (∀ r st', Q r st' → Q' r st') → (k_jFin t n) 211 as st Q → cl D 211 as st Q' := by
  intro as st Q Q' hQ h
  unfold k_jFin at h
  split at h
  · obtain ⟨rfl, h⟩ := h
    exact c_jFin hTb hD (ct_jFin_m hQ h)
  · exact h.elim
end RzB
