/-! printed by wip/p32/lib5.py: what comes behind an operand -/
def m_goesOn : aM := ([(170, 3), (170, 4), (170, 5), (170, 6), (170, 7), (170, 8), (170, 9), (170, 12), (170, 34), (170, 42), (170, 43), (170, 45), (170, 46)], [188, 189, 192, 193, 194, 195, 196, 197])
def rq_goesOn  (st : zS) : Prop := gInv zgt st ∧ (st 170 4 ≤ st 170 5 ∧ st 170 5 ≤ st 170 2 ∧ (st 170 3 = 0 ∧ st 170 4 = st 170 2 ∨ 1 ≤ st 170 3 ∧ st 170 4 < st 170 5)) ∧ (PF st 1 (st 170 4)) ∧ (st 170 8 = 0 ∧ st 170 46 = 1)
def en_goesOn  (st : zS) (r : Int) (s1 : zS) : Prop := gInv zgt s1 ∧ aFr m_goesOn st s1 ∧ (s1 170 4 ≤ s1 170 5 ∧ s1 170 5 ≤ s1 170 2 ∧ (s1 170 3 = 0 ∧ s1 170 4 = s1 170 2 ∨ 1 ≤ s1 170 3 ∧ s1 170 4 < s1 170 5) ∧ st 170 4 ≤ s1 170 4) ∧ ((r = 0 ∨ r = 1)) ∧ (s1 170 8 = 0 → (r = 1 → st 170 5 ≤ s1 170 4 ∧ 1 ≤ st 170 3 ∧ PF s1 (s1 170 46) (s1 170 4)) ∧ (r = 0 → PF s1 1 (s1 170 4))) ∧ (∀ i : Nat, (i : Int) < 1600 * st 170 35 + st 170 34 ∨ 1600 * st 170 35 + 1600 ≤ (i : Int) → s1 188 i = st 188 i) ∧ (st 170 34 ≤ s1 170 34)
def ct_goesOn  (st : zS) (Q : zQ) : Prop := rq_goesOn  st ∧ (∀ (r : Int) (s1 : zS), en_goesOn  st r s1 → Q (some (.inl r)) s1)
theorem ct_goesOn_m {st : zS} {Q Q' : zQ} (hQ : ∀ r st', Q r st' → Q' r st') (h : ct_goesOn  st Q) : ct_goesOn  st Q' := ⟨h.1, fun x0 x1 x2 => hQ _ _ (h.2 x0 x1 x2)⟩
def k_goesOn : zCall := fun _ as st Q => match as with
  | [.inr (.inr (.inl z_o))] => z_o = 170 ∧ ct_goesOn  st Q
  | _ => False
theorem k_goesOn_mon : zmon k_goesOn := by
  intro nu as st Q Q' hQ h
  unfold k_goesOn at h ⊢
  split at h
  · exact ⟨h.1, ct_goesOn_m hQ h.2⟩
  · exact h.elim
section R6b
variable {cl : Nat → zCall}
def cx_goesOn (cl : Nat → zCall) (d : Nat)  (st : zS) (Q : zQ) (K : zG) : Prop := zcl zSh rx_m197 5 2 (cl d) Q K ∧ zsl K ∧ zmo (wcL [(181, k_lex), (195, k_isTest), (183, k_isWord), (182, k_isSign), (178, k_blame), (192, k_holdsBack), (149, k_ahead), (189, k_add), (191, k_joins)]) (cl d) ∧ rq_goesOn  st ∧ (∀ (r : Int) (s1 : zS), en_goesOn  st r s1 → Q (some (.inl r)) s1)
end R6b
