/-! more of the reference's frames -/
theorem PF_nb {st : zS} {q : Int} (h : PF st 1 q) : ¬ st 194 (st 170 42 - 1).toNat = 1 := (PF_f h).2.2.2.2.2.2.2.2.1 rfl
theorem rkf_c {o : Int} (h : rkf o < 4) : ¬ (38 ≤ o ∧ o ≤ 40) := by
  intro q
  rw [rkf_4 q] at h
  omega
theorem PF_x4 {st : zS} {q : Int} (h : PF st 1 q) (hp : st 193 (st 170 42 - 1).toNat = 0) (hx : st 170 45 = st 196 (st 170 42 - 1).toNat ∨ rkf (st 197 (st 170 45 - 1).toNat) < 5) : st 170 45 = st 196 (st 170 42 - 1).toNat ∨ rkf (st 197 (st 170 45 - 1).toNat) < 4 := by
  have F := PF_f h
  rcases hx with e | e
  · exact Or.inl e
  · by_cases z : st 170 45 = st 196 (st 170 42 - 1).toNat
    · exact Or.inl z
    · have := (h.2.2 (st 170 42 - 1).toNat (st 170 45 - 1).toNat (by omega) (by omega) (by omega) (fun q => by omega)).1 hp
      refine Or.inr ?_
      unfold rkf at e ⊢
      repeat' split at e
      all_goals (repeat' split)
      all_goals omega
theorem PF_e {st : zS} {q : Int} (h : PF st 1 q) (hx : st 170 45 = st 196 (st 170 42 - 1).toNat ∨ rkf (st 197 (st 170 45 - 1).toNat) < 1) : st 170 45 = st 196 (st 170 42 - 1).toNat := by
  rcases hx with e | e
  · exact e
  · have := rkf_b (st 197 (st 170 45 - 1).toNat)
    omega
theorem up1_t {f : Nat → Int} {i k : Nat} {z : Int} (h : k = i) : up1 f i z k = z := by rw [h]; exact up1_e f i z
theorem PI_leave2 {inn cds opM dp opn q q' f0 : Int} {ops bs fr pr bg cd : Nat → Int} (h : PI inn cds opM dp opn 1 0 q ops bs fr pr bg cd f0) (he : opM = bs (dp - 1).toNat) (hd : 2 ≤ dp) (h3 : q ≤ q' ∧ q' ≤ 1600) : PI inn cds opM (dp - 1) (opn - 1) 1 (pa (fr (dp - 1 - 1).toNat) (pr (dp - 1 - 1).toNat)) q' ops bs fr pr bg cd f0 ∧ prok (fr (dp - 1 - 1).toNat) (pr (dp - 1 - 1).toNat) := by
  rw [show dp - 1 - 1 = dp - 2 by omega]
  exact PI_leave h he hd h3
/-- an operator is held back, the top frame's marks told anew -/
theorem PH_hold2 {st : zS} {o q : Int} {ph' : Nat → Int} (h : PF st 1 q) (hp : ∀ g : Nat, (g : Int) + 1 < st 170 42 → ph' g = st 193 g) (hx : st 170 45 = st 196 (st 170 42 - 1).toNat ∨ rkf (st 197 (st 170 45 - 1).toNat) < rkf o) (ho : ¬ (38 ≤ o ∧ o ≤ 40) ∨ ¬ ph' (st 170 42 - 1).toNat = 0) (hc : ph' (st 170 42 - 1).toNat = 0 → st 193 (st 170 42 - 1).toNat = 0 ∨ rkf o ≤ 2) : PH (st 170 42) (st 170 45 + 1) (up1 (st 197) (st 170 45).toNat o) (st 196) ph' := by
  have F := PF_f h
  refine PH_hold h.2.2 (by omega) (by omega) (PF_b h).1 (PF_b h).2 hp (hx.imp_right Int.le_of_lt) (fun z => ⟨?_, fun i h1 h2 => ?_⟩)
  · rcases ho with e | e
    · exact e
    · exact absurd z e
  · rcases hc z with e | e
    · exact (h.2.2 (st 170 42 - 1).toNat i (by omega) h1 h2 (fun q => by omega)).1 e
    · have := PH_low h.2.2 (l := rkf o) (by omega) (by omega) hx (st 170 45 - 1 - (i : Int)).toNat i (by omega) h1
      exact rkf_c (by omega)
