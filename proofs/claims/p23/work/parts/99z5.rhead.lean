/-! printed by wip/pw/r/q5.py: a turn of the loop of reads -/
def rq_rOpR (s0 : zS) (R : Int → zS → Prop) (st : zS) : Prop := (st = s0)
def en_rOpR (s0 : zS) (R : Int → zS → Prop) (st : zS) (r : Int) (s1 : zS) : Prop := (R r s1)
def ct_rOpR (s0 : zS) (R : Int → zS → Prop) (st : zS) (Q : zQ) : Prop := rq_rOpR s0 R st ∧ (∀ (r : Int) (s1 : zS), en_rOpR s0 R st r s1 → Q (some (.inl r)) s1)
theorem ct_rOpR_m {s0 : zS} {R : Int → zS → Prop} {st : zS} {Q Q' : zQ} (hQ : ∀ r st', Q r st' → Q' r st') (h : ct_rOpR s0 R st Q) : ct_rOpR s0 R st Q' := ⟨h.1, fun x0 x1 x2 => hQ _ _ (h.2 x0 x1 x2)⟩
def k_rOpR (s0 : zS) (R : Int → zS → Prop) : zCall := fun _ as st Q => match as with
  | [.inr (.inr (.inl z_o))] => z_o = 170 ∧ ct_rOpR s0 R st Q
  | _ => False
def rq_rGoR (s0 : zS) (R : Int → zS → Prop) (st : zS) : Prop := (st = s0)
def en_rGoR (s0 : zS) (R : Int → zS → Prop) (st : zS) (r : Int) (s1 : zS) : Prop := (R r s1)
def ct_rGoR (s0 : zS) (R : Int → zS → Prop) (st : zS) (Q : zQ) : Prop := rq_rGoR s0 R st ∧ (∀ (r : Int) (s1 : zS), en_rGoR s0 R st r s1 → Q (some (.inl r)) s1)
theorem ct_rGoR_m {s0 : zS} {R : Int → zS → Prop} {st : zS} {Q Q' : zQ} (hQ : ∀ r st', Q r st' → Q' r st') (h : ct_rGoR s0 R st Q) : ct_rGoR s0 R st Q' := ⟨h.1, fun x0 x1 x2 => hQ _ _ (h.2 x0 x1 x2)⟩
def k_rGoR (s0 : zS) (R : Int → zS → Prop) : zCall := fun _ as st Q => match as with
  | [.inr (.inr (.inl z_o))] => z_o = 170 ∧ ct_rGoR s0 R st Q
  | _ => False
section Rz5
variable {cl : Nat → zCall}
theorem k_rOpR_h {s0 : zS} {R : Int → zS → Prop} {D : Nat} (hop : ∀ Q : zQ, (∀ (r : Int) (s1 : zS), R r s1 → Q (some (.inl r)) s1) → cl D 196 [.inr (.inr (.inl 170))] s0 Q) : ∀ as st (Q Q' : zQ), (∀ r st', Q r st' → Q' r st') → k_rOpR s0 R 196 as st Q → cl D 196 as st Q' := by
  intro as st Q Q' hQ h
  unfold k_rOpR at h
  split at h
  · obtain ⟨rfl, h⟩ := h
    obtain ⟨h1, h2⟩ := h
    have h1 : _ = s0 := h1
    subst h1
    exact hop Q' (fun r s1 z => hQ _ _ (h2 r s1 z))
  · exact h.elim
theorem k_rGoR_h {s0 : zS} {R : Int → zS → Prop} {D : Nat} (hop : ∀ Q : zQ, (∀ (r : Int) (s1 : zS), R r s1 → Q (some (.inl r)) s1) → cl D 197 [.inr (.inr (.inl 170))] s0 Q) : ∀ as st (Q Q' : zQ), (∀ r st', Q r st' → Q' r st') → k_rGoR s0 R 197 as st Q → cl D 197 as st Q' := by
  intro as st Q Q' hQ h
  unfold k_rGoR at h
  split at h
  · obtain ⟨rfl, h⟩ := h
    obtain ⟨h1, h2⟩ := h
    have h1 : _ = s0 := h1
    subst h1
    exact hop Q' (fun r s1 z => hQ _ _ (h2 r s1 z))
  · exact h.elim
theorem hd_0 {d : Nat} {Q : zQ} {K : zG} (hcl : zcl zSh rx_m198 3 0 (cl d) Q K) {s : zS} {x : Int} (hQ : Q none s) : K (rx_find rx_m198 43) [(2, .inl (0)), (0, .inr (.inr (.inl 170))), (1, .inl x)] [] (s) := by
  have hcm : zmo zno (cl d) := zno_m
  refine yr1_ok (Rt := Q) (wc := zno) (stp := []) hcm hcl [] 69 ?_
  show (((0 : Int) = (0 : Int) → Q none s) ∧ (¬ ((0 : Int) = (0 : Int)) → _))
  refine ⟨fun h1 => ?_, fun h1 => absurd (by decide) h1⟩
  exact hQ
theorem hd_op {d : Nat} {Q : zQ} {K : zG} (hcl : zcl zSh rx_m198 3 0 (cl d) Q K) {s : zS} {x : Int} {R : Int → zS → Prop} (hop : ∀ Q : zQ, (∀ (r : Int) (s1 : zS), R r s1 → Q (some (.inl r)) s1) → cl d 196 [.inr (.inr (.inl 170))] s Q) (h46 : s 170 46 = 0) (hR : ∀ (r : Int) (s1 : zS), R r s1 → (r = 0 ∨ r = 1) ∧ (s1 170 8 = 0 → K (rx_find rx_m198 43) [(2, .inl (1)), (0, .inr (.inr (.inl 170))), (1, .inl x)] [] (zup s1 170 46 r)) ∧ (¬ s1 170 8 = 0 → Q none (zup s1 170 46 r))) : K (rx_find rx_m198 43) [(2, .inl (1)), (0, .inr (.inr (.inl 170))), (1, .inl x)] [] (s) := by
  have hcm : zmo (wcL [(196, k_rOpR s R)]) (cl d) := wcL_m (wm_cons (k_rOpR_h hop) wm_nil)
  refine yr1_ok (Rt := Q) (wc := (wcL [(196, k_rOpR s R)])) (stp := [43]) hcm hcl [] 69 ?_
  show (((1 : Int) = (0 : Int) → _) ∧ (¬ ((1 : Int) = (0 : Int)) → ((¬ s 170 46 = (0 : Int) → _) ∧ (¬ (¬ s 170 46 = (0 : Int)) → (170 = 170 ∧ (rq_rOpR s R  s ∧ (∀ (r1 : Int) (s1 : zS), en_rOpR s R  s r1 s1 → ((r1 = (0 : Int) ∨ r1 = (1 : Int)) ∧ (((1 : Int) = (0 : Int) → _) ∧ (¬ ((1 : Int) = (0 : Int)) → ((¬ s1 170 8 = (0 : Int) → K (rx_find rx_m198 43) [(2, .inl 0), (0, .inr (.inr (.inl 170))), (1, .inl x)] [] (zup s1 170 46 r1)) ∧ (¬ (¬ s1 170 8 = (0 : Int)) → K (rx_find rx_m198 43) [(2, .inl 1), (0, .inr (.inr (.inl 170))), (1, .inl x)] [] (zup s1 170 46 r1)))))))))))))
  refine ⟨fun h2 => absurd h2 (by decide), fun h2 => ?_⟩
  refine ⟨fun h3 => (by exfalso; omega), fun h3 => ?_⟩
  refine ⟨rfl, (show s = s from rfl), fun r1 s1 q1 => ?_⟩
  have x1 := q1
  change R r1 s1 at x1
  refine ⟨(hR _ _ q1).1, ?_⟩
  refine ⟨fun h4 => absurd h4 (by decide), fun h4 => ?_⟩
  refine ⟨fun h5 => ?_, fun h5 => ?_⟩
  ·     exact hd_0 hcl ((hR _ _ q1).2.2 (by omega))
  ·     exact (hR _ _ q1).2.1 (by omega)
theorem hd_go {d : Nat} {Q : zQ} {K : zG} (hcl : zcl zSh rx_m198 3 0 (cl d) Q K) {s : zS} {x : Int} {R : Int → zS → Prop} (hop : ∀ Q : zQ, (∀ (r : Int) (s1 : zS), R r s1 → Q (some (.inl r)) s1) → cl d 197 [.inr (.inr (.inl 170))] s Q) (h46 : s 170 46 = 1) (hR : ∀ (r : Int) (s1 : zS), R r s1 → (r = 0 ∨ r = 1) ∧ (r = 1 → s1 170 8 = 0 → K (rx_find rx_m198 43) [(2, .inl (1)), (0, .inr (.inr (.inl 170))), (1, .inl x)] [] (s1)) ∧ (r = 0 ∨ ¬ s1 170 8 = 0 → Q none s1)) : K (rx_find rx_m198 43) [(2, .inl (1)), (0, .inr (.inr (.inl 170))), (1, .inl x)] [] (s) := by
  have hcm : zmo (wcL [(197, k_rGoR s R)]) (cl d) := wcL_m (wm_cons (k_rGoR_h hop) wm_nil)
  refine yr1_ok (Rt := Q) (wc := (wcL [(197, k_rGoR s R)])) (stp := [43]) hcm hcl [] 69 ?_
  show (((1 : Int) = (0 : Int) → _) ∧ (¬ ((1 : Int) = (0 : Int)) → ((¬ s 170 46 = (0 : Int) → (170 = 170 ∧ (rq_rGoR s R  s ∧ (∀ (r1 : Int) (s1 : zS), en_rGoR s R  s r1 s1 → ((r1 = (0 : Int) → K (rx_find rx_m198 43) [(2, .inl 0), (0, .inr (.inr (.inl 170))), (1, .inl x)] [] s1) ∧ (¬ (r1 = (0 : Int)) → ((¬ s1 170 8 = (0 : Int) → K (rx_find rx_m198 43) [(2, .inl 0), (0, .inr (.inr (.inl 170))), (1, .inl x)] [] s1) ∧ (¬ (¬ s1 170 8 = (0 : Int)) → K (rx_find rx_m198 43) [(2, .inl 1), (0, .inr (.inr (.inl 170))), (1, .inl x)] [] s1)))))))) ∧ (¬ (¬ s 170 46 = (0 : Int)) → _))))
  refine ⟨fun h2 => absurd h2 (by decide), fun h2 => ?_⟩
  refine ⟨fun h3 => ?_, fun h3 => (by exfalso; omega)⟩
  refine ⟨rfl, (show s = s from rfl), fun r1 s1 q1 => ?_⟩
  have x1 := q1
  change R r1 s1 at x1
  refine ⟨fun h4 => ?_, fun h4 => ?_⟩
  ·     exact hd_0 hcl ((hR _ _ q1).2.2 (by omega))
  · refine ⟨fun h5 => ?_, fun h5 => ?_⟩
    ·       exact hd_0 hcl ((hR _ _ q1).2.2 (by omega))
    ·       exact (hR _ _ q1).2.1 (by have zr := (hR _ _ q1).1; omega) (by omega)
end Rz5
