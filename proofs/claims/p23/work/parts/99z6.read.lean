/-! printed by wip/pw/r/q6.py: reads keeps the machine's rules -/
def KHr (K : zG) (x : Int) (st0 : zS) (t : Int → Int) (n : Int) : mKH := fun fs op o c p => ∀ s : zS, gInv zgt s → aFr m_reads st0 s → Z9 st0 s → mcP t n s fs op o c p → K (rx_find rx_m198 43) [(2, .inl (1)), (0, .inr (.inr (.inl 170))), (1, .inl x)] [] s
def KFr (Q : zQ) (st0 : zS) : Prop := ∀ s : zS, gInv zgt s → aFr m_reads st0 s → Z9 st0 s → 0 < s 170 8 → Q none s
def KEr (Q : zQ) (st0 : zS) (t : Int → Int) (n : Int) : List Int → Int → Prop := fun c p => (∀ s : zS, gInv zgt s → aFr m_reads st0 s → Z9 st0 s → s 170 8 = 0 → s 170 4 = p → RDr s t n → CDr (s 170 35) (s 170 34) (s 188) (s 189) c → Q none s) ∧ ((∃ v e : Int, tk t n p 5 v e) → KFr Q st0)
theorem mcP_46 {t : Int → Int} {n : Int} {s : zS} {fs : List mFr} {op o p r : Int} {c : List Int} (h : mcP t n s fs op o c p) : mcP t n (zup s 170 46 r) fs r o c p :=
  ⟨h.1, zup_eq s 170 46 r, h.2.2.1, h.2.2.2.1, (show RDr (zup s 170 46 r) t n from h.2.2.2.2.1), (show mcQ (zup s 170 46 r) fs c from h.2.2.2.2.2.1), h.2.2.2.2.2.2⟩
section Rz6
variable {cl : Nat → zCall} {d : Nat} {Q : zQ} {K : zG} {x : Int} {st0 : zS} {t : Int → Int} {n : Int} {cv : Prop} {KE : List Int → Int → Prop}
theorem kr_s {s1 : zS} {m : aM} {s : zS} {fs : List mFr} {op o p r : Int} {c : List Int} (hH : KHr K x st0 t n fs r o c p) (hA : aFr m_reads st0 s) (hY : Z9 st0 s) (hm : asub m m_reads = true) (hr : r = 0 ∨ r = 1) (g : gInv zgt s1) (a : aFr m s s1) (yy : Z9 s s1) (z : mcP t n s1 fs op o c p) : (r = 0 ∨ r = 1) ∧ (s1 170 8 = 0 → K (rx_find rx_m198 43) [(2, .inl (1)), (0, .inr (.inr (.inl 170))), (1, .inl x)] [] (zup s1 170 46 r)) ∧ (¬ s1 170 8 = 0 → Q none (zup s1 170 46 r)) :=
  ⟨hr, fun _ => hH _ (gInv_up g (p_operand (by omega))) (fr_f (fr_tr hA a hm) rfl) (Z9_up (Z9_tr hY (hA 170 35 rfl rfl) yy) (by decide)) (mcP_46 z), fun q => absurd z.1 q⟩
theorem kr_f {s1 : zS} {m : aM} {s : zS} {r : Int} (hF : KFr Q st0) (hA : aFr m_reads st0 s) (hY : Z9 st0 s) (hm : asub m m_reads = true) (g : gInv zgt s1) (a : aFr m s s1) (yy : Z9 s s1) (z : 0 < s1 170 8 ∧ (r = 0 ∨ r = 1)) : (r = 0 ∨ r = 1) ∧ (s1 170 8 = 0 → K (rx_find rx_m198 43) [(2, .inl (1)), (0, .inr (.inr (.inl 170))), (1, .inl x)] [] (zup s1 170 46 r)) ∧ (¬ s1 170 8 = 0 → Q none (zup s1 170 46 r)) :=
  ⟨z.2, fun q => absurd z.1 (by omega), fun _ => hF _ (gInv_up g (p_operand (by omega))) (fr_f (fr_tr hA a hm) rfl) (Z9_up (Z9_tr hY (hA 170 35 rfl rfl) yy) (by decide)) (show 0 < s1 170 8 from z.1)⟩
theorem kg_s {s1 : zS} {m : aM} {s : zS} {fs : List mFr} {op o p r : Int} {c : List Int} (hH : KHr K x st0 t n fs op o c p) (hA : aFr m_reads st0 s) (hY : Z9 st0 s) (hm : asub m m_reads = true) (g : gInv zgt s1) (a : aFr m s s1) (yy : Z9 s s1) (z : r = 1 ∧ mcP t n s1 fs op o c p) : (r = 0 ∨ r = 1) ∧ (r = 1 → s1 170 8 = 0 → K (rx_find rx_m198 43) [(2, .inl (1)), (0, .inr (.inr (.inl 170))), (1, .inl x)] [] s1) ∧ (r = 0 ∨ ¬ s1 170 8 = 0 → Q none s1) :=
  ⟨Or.inr z.1, fun _ _ => hH _ g (fr_tr hA a hm) (Z9_tr hY (hA 170 35 rfl rfl) yy) z.2, fun q => by rcases q with q | q; exact absurd z.1 (by omega); exact absurd z.2.1 q⟩
theorem kg_f {s1 : zS} {m : aM} {s : zS} {r : Int} (hF : KFr Q st0) (hA : aFr m_reads st0 s) (hY : Z9 st0 s) (hm : asub m m_reads = true) (g : gInv zgt s1) (a : aFr m s s1) (yy : Z9 s s1) (z : 0 < s1 170 8 ∧ (r = 0 ∨ r = 1)) : (r = 0 ∨ r = 1) ∧ (r = 1 → s1 170 8 = 0 → K (rx_find rx_m198 43) [(2, .inl (1)), (0, .inr (.inr (.inl 170))), (1, .inl x)] [] s1) ∧ (r = 0 ∨ ¬ s1 170 8 = 0 → Q none s1) :=
  ⟨z.2, fun _ q => absurd z.1 (by omega), fun _ => hF _ g (fr_tr hA a hm) (Z9_tr hY (hA 170 35 rfl rfl) yy) z.1⟩
theorem kr_O1 (hTb : aTb zSh rx_tb cl) (hd : 4 ≤ d) (hcl : zcl zSh rx_m198 3 0 (cl d) Q K) : KC_O1 t n cv (KHr K x st0 t n) (KFr Q st0) (KEr Q st0 t n) := by
  intro k ph bg pr o p e w c fs a1 a2 a3 a4 a5 hH s hG hA hY hm
  exact hd_op hcl (R := en_rOp1 t n k ph bg pr o p e w c fs s) (fun Q2 hq => c_rOp1 hTb (by omega) ⟨⟨hG, hm, ⟨a1, a2, a3, a4, a5⟩⟩, hq⟩) hm.2.1 (fun r s1 z => by have z3 := z.2.2.2.1; exact kr_s (by rw [z3]; exact hH) hA hY rfl (by omega) z.1 z.2.1 z.2.2.1 z.2.2.2.2)
theorem kr_O1f (hTb : aTb zSh rx_tb cl) (hd : 4 ≤ d) (hcl : zcl zSh rx_m198 3 0 (cl d) Q K) : KC_O1f t n cv (KHr K x st0 t n) (KFr Q st0) (KEr Q st0 t n) := by
  intro k ph bg pr o p e w c fs a1 a2 a3 a4 hF s hG hA hY hm
  exact hd_op hcl (R := en_rOpF1 t n k ph bg pr o p e w c fs s) (fun Q2 hq => c_rOpF1 hTb (by omega) ⟨⟨hG, hm, ⟨a1, a2, a3, a4⟩⟩, hq⟩) hm.2.1 (fun r s1 z => kr_f hF hA hY rfl z.1 z.2.1 z.2.2.1 z.2.2.2)
theorem kr_O2 (hTb : aTb zSh rx_tb cl) (hd : 4 ≤ d) (hcl : zcl zSh rx_m198 3 0 (cl d) Q K) : KC_O2 t n cv (KHr K x st0 t n) (KFr Q st0) (KEr Q st0 t n) := by
  intro k ph bg pr o p e w c fs a1 a2 a3 a4 a5 hH s hG hA hY hm
  exact hd_op hcl (R := en_rOp2 t n k ph bg pr o p e w c fs s) (fun Q2 hq => c_rOp2 hTb (by omega) ⟨⟨hG, hm, ⟨a1, a2, a3, a4, a5⟩⟩, hq⟩) hm.2.1 (fun r s1 z => by obtain ⟨z1, z2, zy, z3, rr, z4⟩ := z; exact kr_s (by rw [z3]; exact hH rr) hA hY rfl (by omega) z1 z2 zy z4)
theorem kr_O2f (hTb : aTb zSh rx_tb cl) (hd : 4 ≤ d) (hcl : zcl zSh rx_m198 3 0 (cl d) Q K) : KC_O2f t n cv (KHr K x st0 t n) (KFr Q st0) (KEr Q st0 t n) := by
  intro k ph bg pr o p e w c fs a1 a2 a3 a4 hF s hG hA hY hm
  exact hd_op hcl (R := en_rOpF2 t n k ph bg pr o p e w c fs s) (fun Q2 hq => c_rOpF2 hTb (by omega) ⟨⟨hG, hm, ⟨a1, a2, a3, a4⟩⟩, hq⟩) hm.2.1 (fun r s1 z => kr_f hF hA hY rfl z.1 z.2.1 z.2.2.1 z.2.2.2)
theorem kr_O3 (hTb : aTb zSh rx_tb cl) (hd : 4 ≤ d) (hcl : zcl zSh rx_m198 3 0 (cl d) Q K) : KC_O3 t n cv (KHr K x st0 t n) (KFr Q st0) (KEr Q st0 t n) := by
  intro k ph bg pr o p e w c fs a1 a2 a3 hH s hG hA hY hm
  exact hd_op hcl (R := en_rOp3 t n k ph bg pr o p e w c fs s) (fun Q2 hq => c_rOp3 hTb (by omega) ⟨⟨hG, hm, ⟨a1, a2, a3⟩⟩, hq⟩) hm.2.1 (fun r s1 z => by have z3 := z.2.2.2.1; exact kr_s (by rw [z3]; exact hH) hA hY rfl (by omega) z.1 z.2.1 z.2.2.1 z.2.2.2.2)
theorem kr_O4 (hTb : aTb zSh rx_tb cl) (hd : 4 ≤ d) (hcl : zcl zSh rx_m198 3 0 (cl d) Q K) : KC_O4 t n cv (KHr K x st0 t n) (KFr Q st0) (KEr Q st0 t n) := by
  intro k ph bg pr o p e w c fs a3 a4 a5 hH s hG hA hY hm
  exact hd_op hcl (R := en_rOp4 t n k ph bg pr o p e w c fs s) (fun Q2 hq => c_rOp4 hTb (by omega) ⟨⟨hG, hm, ⟨a3, a4, a5⟩⟩, hq⟩) hm.2.1 (fun r s1 z => by obtain ⟨z1, z2, zy, z3, rr, z4⟩ := z; exact kr_s (by rw [z3]; exact hH rr) hA hY rfl (by omega) z1 z2 zy z4)
theorem kr_O4f (hTb : aTb zSh rx_tb cl) (hd : 4 ≤ d) (hcl : zcl zSh rx_m198 3 0 (cl d) Q K) : KC_O4f t n cv (KHr K x st0 t n) (KFr Q st0) (KEr Q st0 t n) := by
  intro k ph bg pr o p e w c fs a3 a4 hF s hG hA hY hm
  exact hd_op hcl (R := en_rOpF4 t n k ph bg pr o p e w c fs s) (fun Q2 hq => c_rOpF4 hTb (by omega) ⟨⟨hG, hm, ⟨a3, a4⟩⟩, hq⟩) hm.2.1 (fun r s1 z => kr_f hF hA hY rfl z.1 z.2.1 z.2.2.1 z.2.2.2)
theorem kr_O5 (hTb : aTb zSh rx_tb cl) (hd : 4 ≤ d) (hcl : zcl zSh rx_m198 3 0 (cl d) Q K) : KC_O5 t n cv (KHr K x st0 t n) (KFr Q st0) (KEr Q st0 t n) := by
  intro k ph bg pr o p v e e1 w c fs a1 a2 a3 a4 a5 hH s hG hA hY hm
  rcases a2 with a2 | a2 | a2
  · subst a2
    rw [show (if (7170414 : Int) = 26982 then (6 : Int) else 3) = 3 from by decide, show twoS 7170414 = 36 from by decide] at hH
    exact hd_op hcl (R := en_rOp536 t n k ph bg pr o p e w c fs e1 s) (fun Q2 hq => c_rOp536 hTb (by omega) ⟨⟨hG, hm, ⟨a1, a3, a4, a5⟩⟩, hq⟩) hm.2.1 (fun r s1 z => by have z3 := z.2.2.2.1; exact kr_s (by rw [z3]; exact hH) hA hY rfl (by omega) z.1 z.2.1 z.2.2.1 z.2.2.2.2)
  · subst a2
    rw [show (if (7168376 : Int) = 26982 then (6 : Int) else 3) = 3 from by decide, show twoS 7168376 = 37 from by decide] at hH
    exact hd_op hcl (R := en_rOp537 t n k ph bg pr o p e w c fs e1 s) (fun Q2 hq => c_rOp537 hTb (by omega) ⟨⟨hG, hm, ⟨a1, a3, a4, a5⟩⟩, hq⟩) hm.2.1 (fun r s1 z => by have z3 := z.2.2.2.1; exact kr_s (by rw [z3]; exact hH) hA hY rfl (by omega) z.1 z.2.1 z.2.2.1 z.2.2.2.2)
  · subst a2
    rw [show (if (26982 : Int) = 26982 then (6 : Int) else 3) = 6 from by decide, show twoS 26982 = 44 from by decide] at hH
    exact hd_op hcl (R := en_rOp544 t n k ph bg pr o p e w c fs e1 s) (fun Q2 hq => c_rOp544 hTb (by omega) ⟨⟨hG, hm, ⟨a1, a3, a4, a5⟩⟩, hq⟩) hm.2.1 (fun r s1 z => by have z3 := z.2.2.2.1; exact kr_s (by rw [z3]; exact hH) hA hY rfl (by omega) z.1 z.2.1 z.2.2.1 z.2.2.2.2)
theorem kr_O5f (hTb : aTb zSh rx_tb cl) (hd : 4 ≤ d) (hcl : zcl zSh rx_m198 3 0 (cl d) Q K) : KC_O5f t n cv (KHr K x st0 t n) (KFr Q st0) (KEr Q st0 t n) := by
  intro k ph bg pr o p v e kk u e1 w c fs a1 a2 a3 a4 hF s hG hA hY hm
  rcases a2 with a2 | a2 | a2
  · subst a2
    exact hd_op hcl (R := en_rOpF536 t n k ph bg pr o p e w c fs kk u e1 s) (fun Q2 hq => c_rOpF536 hTb (by omega) ⟨⟨hG, hm, ⟨a1, a3, a4⟩⟩, hq⟩) hm.2.1 (fun r s1 z => kr_f hF hA hY rfl z.1 z.2.1 z.2.2.1 z.2.2.2)
  · subst a2
    exact hd_op hcl (R := en_rOpF537 t n k ph bg pr o p e w c fs kk u e1 s) (fun Q2 hq => c_rOpF537 hTb (by omega) ⟨⟨hG, hm, ⟨a1, a3, a4⟩⟩, hq⟩) hm.2.1 (fun r s1 z => kr_f hF hA hY rfl z.1 z.2.1 z.2.2.1 z.2.2.2)
  · subst a2
    exact hd_op hcl (R := en_rOpF544 t n k ph bg pr o p e w c fs kk u e1 s) (fun Q2 hq => c_rOpF544 hTb (by omega) ⟨⟨hG, hm, ⟨a1, a3, a4⟩⟩, hq⟩) hm.2.1 (fun r s1 z => kr_f hF hA hY rfl z.1 z.2.1 z.2.2.1 z.2.2.2)
theorem kr_O6 (hTb : aTb zSh rx_tb cl) (hd : 4 ≤ d) (hcl : zcl zSh rx_m198 3 0 (cl d) Q K) : KC_O6 t n cv (KHr K x st0 t n) (KFr Q st0) (KEr Q st0 t n) := by
  intro k ph bg pr o p v e w c fs a1 hH s hG hA hY hm
  exact hd_op hcl (R := en_rOp6 t n k ph bg pr o p e w c fs v s) (fun Q2 hq => c_rOp6 hTb (by omega) ⟨⟨hG, hm, a1⟩, hq⟩) hm.2.1 (fun r s1 z => by have z3 := z.2.2.2.1; exact kr_s (by rw [z3]; exact hH) hA hY rfl (by omega) z.1 z.2.1 z.2.2.1 z.2.2.2.2)
theorem kr_O7 (hTb : aTb zSh rx_tb cl) (hd : 4 ≤ d) (hcl : zcl zSh rx_m198 3 0 (cl d) Q K) (hcv : cv ↔ st0 170 36 = 1) : KC_O7 t n cv (KHr K x st0 t n) (KFr Q st0) (KEr Q st0 t n) := by
  intro k ph bg pr o p v e w c fs a1 a2 hH s hG hA hY hm
  have h36 : s 170 36 = st0 170 36 := hA 170 36 rfl rfl
  have g36 := g_isClever hG
  rcases a2 with a2 | a2 | ⟨a3, a2 | a2 | a2 | a2⟩ | ⟨a3, a2 | a2 | a2⟩
  · subst a2
    rw [show figS 1751474548 = 1 from by decide] at hH
    exact hd_op hcl (R := en_rOp71 t n k ph bg pr o p e w c fs s) (fun Q2 hq => c_rOp71 hTb (by omega) ⟨⟨hG, hm, ⟨a1, trivial⟩⟩, hq⟩) hm.2.1 (fun r s1 z => by have z3 := z.2.2.2.1; exact kr_s (by rw [z3]; exact hH) hA hY rfl (by omega) z.1 z.2.1 z.2.2.1 z.2.2.2.2)
  · subst a2
    rw [show figS 2036687218 = 2 from by decide] at hH
    exact hd_op hcl (R := en_rOp72 t n k ph bg pr o p e w c fs s) (fun Q2 hq => c_rOp72 hTb (by omega) ⟨⟨hG, hm, ⟨a1, trivial⟩⟩, hq⟩) hm.2.1 (fun r s1 z => by have z3 := z.2.2.2.1; exact kr_s (by rw [z3]; exact hH) hA hY rfl (by omega) z.1 z.2.1 z.2.2.1 z.2.2.2.2)
  · subst a2
    rw [show figS 1953459300 = 3 from by decide] at hH
    exact hd_op hcl (R := en_rOp73 t n k ph bg pr o p e w c fs s) (fun Q2 hq => c_rOp73 hTb (by omega) ⟨⟨hG, hm, ⟨a1, by have z : ¬ st0 170 36 = 1 := fun q => a3 (hcv.2 q); omega⟩⟩, hq⟩) hm.2.1 (fun r s1 z => by have z3 := z.2.2.2.1; exact kr_s (by rw [z3]; exact hH) hA hY rfl (by omega) z.1 z.2.1 z.2.2.1 z.2.2.2.2)
  · subst a2
    rw [show figS 1886743660 = 4 from by decide] at hH
    exact hd_op hcl (R := en_rOp74 t n k ph bg pr o p e w c fs s) (fun Q2 hq => c_rOp74 hTb (by omega) ⟨⟨hG, hm, ⟨a1, by have z : ¬ st0 170 36 = 1 := fun q => a3 (hcv.2 q); omega⟩⟩, hq⟩) hm.2.1 (fun r s1 z => by have z3 := z.2.2.2.1; exact kr_s (by rw [z3]; exact hH) hA hY rfl (by omega) z.1 z.2.1 z.2.2.1 z.2.2.2.2)
  · subst a2
    rw [show figS 1937007984 = 5 from by decide] at hH
    exact hd_op hcl (R := en_rOp75 t n k ph bg pr o p e w c fs s) (fun Q2 hq => c_rOp75 hTb (by omega) ⟨⟨hG, hm, ⟨a1, by have z : ¬ st0 170 36 = 1 := fun q => a3 (hcv.2 q); omega⟩⟩, hq⟩) hm.2.1 (fun r s1 z => by have z3 := z.2.2.2.1; exact kr_s (by rw [z3]; exact hH) hA hY rfl (by omega) z.1 z.2.1 z.2.2.1 z.2.2.2.2)
  · subst a2
    rw [show figS 1650812270 = 6 from by decide] at hH
    exact hd_op hcl (R := en_rOp76 t n k ph bg pr o p e w c fs s) (fun Q2 hq => c_rOp76 hTb (by omega) ⟨⟨hG, hm, ⟨a1, by have z : ¬ st0 170 36 = 1 := fun q => a3 (hcv.2 q); omega⟩⟩, hq⟩) hm.2.1 (fun r s1 z => by have z3 := z.2.2.2.1; exact kr_s (by rw [z3]; exact hH) hA hY rfl (by omega) z.1 z.2.1 z.2.2.1 z.2.2.2.2)
  · subst a2
    rw [show figS 495874044019 = 7 from by decide] at hH
    exact hd_op hcl (R := en_rOp77 t n k ph bg pr o p e w c fs s) (fun Q2 hq => c_rOp77 hTb (by omega) ⟨⟨hG, hm, ⟨a1, by have z := hcv.1 a3; omega⟩⟩, hq⟩) hm.2.1 (fun r s1 z => by have z3 := z.2.2.2.1; exact kr_s (by rw [z3]; exact hH) hA hY rfl (by omega) z.1 z.2.1 z.2.2.1 z.2.2.2.2)
  · subst a2
    rw [show figS 1953066341 = 8 from by decide] at hH
    exact hd_op hcl (R := en_rOp78 t n k ph bg pr o p e w c fs s) (fun Q2 hq => c_rOp78 hTb (by omega) ⟨⟨hG, hm, ⟨a1, by have z := hcv.1 a3; omega⟩⟩, hq⟩) hm.2.1 (fun r s1 z => by have z3 := z.2.2.2.1; exact kr_s (by rw [z3]; exact hH) hA hY rfl (by omega) z.1 z.2.1 z.2.2.1 z.2.2.2.2)
  · subst a2
    rw [show figS 465726042227 = 9 from by decide] at hH
    exact hd_op hcl (R := en_rOp79 t n k ph bg pr o p e w c fs s) (fun Q2 hq => c_rOp79 hTb (by omega) ⟨⟨hG, hm, ⟨a1, by have z := hcv.1 a3; omega⟩⟩, hq⟩) hm.2.1 (fun r s1 z => by have z3 := z.2.2.2.1; exact kr_s (by rw [z3]; exact hH) hA hY rfl (by omega) z.1 z.2.1 z.2.2.1 z.2.2.2.2)
theorem kr_O8 (hTb : aTb zSh rx_tb cl) (hd : 4 ≤ d) (hcl : zcl zSh rx_m198 3 0 (cl d) Q K) (hcv : cv ↔ st0 170 36 = 1) : KC_O8 t n cv (KHr K x st0 t n) (KFr Q st0) (KEr Q st0 t n) := by
  intro k ph bg pr o p kk v e w c fs a1 a2 a3 a4 a5 hF s hG hA hY hm
  have h36 : s 170 36 = st0 170 36 := hA 170 36 rfl rfl
  have g36 := g_isClever hG
  by_cases b5 : kk = 5
  · subst b5
    exact hd_op hcl (R := en_rOpF0 t n k ph bg pr o p e w c fs v s) (fun Q2 hq => c_rOpF0 hTb (by omega) ⟨⟨hG, hm, a1⟩, hq⟩) hm.2.1 (fun r s1 z => kr_f hF hA hY rfl z.1 z.2.1 z.2.2.1 z.2.2.2)
  by_cases c3 : kk = 1 ∧ v = 1953459300
  · obtain ⟨c1, c2⟩ := c3
    subst c1
    subst c2
    exact hd_op hcl (R := en_rOpF93 t n k ph bg pr o p e w c fs s) (fun Q2 hq => c_rOpF93 hTb (by omega) ⟨⟨hG, hm, ⟨a1, by have z : cv := Classical.byContradiction (fun q => a4 ⟨rfl, Or.inl (Or.inr (Or.inr (Or.inl ⟨q, by omega⟩)))⟩); have z2 := hcv.1 z; omega⟩⟩, hq⟩) hm.2.1 (fun r s1 z => kr_f hF hA hY rfl z.1 z.2.1 z.2.2.1 z.2.2.2)
  by_cases c4 : kk = 1 ∧ v = 1886743660
  · obtain ⟨c1, c2⟩ := c4
    subst c1
    subst c2
    exact hd_op hcl (R := en_rOpF94 t n k ph bg pr o p e w c fs s) (fun Q2 hq => c_rOpF94 hTb (by omega) ⟨⟨hG, hm, ⟨a1, by have z : cv := Classical.byContradiction (fun q => a4 ⟨rfl, Or.inl (Or.inr (Or.inr (Or.inl ⟨q, by omega⟩)))⟩); have z2 := hcv.1 z; omega⟩⟩, hq⟩) hm.2.1 (fun r s1 z => kr_f hF hA hY rfl z.1 z.2.1 z.2.2.1 z.2.2.2)
  by_cases c5 : kk = 1 ∧ v = 1937007984
  · obtain ⟨c1, c2⟩ := c5
    subst c1
    subst c2
    exact hd_op hcl (R := en_rOpF95 t n k ph bg pr o p e w c fs s) (fun Q2 hq => c_rOpF95 hTb (by omega) ⟨⟨hG, hm, ⟨a1, by have z : cv := Classical.byContradiction (fun q => a4 ⟨rfl, Or.inl (Or.inr (Or.inr (Or.inl ⟨q, by omega⟩)))⟩); have z2 := hcv.1 z; omega⟩⟩, hq⟩) hm.2.1 (fun r s1 z => kr_f hF hA hY rfl z.1 z.2.1 z.2.2.1 z.2.2.2)
  by_cases c6 : kk = 1 ∧ v = 1650812270
  · obtain ⟨c1, c2⟩ := c6
    subst c1
    subst c2
    exact hd_op hcl (R := en_rOpF96 t n k ph bg pr o p e w c fs s) (fun Q2 hq => c_rOpF96 hTb (by omega) ⟨⟨hG, hm, ⟨a1, by have z : cv := Classical.byContradiction (fun q => a4 ⟨rfl, Or.inl (Or.inr (Or.inr (Or.inl ⟨q, by omega⟩)))⟩); have z2 := hcv.1 z; omega⟩⟩, hq⟩) hm.2.1 (fun r s1 z => kr_f hF hA hY rfl z.1 z.2.1 z.2.2.1 z.2.2.2)
  by_cases c7 : kk = 1 ∧ v = 495874044019
  · obtain ⟨c1, c2⟩ := c7
    subst c1
    subst c2
    exact hd_op hcl (R := en_rOpF97 t n k ph bg pr o p e w c fs s) (fun Q2 hq => c_rOpF97 hTb (by omega) ⟨⟨hG, hm, ⟨a1, by have z : ¬ cv := fun q => a4 ⟨rfl, Or.inl (Or.inr (Or.inr (Or.inr ⟨q, by omega⟩)))⟩; have z2 : ¬ st0 170 36 = 1 := fun y => z (hcv.2 y); omega⟩⟩, hq⟩) hm.2.1 (fun r s1 z => kr_f hF hA hY rfl z.1 z.2.1 z.2.2.1 z.2.2.2)
  by_cases c8 : kk = 1 ∧ v = 1953066341
  · obtain ⟨c1, c2⟩ := c8
    subst c1
    subst c2
    exact hd_op hcl (R := en_rOpF98 t n k ph bg pr o p e w c fs s) (fun Q2 hq => c_rOpF98 hTb (by omega) ⟨⟨hG, hm, ⟨a1, by have z : ¬ cv := fun q => a4 ⟨rfl, Or.inl (Or.inr (Or.inr (Or.inr ⟨q, by omega⟩)))⟩; have z2 : ¬ st0 170 36 = 1 := fun y => z (hcv.2 y); omega⟩⟩, hq⟩) hm.2.1 (fun r s1 z => kr_f hF hA hY rfl z.1 z.2.1 z.2.2.1 z.2.2.2)
  by_cases c9 : kk = 1 ∧ v = 465726042227
  · obtain ⟨c1, c2⟩ := c9
    subst c1
    subst c2
    exact hd_op hcl (R := en_rOpF99 t n k ph bg pr o p e w c fs s) (fun Q2 hq => c_rOpF99 hTb (by omega) ⟨⟨hG, hm, ⟨a1, by have z : ¬ cv := fun q => a4 ⟨rfl, Or.inl (Or.inr (Or.inr (Or.inr ⟨q, by omega⟩)))⟩; have z2 : ¬ st0 170 36 = 1 := fun y => z (hcv.2 y); omega⟩⟩, hq⟩) hm.2.1 (fun r s1 z => kr_f hF hA hY rfl z.1 z.2.1 z.2.2.1 z.2.2.2)
  by_cases b1 : isT k
  · by_cases b2 : bg = 1
    · have b3 := a5 b1 b2
      exact hd_op hcl (R := en_rOpF8a t n k ph bg pr o p e w c fs kk v s) (fun Q2 hq => c_rOpF8a hTb (by omega) ⟨⟨hG, hm, ⟨b1, b2, a1, b5, a2, a3, b3.2, (fun q => a4 ⟨q.1, Or.inr (Or.inl q.2)⟩), (fun q => a4 ⟨q.1, Or.inr (Or.inr (Or.inl q.2))⟩), (fun q => a4 ⟨q.1, Or.inr (Or.inr (Or.inr q.2))⟩), (fun q => a4 ⟨q.1, Or.inl (Or.inl q.2)⟩), (fun q => a4 ⟨q.1, Or.inl (Or.inr (Or.inl q.2))⟩), c3, c4, c5, c6, c7, c8, c9, (fun q => b3.1 ⟨q.1, Or.inl q.2⟩), (fun q => b3.1 ⟨q.1, Or.inr q.2⟩)⟩⟩, hq⟩) hm.2.1 (fun r s1 z => kr_f hF hA hY rfl z.1 z.2.1 z.2.2.1 z.2.2.2)
    · exact hd_op hcl (R := en_rOpF8b t n k ph bg pr o p e w c fs kk v s) (fun Q2 hq => c_rOpF8b hTb (by omega) ⟨⟨hG, hm, ⟨b1, b2, a1, b5, a2, a3, (fun q => a4 ⟨q.1, Or.inr (Or.inl q.2)⟩), (fun q => a4 ⟨q.1, Or.inr (Or.inr (Or.inl q.2))⟩), (fun q => a4 ⟨q.1, Or.inr (Or.inr (Or.inr q.2))⟩), (fun q => a4 ⟨q.1, Or.inl (Or.inl q.2)⟩), (fun q => a4 ⟨q.1, Or.inl (Or.inr (Or.inl q.2))⟩), c3, c4, c5, c6, c7, c8, c9⟩⟩, hq⟩) hm.2.1 (fun r s1 z => kr_f hF hA hY rfl z.1 z.2.1 z.2.2.1 z.2.2.2)
  · exact hd_op hcl (R := en_rOpF8c t n k ph bg pr o p e w c fs kk v s) (fun Q2 hq => c_rOpF8c hTb (by omega) ⟨⟨hG, hm, ⟨b1, trivial, a1, b5, a2, a3, (fun q => a4 ⟨q.1, Or.inr (Or.inl q.2)⟩), (fun q => a4 ⟨q.1, Or.inr (Or.inr (Or.inl q.2))⟩), (fun q => a4 ⟨q.1, Or.inr (Or.inr (Or.inr q.2))⟩), (fun q => a4 ⟨q.1, Or.inl (Or.inl q.2)⟩), (fun q => a4 ⟨q.1, Or.inl (Or.inr (Or.inl q.2))⟩), c3, c4, c5, c6, c7, c8, c9⟩⟩, hq⟩) hm.2.1 (fun r s1 z => kr_f hF hA hY rfl z.1 z.2.1 z.2.2.1 z.2.2.2)
theorem kr_G1 (hTb : aTb zSh rx_tb cl) (hd : 4 ≤ d) (hcl : zcl zSh rx_m198 3 0 (cl d) Q K) : KC_G1 t n cv (KHr K x st0 t n) (KFr Q st0) (KEr Q st0 t n) := by
  intro k ph bg pr o p v e u w c fs a1 a2 a3 a4 a5 a6 hH s hG hA hY hm
  rcases a2 with a2 | a2
  · subst a2
    rw [show sop 43 = 31 from by decide] at hH
    exact hd_go hcl (R := en_rGo143 t n k ph bg pr o p e w c fs u s) (fun Q2 hq => c_rGo143 hTb (by omega) ⟨⟨hG, hm, ⟨a1, a3, a4, a5, a6⟩⟩, hq⟩) hm.2.1 (fun r s1 z => kg_s hH hA hY rfl z.1 z.2.1 z.2.2.1 z.2.2.2)
  · subst a2
    rw [show sop 45 = 32 from by decide] at hH
    exact hd_go hcl (R := en_rGo145 t n k ph bg pr o p e w c fs u s) (fun Q2 hq => c_rGo145 hTb (by omega) ⟨⟨hG, hm, ⟨a1, a3, a4, a5, a6⟩⟩, hq⟩) hm.2.1 (fun r s1 z => kg_s hH hA hY rfl z.1 z.2.1 z.2.2.1 z.2.2.2)
theorem kr_G2 (hTb : aTb zSh rx_tb cl) (hd : 4 ≤ d) (hcl : zcl zSh rx_m198 3 0 (cl d) Q K) : KC_G2 t n cv (KHr K x st0 t n) (KFr Q st0) (KEr Q st0 t n) := by
  intro k ph bg pr o p v e u w c fs a1 a2 a3 a4 a5 a6 hH s hG hA hY hm
  rcases a2 with a2 | a2 | a2
  · subst a2
    rw [show sop 42 = 33 from by decide] at hH
    exact hd_go hcl (R := en_rGo142 t n k ph bg pr o p e w c fs u s) (fun Q2 hq => c_rGo142 hTb (by omega) ⟨⟨hG, hm, ⟨a1, a3, a4, a5, a6⟩⟩, hq⟩) hm.2.1 (fun r s1 z => kg_s hH hA hY rfl z.1 z.2.1 z.2.2.1 z.2.2.2)
  · subst a2
    rw [show sop 47 = 34 from by decide] at hH
    exact hd_go hcl (R := en_rGo147 t n k ph bg pr o p e w c fs u s) (fun Q2 hq => c_rGo147 hTb (by omega) ⟨⟨hG, hm, ⟨a1, a3, a4, a5, a6⟩⟩, hq⟩) hm.2.1 (fun r s1 z => kg_s hH hA hY rfl z.1 z.2.1 z.2.2.1 z.2.2.2)
  · subst a2
    rw [show sop 37 = 35 from by decide] at hH
    exact hd_go hcl (R := en_rGo137 t n k ph bg pr o p e w c fs u s) (fun Q2 hq => c_rGo137 hTb (by omega) ⟨⟨hG, hm, ⟨a1, a3, a4, a5, a6⟩⟩, hq⟩) hm.2.1 (fun r s1 z => kg_s hH hA hY rfl z.1 z.2.1 z.2.2.1 z.2.2.2)
theorem kr_G3 (hTb : aTb zSh rx_tb cl) (hd : 4 ≤ d) (hcl : zcl zSh rx_m198 3 0 (cl d) Q K) : KC_G3 t n cv (KHr K x st0 t n) (KFr Q st0) (KEr Q st0 t n) := by
  intro k ph bg pr o p v e u w c fs a1 a2 a3 a4 a5 a6 a7 hH s hG hA hY hm
  rcases a4 with a4 | a4 | a4
  · subst a4
    rw [show sop 60 = 38 from by decide] at hH
    exact hd_go hcl (R := en_rGo360 t n k ph bg pr o p e w c fs u s) (fun Q2 hq => c_rGo360 hTb (by omega) ⟨⟨hG, hm, ⟨a3, a1, a2, a5, a6, a7⟩⟩, hq⟩) hm.2.1 (fun r s1 z => kg_s hH hA hY rfl z.1 z.2.1 z.2.2.1 z.2.2.2)
  · subst a4
    rw [show sop 61 = 40 from by decide] at hH
    exact hd_go hcl (R := en_rGo361 t n k ph bg pr o p e w c fs u s) (fun Q2 hq => c_rGo361 hTb (by omega) ⟨⟨hG, hm, ⟨a3, a1, a2, a5, a6, a7⟩⟩, hq⟩) hm.2.1 (fun r s1 z => kg_s hH hA hY rfl z.1 z.2.1 z.2.2.1 z.2.2.2)
  · subst a4
    rw [show sop 62 = 39 from by decide] at hH
    exact hd_go hcl (R := en_rGo362 t n k ph bg pr o p e w c fs u s) (fun Q2 hq => c_rGo362 hTb (by omega) ⟨⟨hG, hm, ⟨a3, a1, a2, a5, a6, a7⟩⟩, hq⟩) hm.2.1 (fun r s1 z => kg_s hH hA hY rfl z.1 z.2.1 z.2.2.1 z.2.2.2)
theorem kr_G4a (hTb : aTb zSh rx_tb cl) (hd : 4 ≤ d) (hcl : zcl zSh rx_m198 3 0 (cl d) Q K) : KC_G4a t n cv (KHr K x st0 t n) (KFr Q st0) (KEr Q st0 t n) := by
  intro k ph bg pr y o p e u w c fs a1 a2 a3 a4 a5 a6 a7 hH s hG hA hY hm
  exact hd_go hcl (R := en_rGo441 t n k ph bg pr o p e w c fs u y s) (fun Q2 hq => c_rGo441 hTb (by omega) ⟨⟨hG, hm, ⟨a3, a1, a2, a4, a5, a6, a7.1, a7.2⟩⟩, hq⟩) hm.2.1 (fun r s1 z => kg_s hH hA hY rfl z.1 z.2.1 z.2.2.1 z.2.2.2)
theorem kr_G4o (hTb : aTb zSh rx_tb cl) (hd : 4 ≤ d) (hcl : zcl zSh rx_m198 3 0 (cl d) Q K) : KC_G4o t n cv (KHr K x st0 t n) (KFr Q st0) (KEr Q st0 t n) := by
  intro k ph bg pr y o p e u c fs a1 a2 a3 a7 hH s hG hA hY hm
  rw [← List.append_nil u] at hm
  exact hd_go hcl (R := en_rGo442 t n k ph bg pr o p e [] c fs u y s) (fun Q2 hq => c_rGo442 hTb (by omega) ⟨⟨hG, hm, ⟨a3, a1, a2, RG_1 u, TR_nil _, by rw [List.length_nil]; omega, a7.1, a7.2⟩⟩, hq⟩) hm.2.1 (fun r s1 z => kg_s hH hA hY rfl z.1 z.2.1 z.2.2.1 z.2.2.2)
theorem kr_G4f (hTb : aTb zSh rx_tb cl) (hd : 4 ≤ d) (hcl : zcl zSh rx_m198 3 0 (cl d) Q K) : KC_G4f t n cv (KHr K x st0 t n) (KFr Q st0) (KEr Q st0 t n) := by
  intro k ph bg pr o p kk v e w c fs a1 a2 a3 a4 a5 hF s hG hA hY hm
  by_cases b5 : kk = 5
  · subst b5
    exact hd_go hcl (R := en_rGoF0 t n k ph bg pr o p e w c fs v s) (fun Q2 hq => c_rGoF0 hTb (by omega) ⟨⟨hG, hm, a3⟩, hq⟩) hm.2.1 (fun r s1 z => kg_f hF hA hY rfl z.1 z.2.1 z.2.2.1 z.2.2.2)
  exact hd_go hcl (R := en_rGoF4 t n k ph bg pr o p e w c fs kk v s) (fun Q2 hq => c_rGoF4 hTb (by omega) ⟨⟨hG, hm, ⟨a3, b5, a1, a2, a4, a5⟩⟩, hq⟩) hm.2.1 (fun r s1 z => kg_f hF hA hY rfl z.1 z.2.1 z.2.2.1 z.2.2.2)
theorem kr_G5 (hTb : aTb zSh rx_tb cl) (hd : 4 ≤ d) (hcl : zcl zSh rx_m198 3 0 (cl d) Q K) : KC_G5 t n cv (KHr K x st0 t n) (KFr Q st0) (KEr Q st0 t n) := by
  intro k ph bg pr o p kk v e w c a1 a2 a3 a4 hE s hG hA hY hm
  by_cases b5 : kk = 5
  · subst b5
    exact hd_go hcl (R := en_rGoF0 t n k ph bg pr o p e w c [] v s) (fun Q2 hq => c_rGoF0 hTb (by omega) ⟨⟨hG, hm, a2⟩, hq⟩) hm.2.1 (fun r s1 z => kg_f (hE.2 ⟨v, e, a2⟩) hA hY rfl z.1 z.2.1 z.2.2.1 z.2.2.2)
  rcases a1 with a1 | a1
  · exact hd_go hcl (R := en_rGo50 t n k ph bg pr o p e w c [] kk v s) (fun Q2 hq => c_rGo50 hTb (by omega) ⟨⟨hG, hm, ⟨a2, b5, a1, a3⟩⟩, hq⟩) hm.2.1 (fun r s1 z => ⟨Or.inl z.2.2.2.1, fun q => absurd z.2.2.2.1 (by omega), fun _ => hE.1 s1 z.1 (fr_tr hA z.2.1 rfl) (Z9_tr hY (hA 170 35 rfl rfl) z.2.2.1) z.2.2.2.2.1 z.2.2.2.2.2.1 z.2.2.2.2.2.2.1 z.2.2.2.2.2.2.2⟩)
  · exact hd_go hcl (R := en_rGo51 t n k ph bg pr o p e w c [] kk v s) (fun Q2 hq => c_rGo51 hTb (by omega) ⟨⟨hG, hm, ⟨a2, b5, a1, a3, (a4 a1).1, (a4 a1).2⟩⟩, hq⟩) hm.2.1 (fun r s1 z => ⟨Or.inl z.2.2.2.1, fun q => absurd z.2.2.2.1 (by omega), fun _ => hE.1 s1 z.1 (fr_tr hA z.2.1 rfl) (Z9_tr hY (hA 170 35 rfl rfl) z.2.2.1) z.2.2.2.2.1 z.2.2.2.2.2.1 z.2.2.2.2.2.2.1 z.2.2.2.2.2.2.2⟩)
theorem kr_G6 (hTb : aTb zSh rx_tb cl) (hd : 4 ≤ d) (hcl : zcl zSh rx_m198 3 0 (cl d) Q K) : KC_G6 t n cv (KHr K x st0 t n) (KFr Q st0) (KEr Q st0 t n) := by
  intro k ph bg pr y o p e w c fs a1 a2 a3 hH s hG hA hY hm
  rcases a1 with a1 | ⟨a1, a4⟩
  · rw [if_pos a1] at hH
    exact hd_go hcl (R := en_rGo63 t n k ph bg pr o p e w c fs y s) (fun Q2 hq => c_rGo63 hTb (by omega) ⟨⟨hG, hm, ⟨a2, a1, a3.1, a3.2⟩⟩, hq⟩) hm.2.1 (fun r s1 z => kg_s hH hA hY rfl z.1 z.2.1 z.2.2.1 z.2.2.2)
  · rw [if_neg (show ¬ k = 3 from by omega)] at hH
    exact hd_go hcl (R := en_rGo66 t n k ph bg pr o p e w c fs y s) (fun Q2 hq => c_rGo66 hTb (by omega) ⟨⟨hG, hm, ⟨a2, a1, a3.1, a3.2, a4⟩⟩, hq⟩) hm.2.1 (fun r s1 z => kg_s hH hA hY rfl z.1 z.2.1 z.2.2.1 z.2.2.2)
theorem kr_G6f (hTb : aTb zSh rx_tb cl) (hd : 4 ≤ d) (hcl : zcl zSh rx_m198 3 0 (cl d) Q K) : KC_G6f t n cv (KHr K x st0 t n) (KFr Q st0) (KEr Q st0 t n) := by
  intro k ph bg pr o p kk v e w c fs a1 a2 a3 a4 a5 hF s hG hA hY hm
  by_cases b5 : kk = 5
  · subst b5
    exact hd_go hcl (R := en_rGoF0 t n k ph bg pr o p e w c fs v s) (fun Q2 hq => c_rGoF0 hTb (by omega) ⟨⟨hG, hm, a2⟩, hq⟩) hm.2.1 (fun r s1 z => kg_f hF hA hY rfl z.1 z.2.1 z.2.2.1 z.2.2.2)
  rcases a1 with a1 | ⟨a1, a6⟩
  · exact hd_go hcl (R := en_rGoF63 t n k ph bg pr o p e w c fs kk v s) (fun Q2 hq => c_rGoF63 hTb (by omega) ⟨⟨hG, hm, ⟨a2, b5, a1, a3, a4⟩⟩, hq⟩) hm.2.1 (fun r s1 z => kg_f hF hA hY rfl z.1 z.2.1 z.2.2.1 z.2.2.2)
  · exact hd_go hcl (R := en_rGoF66 t n k ph bg pr o p e w c fs kk v s) (fun Q2 hq => c_rGoF66 hTb (by omega) ⟨⟨hG, hm, ⟨a2, b5, a1, a3, a4, a6, a5 a1⟩⟩, hq⟩) hm.2.1 (fun r s1 z => kg_f hF hA hY rfl z.1 z.2.1 z.2.2.1 z.2.2.2)
theorem kr_G7 (hTb : aTb zSh rx_tb cl) (hd : 4 ≤ d) (hcl : zcl zSh rx_m198 3 0 (cl d) Q K) : KC_G7 t n cv (KHr K x st0 t n) (KFr Q st0) (KEr Q st0 t n) := by
  intro k ph bg pr y o p e w c fs a1 a2 a3 a4 a5 hH s hG hA hY hm
  rcases a1 with a1 | a1
  · rw [if_neg (show ¬ k = 4 from by omega), List.append_nil] at hH
    exact hd_go hcl (R := en_rGo72 t n k ph bg pr o p e w c fs y s) (fun Q2 hq => c_rGo72 hTb (by omega) ⟨⟨hG, hm, ⟨a4, a1, a5.1, a5.2⟩⟩, hq⟩) hm.2.1 (fun r s1 z => kg_s hH hA hY rfl z.1 z.2.1 z.2.2.1 z.2.2.2)
  · rw [if_pos a1] at hH
    exact hd_go hcl (R := en_rGo74 t n k ph bg pr o p e w c fs y s) (fun Q2 hq => c_rGo74 hTb (by omega) ⟨⟨hG, hm, ⟨a4, a1, a5.1, a5.2, (a2 a1).1, (a2 a1).2⟩⟩, hq⟩) hm.2.1 (fun r s1 z => kg_s hH hA hY rfl z.1 z.2.1 z.2.2.1 z.2.2.2)
theorem kr_G7b (hTb : aTb zSh rx_tb cl) (hd : 4 ≤ d) (hcl : zcl zSh rx_m198 3 0 (cl d) Q K) : KC_G7b t n cv (KHr K x st0 t n) (KFr Q st0) (KEr Q st0 t n) := by
  intro ph bg pr k2 ph2 bg2 pr2 y o p e w w2 c fs a1 a2 a3 hH s hG hA hY hm
  exact hd_go hcl (R := en_rGo75 t n 5 ph bg pr o p e w c fs k2 ph2 bg2 pr2 y w2 s) (fun Q2 hq => c_rGo75 hTb (by omega) ⟨⟨hG, hm, ⟨a2, rfl, a1, a3.1, a3.2⟩⟩, hq⟩) hm.2.1 (fun r s1 z => kg_s hH hA hY rfl z.1 z.2.1 z.2.2.1 z.2.2.2)
theorem kr_G7f (hTb : aTb zSh rx_tb cl) (hd : 4 ≤ d) (hcl : zcl zSh rx_m198 3 0 (cl d) Q K) : KC_G7f t n cv (KHr K x st0 t n) (KFr Q st0) (KEr Q st0 t n) := by
  intro k ph bg pr o p kk v e w c fs a1 a2 a3 a4 a5 hF s hG hA hY hm
  by_cases b5 : kk = 5
  · subst b5
    exact hd_go hcl (R := en_rGoF0 t n k ph bg pr o p e w c fs v s) (fun Q2 hq => c_rGoF0 hTb (by omega) ⟨⟨hG, hm, a2⟩, hq⟩) hm.2.1 (fun r s1 z => kg_f hF hA hY rfl z.1 z.2.1 z.2.2.1 z.2.2.2)
  rcases a1 with a1 | a1 | ⟨a1, a6⟩
  · rw [if_neg (show ¬ k = 5 from by omega)] at a3
    exact hd_go hcl (R := en_rGoF7 t n k ph bg pr o p e w c fs kk v s) (fun Q2 hq => c_rGoF7 hTb (by omega) ⟨⟨hG, hm, ⟨a2, b5, Or.inl a1, a3, a4⟩⟩, hq⟩) hm.2.1 (fun r s1 z => kg_f hF hA hY rfl z.1 z.2.1 z.2.2.1 z.2.2.2)
  · rw [if_neg (show ¬ k = 5 from by omega)] at a3
    exact hd_go hcl (R := en_rGoF7 t n k ph bg pr o p e w c fs kk v s) (fun Q2 hq => c_rGoF7 hTb (by omega) ⟨⟨hG, hm, ⟨a2, b5, Or.inr a1, a3, a4⟩⟩, hq⟩) hm.2.1 (fun r s1 z => kg_f hF hA hY rfl z.1 z.2.1 z.2.2.1 z.2.2.2)
  · rw [if_pos a1] at a3
    exact hd_go hcl (R := en_rGoF75 t n k ph bg pr o p e w c fs kk v s) (fun Q2 hq => c_rGoF75 hTb (by omega) ⟨⟨hG, hm, ⟨a2, b5, a1, a3, a4, a6, a5 a1⟩⟩, hq⟩) hm.2.1 (fun r s1 z => kg_f hF hA hY rfl z.1 z.2.1 z.2.2.1 z.2.2.2)
theorem kr_all (hTb : aTb zSh rx_tb cl) (hd : 4 ≤ d) (hcl : zcl zSh rx_m198 3 0 (cl d) Q K) (hcv : cv ↔ st0 170 36 = 1) : KCl t n cv (KHr K x st0 t n) (KFr Q st0) (KEr Q st0 t n) :=
  ⟨kr_O1 hTb hd hcl, kr_O1f hTb hd hcl, kr_O2 hTb hd hcl, kr_O2f hTb hd hcl, kr_O3 hTb hd hcl, kr_O4 hTb hd hcl, kr_O4f hTb hd hcl, kr_O5 hTb hd hcl, kr_O5f hTb hd hcl, kr_O6 hTb hd hcl, kr_O7 hTb hd hcl hcv, kr_O8 hTb hd hcl hcv, kr_G1 hTb hd hcl, kr_G2 hTb hd hcl, kr_G3 hTb hd hcl, kr_G4a hTb hd hcl, kr_G4o hTb hd hcl, kr_G4f hTb hd hcl, kr_G5 hTb hd hcl, kr_G6 hTb hd hcl, kr_G6f hTb hd hcl, kr_G7 hTb hd hcl, kr_G7b hTb hd hcl, kr_G7f hTb hd hcl⟩
end Rz6
