/-! printed by wip/pw/r/qa.py: sums read; a statement; its end -/
def m_rReading : aM := ([(170, 3), (170, 4), (170, 5), (170, 6), (170, 7), (170, 8), (170, 9), (170, 12), (170, 34), (170, 36), (170, 42), (170, 43), (170, 45), (170, 46)], [186, 187, 188, 189, 192, 193, 194, 195, 196, 197])
def rq_rReading (t : Int → Int) (n : Int) (T : zS) (wv e : Int) (C : List Int) (T1 : zS) (q2 gd : Int) (k : Int) (st : zS) : Prop := gInv zgt st ∧ (RDr st t n) ∧ (RT (st 170 35) T st) ∧ (st 170 8 = 0 ∧ st 170 12 = -1) ∧ (tk t n (st 170 4) 1 wv e) ∧ (k = 0 ∨ k = 1) ∧ (CDr (st 170 35) (st 170 34) (st 188) (st 189) C) ∧ (st 170 34 ≤ st 170 4) ∧ (RK (st 170 34) (st 170 35) T st) ∧ (RGH t n T e T1 q2 k gd)
def en_rReading (t : Int → Int) (n : Int) (T : zS) (wv e : Int) (C : List Int) (T1 : zS) (q2 gd : Int) (k : Int) (st : zS) (s1 : zS) : Prop := gInv zgt s1 ∧ aFr m_rReading st s1 ∧ Z9 st s1 ∧ ((gd = 1 ∧ s1 170 8 = 0 ∧ RDr s1 t n ∧ s1 170 4 = q2 ∧ RT (st 170 35) T1 s1 ∧ s1 170 34 ≤ s1 170 4 ∧ ∃ C' : List Int, CDr (s1 170 35) (s1 170 34) (s1 188) (s1 189) C' ∧ RK (s1 170 34) (st 170 35) T1 s1) ∨ (0 < s1 170 8 ∧ (gd = 0 ∨ ∃ v e : Int, tk t n q2 5 v e)))
def ct_rReading (t : Int → Int) (n : Int) (T : zS) (wv e : Int) (C : List Int) (T1 : zS) (q2 gd : Int) (k : Int) (st : zS) (Q : zQ) : Prop := rq_rReading t n T wv e C T1 q2 gd k st ∧ (∀ (s1 : zS), en_rReading t n T wv e C T1 q2 gd k st s1 → Q none s1)
theorem ct_rReading_m {t : Int → Int} {n : Int} {T : zS} {wv e : Int} {C : List Int} {T1 : zS} {q2 gd : Int} {k : Int} {st : zS} {Q Q' : zQ} (hQ : ∀ r st', Q r st' → Q' r st') (h : ct_rReading t n T wv e C T1 q2 gd k st Q) : ct_rReading t n T wv e C T1 q2 gd k st Q' := ⟨h.1, fun x0 x1 => hQ _ _ (h.2 x0 x1)⟩
def k_rReading (t : Int → Int) (n : Int) (T : zS) (wv e : Int) (C : List Int) (T1 : zS) (q2 gd : Int) : zCall := fun _ as st Q => match as with
  | [.inr (.inr (.inl z_o)), .inl k] => z_o = 170 ∧ ct_rReading t n T wv e C T1 q2 gd k st Q
  | _ => False
def m_rStmt : aM := ([(170, 3), (170, 4), (170, 5), (170, 6), (170, 7), (170, 8), (170, 9), (170, 12), (170, 34), (170, 36), (170, 42), (170, 43), (170, 45), (170, 46)], [172, 173, 174, 175, 176, 177, 178, 179, 180, 181, 182, 183, 184, 185, 186, 187, 188, 189, 190, 191, 192, 193, 194, 195, 196, 197])
def rq_rStmt (t : Int → Int) (n : Int) (T : zS) (C : List Int) (gd : Int) (gi : Nat) (ge : Int) (T1 : zS) (q2 : Int) (st : zS) : Prop := gInv zgt st ∧ (RDr st t n) ∧ (RT (st 170 35) T st) ∧ (st 170 8 = 0 ∧ st 170 34 ≤ st 170 4) ∧ (CDr (st 170 35) (st 170 34) (st 188) (st 189) C) ∧ (RK (st 170 34) (st 170 35) T st) ∧ (SGH t n T (st 170 4) gd gi ge T1 q2)
def en_rStmt (t : Int → Int) (n : Int) (T : zS) (C : List Int) (gd : Int) (gi : Nat) (ge : Int) (T1 : zS) (q2 : Int) (st : zS) (s1 : zS) : Prop := gInv zgt s1 ∧ aFr m_rStmt st s1 ∧ Z9 st s1 ∧ ((gd = 1 ∧ s1 170 8 = 0 ∧ RDr s1 t n ∧ s1 170 4 = q2 ∧ RT (st 170 35) T1 s1 ∧ s1 170 34 ≤ s1 170 4 ∧ ∃ C' : List Int, CDr (s1 170 35) (s1 170 34) (s1 188) (s1 189) C' ∧ RK (s1 170 34) (st 170 35) T1 s1) ∨ (0 < s1 170 8 ∧ (gd = 0 ∨ ∃ v e : Int, tk t n q2 5 v e)))
def ct_rStmt (t : Int → Int) (n : Int) (T : zS) (C : List Int) (gd : Int) (gi : Nat) (ge : Int) (T1 : zS) (q2 : Int) (st : zS) (Q : zQ) : Prop := rq_rStmt t n T C gd gi ge T1 q2 st ∧ (∀ (s1 : zS), en_rStmt t n T C gd gi ge T1 q2 st s1 → Q none s1)
theorem ct_rStmt_m {t : Int → Int} {n : Int} {T : zS} {C : List Int} {gd : Int} {gi : Nat} {ge : Int} {T1 : zS} {q2 : Int} {st : zS} {Q Q' : zQ} (hQ : ∀ r st', Q r st' → Q' r st') (h : ct_rStmt t n T C gd gi ge T1 q2 st Q) : ct_rStmt t n T C gd gi ge T1 q2 st Q' := ⟨h.1, fun x0 x1 => hQ _ _ (h.2 x0 x1)⟩
def k_rStmt (t : Int → Int) (n : Int) (T : zS) (C : List Int) (gd : Int) (gi : Nat) (ge : Int) (T1 : zS) (q2 : Int) : zCall := fun _ as st Q => match as with
  | [.inr (.inr (.inl z_o))] => z_o = 170 ∧ ct_rStmt t n T C gd gi ge T1 q2 st Q
  | _ => False
def m_rFin : aM := ([(170, 3), (170, 4), (170, 5), (170, 6), (170, 7), (170, 8), (170, 9), (170, 12)], [])
def rq_rFin (t : Int → Int) (n : Int) (k : Int) (st : zS) : Prop := gInv zgt st ∧ (st 170 8 = 0 → RDr st t n)
def en_rFin (t : Int → Int) (n : Int) (k : Int) (st : zS) (s1 : zS) : Prop := gInv zgt s1 ∧ aFr m_rFin st s1 ∧ ((s1 170 8 = 0 ∧ st 170 8 = 0 ∧ tk t n (st 170 4) 3 59 (s1 170 4) ∧ RDr s1 t n ∧ (k = 80 → ∃ v e : Int, tk t n (s1 170 4) 0 v e)) ∨ (0 < s1 170 8 ∧ st 170 8 = 0 ∧ ¬ ∃ q : Int, tk t n (st 170 4) 3 59 q ∧ (k = 80 → ∃ v e : Int, tk t n q 0 v e)) ∨ (0 < s1 170 8 ∧ 0 < st 170 8))
def ct_rFin (t : Int → Int) (n : Int) (k : Int) (st : zS) (Q : zQ) : Prop := rq_rFin t n k st ∧ (∀ (s1 : zS), en_rFin t n k st s1 → Q none s1)
theorem ct_rFin_m {t : Int → Int} {n : Int} {k : Int} {st : zS} {Q Q' : zQ} (hQ : ∀ r st', Q r st' → Q' r st') (h : ct_rFin t n k st Q) : ct_rFin t n k st Q' := ⟨h.1, fun x0 x1 => hQ _ _ (h.2 x0 x1)⟩
def k_rFin (t : Int → Int) (n : Int) : zCall := fun _ as st Q => match as with
  | [.inr (.inr (.inl z_o)), .inl k] => z_o = 170 ∧ ct_rFin t n k st Q
  | _ => False
section RzA
variable {cl : Nat → zCall}
set_option maxHeartbeats 4000000 in
set_option maxRecDepth 100000 in
theorem c_rReading (hTb : aTb zSh rx_tb cl) {t : Int → Int} {n : Int} {T : zS} {wv e : Int} {C : List Int} {T1 : zS} {q2 gd : Int} {D : Nat} (hD : 6 ≤ D) {k : Int} {st : zS} {Q : zQ} (h : ct_rReading t n T wv e C T1 q2 gd k st Q) : cl D 208 [.inr (.inr (.inl 170)), .inl k] st Q := by
  obtain ⟨d, rfl⟩ : ∃ d, D = d + 1 := ⟨D - 1, by omega⟩
  refine hTb d 208 (rx_m208, 3, 0, 0, 0) rfl _ _ _ (Nat.le_of_ble_eq_true rfl) (fun K hcl hsf hsl => ?_)
  obtain ⟨hR, hQ⟩ := h
  obtain ⟨hG, rd, rt, q, th, hk, cd, cb, rk, gh⟩ := hR
  change RDr st t n at rd
  change RT (st 170 35) T st at rt
  change st 170 8 = 0 ∧ st 170 12 = -1 at q
  change tk t n (st 170 4) 1 wv e at th
  change k = 0 ∨ k = 1 at hk
  change CDr (st 170 35) (st 170 34) (st 188) (st 189) C at cd
  change st 170 34 ≤ st 170 4 at cb
  change RK (st 170 34) (st 170 35) T st at rk
  change RGH t n T e T1 q2 k gd at gh
  have g1 := g_in hG
  have g2 := g_faultKind hG
  have g3 := g_lexAt hG
  have g4 := g_signAt hG
  have g5 := g_codes hG
  obtain ⟨f0, lx⟩ := q
  have rn1 := rt.1.1
  have rn2 := rt.1.2.1
  have rt1 := rt.2.1.1
  have rt2 := rt.2.1.2.1
  have rs1 := rt.2.2.1.1
  have rs2 := rt.2.2.1.2.1
  have rp1 := rt.2.2.2.1.1
  have rp2 := rt.2.2.2.1.2.1
  have l0 := tk_lt th rd.2.1.1 (by omega)
  obtain ⟨gc, hg1, hg2, hg3⟩ := RG_g2 gh (by omega)
  replace hg3 := fun (_ : Unit) => hg3
  have hgc := And.intro hg1 hg2
  have hcm : zmo (wcL [(199, k_rCounts t n), (198, k_rRds t n gd q2 gc C)]) (cl d) := (wcL_m (wm_cons (k_rCounts_m hTb (by omega)) (wm_cons (k_rRds_m hTb (by omega)) wm_nil)))
  have g6 := g_isClever hG
  refine yr1_ok (Rt := Q) (wc := (wcL [(199, k_rCounts t n), (198, k_rRds t n gd q2 gc C)])) (stp := []) hcm hcl [] 69 ?_
  show ((-2147483648 ≤ (2 : Int) * (st 170 35) ∧ (2 : Int) * (st 170 35) ≤ 2147483647) ∧ ((-2147483648 ≤ ((2 : Int) * (st 170 35)) + k ∧ ((2 : Int) * (st 170 35)) + k ≤ 2147483647) ∧ ((0 ≤ ((2 : Int) * (st 170 35)) + k ∧ ((2 : Int) * (st 170 35)) + k < 4) ∧ ((st 186 (((2 : Int) * (st 170 35)) + k : Int).toNat = ((-1) : Int) → (170 = 170 ∧ (rq_rCounts t n (0) st ∧ (∀ (r7 : Int) (s7 : zS), en_rCounts t n (0) st r7 s7 → ((¬ r7 = (0 : Int) → ((¬ k = (1 : Int) → ((0 = (0 : Int) ∨ 0 = (1 : Int)) ∧ ((0 ≤ ((2 : Int) * (st 170 35)) + k ∧ ((2 : Int) * (st 170 35)) + k < 4) ∧ ((¬ k = (1 : Int) → (170 = 170 ∧ (rq_rRds t n gd q2 gc C (0) (zup (zup s7 170 36 0) 186 (((2 : Int) * (st 170 35)) + k : Int).toNat (s7 170 34)) ∧ (∀ (s8 : zS), en_rRds t n gd q2 gc C (0) (zup (zup s7 170 36 0) 186 (((2 : Int) * (st 170 35)) + k : Int).toNat (s7 170 34)) s8 → ((0 ≤ ((2 : Int) * (st 170 35)) + k ∧ ((2 : Int) * (st 170 35)) + k < 4) ∧ Q none (zup s8 187 (((2 : Int) * (st 170 35)) + k : Int).toNat (s8 170 34))))))) ∧ (¬ (¬ k = (1 : Int)) → (170 = 170 ∧ (rq_rRds t n gd q2 gc C (1) (zup (zup s7 170 36 0) 186 (((2 : Int) * (st 170 35)) + k : Int).toNat (s7 170 34)) ∧ (∀ (s9 : zS), en_rRds t n gd q2 gc C (1) (zup (zup s7 170 36 0) 186 (((2 : Int) * (st 170 35)) + k : Int).toNat (s7 170 34)) s9 → ((0 ≤ ((2 : Int) * (st 170 35)) + k ∧ ((2 : Int) * (st 170 35)) + k < 4) ∧ Q none (zup s9 187 (((2 : Int) * (st 170 35)) + k : Int).toNat (s9 170 34))))))))))) ∧ (¬ (¬ k = (1 : Int)) → ((1 = (0 : Int) ∨ 1 = (1 : Int)) ∧ ((0 ≤ ((2 : Int) * (st 170 35)) + k ∧ ((2 : Int) * (st 170 35)) + k < 4) ∧ ((¬ k = (1 : Int) → (170 = 170 ∧ (rq_rRds t n gd q2 gc C (0) (zup (zup s7 170 36 1) 186 (((2 : Int) * (st 170 35)) + k : Int).toNat (s7 170 34)) ∧ (∀ (s10 : zS), en_rRds t n gd q2 gc C (0) (zup (zup s7 170 36 1) 186 (((2 : Int) * (st 170 35)) + k : Int).toNat (s7 170 34)) s10 → ((0 ≤ ((2 : Int) * (st 170 35)) + k ∧ ((2 : Int) * (st 170 35)) + k < 4) ∧ Q none (zup s10 187 (((2 : Int) * (st 170 35)) + k : Int).toNat (s10 170 34))))))) ∧ (¬ (¬ k = (1 : Int)) → (170 = 170 ∧ (rq_rRds t n gd q2 gc C (1) (zup (zup s7 170 36 1) 186 (((2 : Int) * (st 170 35)) + k : Int).toNat (s7 170 34)) ∧ (∀ (s11 : zS), en_rRds t n gd q2 gc C (1) (zup (zup s7 170 36 1) 186 (((2 : Int) * (st 170 35)) + k : Int).toNat (s7 170 34)) s11 → ((0 ≤ ((2 : Int) * (st 170 35)) + k ∧ ((2 : Int) * (st 170 35)) + k < 4) ∧ Q none (zup s11 187 (((2 : Int) * (st 170 35)) + k : Int).toNat (s11 170 34))))))))))))) ∧ (¬ (¬ r7 = (0 : Int)) → Q none s7)))))) ∧ (¬ (st 186 (((2 : Int) * (st 170 35)) + k : Int).toNat = ((-1) : Int)) → (170 = 170 ∧ (rq_rCounts t n (1) st ∧ (∀ (r12 : Int) (s12 : zS), en_rCounts t n (1) st r12 s12 → ((¬ r12 = (0 : Int) → ((¬ k = (1 : Int) → ((0 = (0 : Int) ∨ 0 = (1 : Int)) ∧ ((0 ≤ ((2 : Int) * (st 170 35)) + k ∧ ((2 : Int) * (st 170 35)) + k < 4) ∧ ((¬ k = (1 : Int) → (170 = 170 ∧ (rq_rRds t n gd q2 gc C (0) (zup (zup s12 170 36 0) 186 (((2 : Int) * (st 170 35)) + k : Int).toNat (s12 170 34)) ∧ (∀ (s13 : zS), en_rRds t n gd q2 gc C (0) (zup (zup s12 170 36 0) 186 (((2 : Int) * (st 170 35)) + k : Int).toNat (s12 170 34)) s13 → ((0 ≤ ((2 : Int) * (st 170 35)) + k ∧ ((2 : Int) * (st 170 35)) + k < 4) ∧ Q none (zup s13 187 (((2 : Int) * (st 170 35)) + k : Int).toNat (s13 170 34))))))) ∧ (¬ (¬ k = (1 : Int)) → (170 = 170 ∧ (rq_rRds t n gd q2 gc C (1) (zup (zup s12 170 36 0) 186 (((2 : Int) * (st 170 35)) + k : Int).toNat (s12 170 34)) ∧ (∀ (s14 : zS), en_rRds t n gd q2 gc C (1) (zup (zup s12 170 36 0) 186 (((2 : Int) * (st 170 35)) + k : Int).toNat (s12 170 34)) s14 → ((0 ≤ ((2 : Int) * (st 170 35)) + k ∧ ((2 : Int) * (st 170 35)) + k < 4) ∧ Q none (zup s14 187 (((2 : Int) * (st 170 35)) + k : Int).toNat (s14 170 34))))))))))) ∧ (¬ (¬ k = (1 : Int)) → ((1 = (0 : Int) ∨ 1 = (1 : Int)) ∧ ((0 ≤ ((2 : Int) * (st 170 35)) + k ∧ ((2 : Int) * (st 170 35)) + k < 4) ∧ ((¬ k = (1 : Int) → (170 = 170 ∧ (rq_rRds t n gd q2 gc C (0) (zup (zup s12 170 36 1) 186 (((2 : Int) * (st 170 35)) + k : Int).toNat (s12 170 34)) ∧ (∀ (s15 : zS), en_rRds t n gd q2 gc C (0) (zup (zup s12 170 36 1) 186 (((2 : Int) * (st 170 35)) + k : Int).toNat (s12 170 34)) s15 → ((0 ≤ ((2 : Int) * (st 170 35)) + k ∧ ((2 : Int) * (st 170 35)) + k < 4) ∧ Q none (zup s15 187 (((2 : Int) * (st 170 35)) + k : Int).toNat (s15 170 34))))))) ∧ (¬ (¬ k = (1 : Int)) → (170 = 170 ∧ (rq_rRds t n gd q2 gc C (1) (zup (zup s12 170 36 1) 186 (((2 : Int) * (st 170 35)) + k : Int).toNat (s12 170 34)) ∧ (∀ (s16 : zS), en_rRds t n gd q2 gc C (1) (zup (zup s12 170 36 1) 186 (((2 : Int) * (st 170 35)) + k : Int).toNat (s12 170 34)) s16 → ((0 ≤ ((2 : Int) * (st 170 35)) + k ∧ ((2 : Int) * (st 170 35)) + k < 4) ∧ Q none (zup s16 187 (((2 : Int) * (st 170 35)) + k : Int).toNat (s16 170 34))))))))))))) ∧ (¬ (¬ r12 = (0 : Int)) → Q none s12))))))))))
  refine ⟨by omega, ?_⟩
  refine ⟨by omega, ?_⟩
  have g17 := g_sumFrom hG (((2 : Int) * (st 170 35)) + k : Int).toNat
  refine ⟨by omega, ?_⟩
  refine ⟨fun h18 => ?_, fun h18 => ?_⟩
  · refine ⟨rfl, ⟨hG, (show RDr st t n from rd), (show st 170 8 = 0 ∧ st 170 12 = -1 ∧ ((0) = 0 ∨ (0) = 1) from by omega)⟩, fun r7 s7 q7 => ?_⟩
    obtain ⟨gs7, fs7, o7⟩ := q7
    change (s7 170 8 = 0 ∧ st 170 8 = 0 ∧ r7 = 1 ∧ (0) = 0 ∧ RDr s7 t n ∧ NXr st s7 t n) ∨ (0 < s7 170 8 ∧ st 170 8 = 0 ∧ r7 = 0 ∧ (0) = 1) ∨ (0 < s7 170 8 ∧ 0 < st 170 8) at o7
    have g19 := g_faultKind gs7
    have e20 : s7 170 35 = st 170 35 := fs7 170 35 rfl rfl
    have g21 := g_signAt gs7
    have g22 := g_lexAt gs7
    have e23 : s7 170 34 = st 170 34 := fs7 170 34 rfl rfl
    rcases o7 with ⟨y7, z7, k7, f7, rd7, nx7⟩ | ⟨y7, z7, k7, f7⟩ | ⟨y7, z7⟩
    · have ee7 : s7 170 4 = e := NXr_e nx7 th (by omega)
      refine ⟨fun h24 => ?_, fun h24 => (by exfalso; omega)⟩
      refine ⟨fun h25 => ?_, fun h25 => ?_⟩
      · refine ⟨by omega, ?_⟩
        refine ⟨by omega, ?_⟩
        refine ⟨fun h26 => ?_, fun h26 => (by exfalso; omega)⟩
        refine ⟨rfl, ⟨(gInv_up (gInv_up gs7 (p_isClever (by omega))) (p_sumFrom (by omega))), (show RDr (zup (zup s7 170 36 0) 186 (((2 : Int) * (st 170 35)) + k : Int).toNat (s7 170 34)) t n from (show RDr (zup (zup s7 170 36 0) 186 (((2 : Int) * (st 170 35)) + k : Int).toNat (s7 170 34)) t n from rd7)), (show s7 170 8 = 0 ∧ s7 170 34 + 1 ≤ s7 170 4 from by omega), (show CDr (s7 170 35) (s7 170 34) (s7 188) (s7 189) (C) from (by rw [show s7 170 35 = st 170 35 from by omega, show s7 170 34 = st 170 34 from by omega, show s7 188 = st 188 from funext (fun i => (fs7 188 i rfl rfl).trans ((fun _ => rfl) i)), show s7 189 = st 189 from funext (fun i => (fs7 189 i rfl rfl).trans ((fun _ => rfl) i))]; exact cd)), (show RDD t n ((0 : Int) = 1) (0) gd q2 gc (s7 170 4) from (by
            have hT : T 0 (17 + k).toNat = -1 := by
              rcases hk with rfl | rfl
              · exact rt.2.2.2.2.2.2.1.mp (by rw [show (2 * st 170 35 + 0 : Int).toNat = (((2 : Int) * (st 170 35)) + 0 : Int).toNat by omega]; omega)
              · exact rt.2.2.2.2.2.2.2.mp (by rw [show (2 * st 170 35 + 1 : Int).toNat = (((2 : Int) * (st 170 35)) + 1 : Int).toNat by omega]; omega)
            rw [ee7]
            have z := hgc.2 hT
            exact z.1 (by omega)))⟩, fun s8 q8 => ?_⟩
        obtain ⟨gs8, fs8, yq8, o8⟩ := q8
        change (gd = 1 ∧ s8 170 8 = 0 ∧ s8 170 4 = q2 ∧ RDr s8 t n ∧ CDr (s8 170 35) (s8 170 34) (s8 188) (s8 189) (C ++ gc)) ∨ (0 < s8 170 8 ∧ (gd = 0 ∨ ∃ v e : Int, tk t n q2 5 v e)) at o8
        have g27 := g_faultKind gs8
        have g28 := g_signAt gs8
        have e29 : s8 170 35 = s7 170 35 := fs8 170 35 rfl rfl
        have g30 := g_codes gs8
        have g31 := g_lexAt gs8
        rcases o8 with ⟨a8, y8, p8, rd8, cd8⟩ | ⟨y8, l8⟩
        · refine ⟨by omega, ?_⟩
          exact hQ _ ⟨(gInv_up gs8 (p_sumBehind (by omega))), (fr_a (fr_tr (fr_a (fr_f (fr_tr (fr_rf _ _) fs7 rfl) rfl) rfl) fs8 rfl) rfl), (Z9_up (Z9_tr (Z9_up (Z9_up (Z9_fr fs7 (fun _ => rfl) rfl) (by decide)) (by decide)) ((show aFr m_rReading st (zup (zup s7 170 36 0) 186 (((2 : Int) * (st 170 35)) + k : Int).toNat (s7 170 34)) from (fr_a (fr_f (fr_tr (fr_rf _ _) fs7 rfl) rfl) rfl)) 170 35 rfl rfl) yq8) (by decide)), (show (gd = 1 ∧ s8 170 8 = 0 ∧ RDr (zup s8 187 (((2 : Int) * (st 170 35)) + k : Int).toNat (s8 170 34)) t n ∧ s8 170 4 = q2 ∧ RT (st 170 35) T1 (zup s8 187 (((2 : Int) * (st 170 35)) + k : Int).toNat (s8 170 34)) ∧ s8 170 34 ≤ s8 170 4 ∧ ∃ C' : List Int, CDr (s8 170 35) (s8 170 34) (s8 188) (s8 189) C' ∧ RK (s8 170 34) (st 170 35) T1 (zup s8 187 (((2 : Int) * (st 170 35)) + k : Int).toNat (s8 170 34))) ∨ (0 < s8 170 8 ∧ (gd = 0 ∨ ∃ v e : Int, tk t n q2 5 v e)) from (by
            have hz := hgc.1 a8
            have ln := cd8.1
            rw [List.length_append] at ln
            have lc := cd.1
            have hR : RT (st 170 35) T1 (zup s8 187 (((2 : Int) * (st 170 35)) + k : Int).toNat (s8 170 34)) := by
              have h186 : ∀ i : Nat, (zup s8 187 (((2 : Int) * (st 170 35)) + k : Int).toNat (s8 170 34)) 186 i = up1 (st 186) (2 * st 170 35 + k : Int).toNat (st 170 34) i := (fun i => ((show ∀ i : Nat, (zup s8 187 (((2 : Int) * (st 170 35)) + k : Int).toNat (s8 170 34)) 186 i = (up1 (st 186) (((2 : Int) * (st 170 35)) + k : Int).toNat (s7 170 34)) i from (show ∀ i : Nat, s8 186 i = (up1 (st 186) (((2 : Int) * (st 170 35)) + k : Int).toNat (s7 170 34)) i from fun i => (fs8 186 i rfl rfl).trans ((show ∀ i : Nat, (zup (zup s7 170 36 0) 186 (((2 : Int) * (st 170 35)) + k : Int).toNat (s7 170 34)) 186 i = (up1 (st 186) (((2 : Int) * (st 170 35)) + k : Int).toNat (s7 170 34)) i from fun i => by show up1 ((zup s7 170 36 0) 186) (((2 : Int) * (st 170 35)) + k : Int).toNat (s7 170 34) i = up1 (st 186) (((2 : Int) * (st 170 35)) + k : Int).toNat (s7 170 34) i; rw [show (zup s7 170 36 0) 186 = (st 186) from funext (show ∀ i : Nat, (zup s7 170 36 0) 186 i = (st 186) i from (show ∀ i : Nat, s7 186 i = (st 186) i from fun i => (fs7 186 i rfl rfl).trans ((fun _ => rfl) i)))]) i))) i).trans (by show (up1 (st 186) (((2 : Int) * (st 170 35)) + k : Int).toNat (s7 170 34)) i = (up1 (st 186) (2 * st 170 35 + k : Int).toNat (st 170 34)) i; simp only [show s7 170 34 = st 170 34 from by omega]))
              have hot : ∀ c i : Nat, 172 ≤ c → c ≤ 191 → ¬ c = 186 → ¬ c = 187 → ¬ c = 188 → ¬ c = 189 → (zup s8 187 (((2 : Int) * (st 170 35)) + k : Int).toNat (s8 170 34)) c i = st c i := (by
              exact fun c i h1 h2 y0 y1 y2 y3 => by
                rcases (show c = 172 ∨ c = 173 ∨ c = 174 ∨ c = 175 ∨ c = 176 ∨ c = 177 ∨ c = 178 ∨ c = 179 ∨ c = 180 ∨ c = 181 ∨ c = 182 ∨ c = 183 ∨ c = 184 ∨ c = 185 ∨ c = 190 ∨ c = 191 from by omega) with rfl | rfl | rfl | rfl | rfl | rfl | rfl | rfl | rfl | rfl | rfl | rfl | rfl | rfl | rfl | rfl
                · exact (fun i => (fs8 172 i rfl rfl).trans ((fun i => (fs7 172 i rfl rfl).trans ((fun _ => rfl) i)) i)) i
                · exact (fun i => (fs8 173 i rfl rfl).trans ((fun i => (fs7 173 i rfl rfl).trans ((fun _ => rfl) i)) i)) i
                · exact (fun i => (fs8 174 i rfl rfl).trans ((fun i => (fs7 174 i rfl rfl).trans ((fun _ => rfl) i)) i)) i
                · exact (fun i => (fs8 175 i rfl rfl).trans ((fun i => (fs7 175 i rfl rfl).trans ((fun _ => rfl) i)) i)) i
                · exact (fun i => (fs8 176 i rfl rfl).trans ((fun i => (fs7 176 i rfl rfl).trans ((fun _ => rfl) i)) i)) i
                · exact (fun i => (fs8 177 i rfl rfl).trans ((fun i => (fs7 177 i rfl rfl).trans ((fun _ => rfl) i)) i)) i
                · exact (fun i => (fs8 178 i rfl rfl).trans ((fun i => (fs7 178 i rfl rfl).trans ((fun _ => rfl) i)) i)) i
                · exact (fun i => (fs8 179 i rfl rfl).trans ((fun i => (fs7 179 i rfl rfl).trans ((fun _ => rfl) i)) i)) i
                · exact (fun i => (fs8 180 i rfl rfl).trans ((fun i => (fs7 180 i rfl rfl).trans ((fun _ => rfl) i)) i)) i
                · exact (fun i => (fs8 181 i rfl rfl).trans ((fun i => (fs7 181 i rfl rfl).trans ((fun _ => rfl) i)) i)) i
                · exact (fun i => (fs8 182 i rfl rfl).trans ((fun i => (fs7 182 i rfl rfl).trans ((fun _ => rfl) i)) i)) i
                · exact (fun i => (fs8 183 i rfl rfl).trans ((fun i => (fs7 183 i rfl rfl).trans ((fun _ => rfl) i)) i)) i
                · exact (fun i => (fs8 184 i rfl rfl).trans ((fun i => (fs7 184 i rfl rfl).trans ((fun _ => rfl) i)) i)) i
                · exact (fun i => (fs8 185 i rfl rfl).trans ((fun i => (fs7 185 i rfl rfl).trans ((fun _ => rfl) i)) i)) i
                · exact (fun i => (fs8 190 i rfl rfl).trans ((fun i => (fs7 190 i rfl rfl).trans ((fun _ => rfl) i)) i)) i
                · exact (fun i => (fs8 191 i rfl rfl).trans ((fun i => (fs7 191 i rfl rfl).trans ((fun _ => rfl) i)) i)) i)
              rcases gh with ⟨hk0, ⟨g, h⟩ | ⟨g, h⟩⟩ | ⟨hk0, ⟨g, h⟩ | ⟨g, h⟩⟩
              · obtain ⟨h1, c, n1, h2, h3, h4, h5, h6, h7⟩ := h
                subst hk0
                exact RT_rd (k := 0) (v := st 170 34) (by omega) rt (Or.inl rfl) (by omega) (fun c i z1 z2 => h7 c i (by omega) z2) (show 0 ≤ T1 0 17 from by have z := h3.1; omega) h186 hot
              · omega
              · obtain ⟨h1, c, n1, h2, h3, h4, h5, h6, h7⟩ := h
                subst hk0
                exact RT_rd (k := 1) (v := st 170 34) (by omega) rt (Or.inr rfl) (by omega) (fun c i z1 z2 => h7 c i (by omega) z2) (show 0 ≤ T1 0 18 from by have z := h3.1; omega) h186 hot
              · omega
            obtain ⟨n1, w1, w2, w3, w4, w5, w6⟩ := (hg3 ()) a8
            have e34 : st 170 34 = (C.length : Int) := cd.1
            have hK : RK (s8 170 34) (st 170 35) T1 (zup s8 187 (((2 : Int) * (st 170 35)) + k : Int).toNat (s8 170 34)) := RK_rd (C := C) (st := st) (T := T) hk (by rw [← e34]; exact rk) w1.1 w1 w2 w3 w4 w5 w6 (by omega) (by rw [← e34]; exact cd) (show CDr (st 170 35) (s8 170 34) (s8 188) (s8 189) (C ++ gc) from by rw [← show s8 170 35 = st 170 35 from by omega]; exact cd8) (by rw [← e34]; exact (fun i => ((show ∀ i : Nat, (zup s8 187 (((2 : Int) * (st 170 35)) + k : Int).toNat (s8 170 34)) 186 i = (up1 (st 186) (((2 : Int) * (st 170 35)) + k : Int).toNat (s7 170 34)) i from (show ∀ i : Nat, s8 186 i = (up1 (st 186) (((2 : Int) * (st 170 35)) + k : Int).toNat (s7 170 34)) i from fun i => (fs8 186 i rfl rfl).trans ((show ∀ i : Nat, (zup (zup s7 170 36 0) 186 (((2 : Int) * (st 170 35)) + k : Int).toNat (s7 170 34)) 186 i = (up1 (st 186) (((2 : Int) * (st 170 35)) + k : Int).toNat (s7 170 34)) i from fun i => by show up1 ((zup s7 170 36 0) 186) (((2 : Int) * (st 170 35)) + k : Int).toNat (s7 170 34) i = up1 (st 186) (((2 : Int) * (st 170 35)) + k : Int).toNat (s7 170 34) i; rw [show (zup s7 170 36 0) 186 = (st 186) from funext (show ∀ i : Nat, (zup s7 170 36 0) 186 i = (st 186) i from (show ∀ i : Nat, s7 186 i = (st 186) i from fun i => (fs7 186 i rfl rfl).trans ((fun _ => rfl) i)))]) i))) i).trans (by show (up1 (st 186) (((2 : Int) * (st 170 35)) + k : Int).toNat (s7 170 34)) i = (up1 (st 186) (2 * st 170 35 + k : Int).toNat (st 170 34)) i; simp only [show s7 170 34 = st 170 34 from by omega]))) (fun i => (show up1 (s8 187) (2 * st 170 35 + k : Int).toNat (s8 170 34) i = up1 (st 187) (2 * st 170 35 + k : Int).toNat (s8 170 34) i from by rw [show s8 187 = st 187 from funext (fun i => (fs8 187 i rfl rfl).trans ((fun i => (fs7 187 i rfl rfl).trans ((fun _ => rfl) i)) i))]))
            exact Or.inl ⟨a8, by omega, (show RDr (zup s8 187 (((2 : Int) * (st 170 35)) + k : Int).toNat (s8 170 34)) t n from rd8), by omega, hR, by omega, _, cd8, hK⟩))⟩
        · refine ⟨by omega, ?_⟩
          exact hQ _ ⟨(gInv_up gs8 (p_sumBehind (by omega))), (fr_a (fr_tr (fr_a (fr_f (fr_tr (fr_rf _ _) fs7 rfl) rfl) rfl) fs8 rfl) rfl), (Z9_up (Z9_tr (Z9_up (Z9_up (Z9_fr fs7 (fun _ => rfl) rfl) (by decide)) (by decide)) ((show aFr m_rReading st (zup (zup s7 170 36 0) 186 (((2 : Int) * (st 170 35)) + k : Int).toNat (s7 170 34)) from (fr_a (fr_f (fr_tr (fr_rf _ _) fs7 rfl) rfl) rfl)) 170 35 rfl rfl) yq8) (by decide)), (show (gd = 1 ∧ s8 170 8 = 0 ∧ RDr (zup s8 187 (((2 : Int) * (st 170 35)) + k : Int).toNat (s8 170 34)) t n ∧ s8 170 4 = q2 ∧ RT (st 170 35) T1 (zup s8 187 (((2 : Int) * (st 170 35)) + k : Int).toNat (s8 170 34)) ∧ s8 170 34 ≤ s8 170 4 ∧ ∃ C' : List Int, CDr (s8 170 35) (s8 170 34) (s8 188) (s8 189) C' ∧ RK (s8 170 34) (st 170 35) T1 (zup s8 187 (((2 : Int) * (st 170 35)) + k : Int).toNat (s8 170 34))) ∨ (0 < s8 170 8 ∧ (gd = 0 ∨ ∃ v e : Int, tk t n q2 5 v e)) from (Or.inr ⟨by omega, l8⟩))⟩
      · refine ⟨by omega, ?_⟩
        refine ⟨by omega, ?_⟩
        refine ⟨fun h32 => (by exfalso; omega), fun h32 => ?_⟩
        refine ⟨rfl, ⟨(gInv_up (gInv_up gs7 (p_isClever (by omega))) (p_sumFrom (by omega))), (show RDr (zup (zup s7 170 36 1) 186 (((2 : Int) * (st 170 35)) + k : Int).toNat (s7 170 34)) t n from (show RDr (zup (zup s7 170 36 1) 186 (((2 : Int) * (st 170 35)) + k : Int).toNat (s7 170 34)) t n from rd7)), (show s7 170 8 = 0 ∧ s7 170 34 + 1 ≤ s7 170 4 from by omega), (show CDr (s7 170 35) (s7 170 34) (s7 188) (s7 189) (C) from (by rw [show s7 170 35 = st 170 35 from by omega, show s7 170 34 = st 170 34 from by omega, show s7 188 = st 188 from funext (fun i => (fs7 188 i rfl rfl).trans ((fun _ => rfl) i)), show s7 189 = st 189 from funext (fun i => (fs7 189 i rfl rfl).trans ((fun _ => rfl) i))]; exact cd)), (show RDD t n ((1 : Int) = 1) (1) gd q2 gc (s7 170 4) from (by
            have hT : T 0 (17 + k).toNat = -1 := by
              rcases hk with rfl | rfl
              · exact rt.2.2.2.2.2.2.1.mp (by rw [show (2 * st 170 35 + 0 : Int).toNat = (((2 : Int) * (st 170 35)) + 0 : Int).toNat by omega]; omega)
              · exact rt.2.2.2.2.2.2.2.mp (by rw [show (2 * st 170 35 + 1 : Int).toNat = (((2 : Int) * (st 170 35)) + 1 : Int).toNat by omega]; omega)
            rw [ee7]
            have z := hgc.2 hT
            exact z.2 (by omega)))⟩, fun s11 q11 => ?_⟩
        obtain ⟨gs11, fs11, yq11, o11⟩ := q11
        change (gd = 1 ∧ s11 170 8 = 0 ∧ s11 170 4 = q2 ∧ RDr s11 t n ∧ CDr (s11 170 35) (s11 170 34) (s11 188) (s11 189) (C ++ gc)) ∨ (0 < s11 170 8 ∧ (gd = 0 ∨ ∃ v e : Int, tk t n q2 5 v e)) at o11
        have g33 := g_faultKind gs11
        have g34 := g_signAt gs11
        have e35 : s11 170 35 = s7 170 35 := fs11 170 35 rfl rfl
        have g36 := g_codes gs11
        have g37 := g_lexAt gs11
        rcases o11 with ⟨a11, y11, p11, rd11, cd11⟩ | ⟨y11, l11⟩
        · refine ⟨by omega, ?_⟩
          exact hQ _ ⟨(gInv_up gs11 (p_sumBehind (by omega))), (fr_a (fr_tr (fr_a (fr_f (fr_tr (fr_rf _ _) fs7 rfl) rfl) rfl) fs11 rfl) rfl), (Z9_up (Z9_tr (Z9_up (Z9_up (Z9_fr fs7 (fun _ => rfl) rfl) (by decide)) (by decide)) ((show aFr m_rReading st (zup (zup s7 170 36 1) 186 (((2 : Int) * (st 170 35)) + k : Int).toNat (s7 170 34)) from (fr_a (fr_f (fr_tr (fr_rf _ _) fs7 rfl) rfl) rfl)) 170 35 rfl rfl) yq11) (by decide)), (show (gd = 1 ∧ s11 170 8 = 0 ∧ RDr (zup s11 187 (((2 : Int) * (st 170 35)) + k : Int).toNat (s11 170 34)) t n ∧ s11 170 4 = q2 ∧ RT (st 170 35) T1 (zup s11 187 (((2 : Int) * (st 170 35)) + k : Int).toNat (s11 170 34)) ∧ s11 170 34 ≤ s11 170 4 ∧ ∃ C' : List Int, CDr (s11 170 35) (s11 170 34) (s11 188) (s11 189) C' ∧ RK (s11 170 34) (st 170 35) T1 (zup s11 187 (((2 : Int) * (st 170 35)) + k : Int).toNat (s11 170 34))) ∨ (0 < s11 170 8 ∧ (gd = 0 ∨ ∃ v e : Int, tk t n q2 5 v e)) from (by
            have hz := hgc.1 a11
            have ln := cd11.1
            rw [List.length_append] at ln
            have lc := cd.1
            have hR : RT (st 170 35) T1 (zup s11 187 (((2 : Int) * (st 170 35)) + k : Int).toNat (s11 170 34)) := by
              have h186 : ∀ i : Nat, (zup s11 187 (((2 : Int) * (st 170 35)) + k : Int).toNat (s11 170 34)) 186 i = up1 (st 186) (2 * st 170 35 + k : Int).toNat (st 170 34) i := (fun i => ((show ∀ i : Nat, (zup s11 187 (((2 : Int) * (st 170 35)) + k : Int).toNat (s11 170 34)) 186 i = (up1 (st 186) (((2 : Int) * (st 170 35)) + k : Int).toNat (s7 170 34)) i from (show ∀ i : Nat, s11 186 i = (up1 (st 186) (((2 : Int) * (st 170 35)) + k : Int).toNat (s7 170 34)) i from fun i => (fs11 186 i rfl rfl).trans ((show ∀ i : Nat, (zup (zup s7 170 36 1) 186 (((2 : Int) * (st 170 35)) + k : Int).toNat (s7 170 34)) 186 i = (up1 (st 186) (((2 : Int) * (st 170 35)) + k : Int).toNat (s7 170 34)) i from fun i => by show up1 ((zup s7 170 36 1) 186) (((2 : Int) * (st 170 35)) + k : Int).toNat (s7 170 34) i = up1 (st 186) (((2 : Int) * (st 170 35)) + k : Int).toNat (s7 170 34) i; rw [show (zup s7 170 36 1) 186 = (st 186) from funext (show ∀ i : Nat, (zup s7 170 36 1) 186 i = (st 186) i from (show ∀ i : Nat, s7 186 i = (st 186) i from fun i => (fs7 186 i rfl rfl).trans ((fun _ => rfl) i)))]) i))) i).trans (by show (up1 (st 186) (((2 : Int) * (st 170 35)) + k : Int).toNat (s7 170 34)) i = (up1 (st 186) (2 * st 170 35 + k : Int).toNat (st 170 34)) i; simp only [show s7 170 34 = st 170 34 from by omega]))
              have hot : ∀ c i : Nat, 172 ≤ c → c ≤ 191 → ¬ c = 186 → ¬ c = 187 → ¬ c = 188 → ¬ c = 189 → (zup s11 187 (((2 : Int) * (st 170 35)) + k : Int).toNat (s11 170 34)) c i = st c i := (by
              exact fun c i h1 h2 y0 y1 y2 y3 => by
                rcases (show c = 172 ∨ c = 173 ∨ c = 174 ∨ c = 175 ∨ c = 176 ∨ c = 177 ∨ c = 178 ∨ c = 179 ∨ c = 180 ∨ c = 181 ∨ c = 182 ∨ c = 183 ∨ c = 184 ∨ c = 185 ∨ c = 190 ∨ c = 191 from by omega) with rfl | rfl | rfl | rfl | rfl | rfl | rfl | rfl | rfl | rfl | rfl | rfl | rfl | rfl | rfl | rfl
                · exact (fun i => (fs11 172 i rfl rfl).trans ((fun i => (fs7 172 i rfl rfl).trans ((fun _ => rfl) i)) i)) i
                · exact (fun i => (fs11 173 i rfl rfl).trans ((fun i => (fs7 173 i rfl rfl).trans ((fun _ => rfl) i)) i)) i
                · exact (fun i => (fs11 174 i rfl rfl).trans ((fun i => (fs7 174 i rfl rfl).trans ((fun _ => rfl) i)) i)) i
                · exact (fun i => (fs11 175 i rfl rfl).trans ((fun i => (fs7 175 i rfl rfl).trans ((fun _ => rfl) i)) i)) i
                · exact (fun i => (fs11 176 i rfl rfl).trans ((fun i => (fs7 176 i rfl rfl).trans ((fun _ => rfl) i)) i)) i
                · exact (fun i => (fs11 177 i rfl rfl).trans ((fun i => (fs7 177 i rfl rfl).trans ((fun _ => rfl) i)) i)) i
                · exact (fun i => (fs11 178 i rfl rfl).trans ((fun i => (fs7 178 i rfl rfl).trans ((fun _ => rfl) i)) i)) i
                · exact (fun i => (fs11 179 i rfl rfl).trans ((fun i => (fs7 179 i rfl rfl).trans ((fun _ => rfl) i)) i)) i
                · exact (fun i => (fs11 180 i rfl rfl).trans ((fun i => (fs7 180 i rfl rfl).trans ((fun _ => rfl) i)) i)) i
                · exact (fun i => (fs11 181 i rfl rfl).trans ((fun i => (fs7 181 i rfl rfl).trans ((fun _ => rfl) i)) i)) i
                · exact (fun i => (fs11 182 i rfl rfl).trans ((fun i => (fs7 182 i rfl rfl).trans ((fun _ => rfl) i)) i)) i
                · exact (fun i => (fs11 183 i rfl rfl).trans ((fun i => (fs7 183 i rfl rfl).trans ((fun _ => rfl) i)) i)) i
                · exact (fun i => (fs11 184 i rfl rfl).trans ((fun i => (fs7 184 i rfl rfl).trans ((fun _ => rfl) i)) i)) i
                · exact (fun i => (fs11 185 i rfl rfl).trans ((fun i => (fs7 185 i rfl rfl).trans ((fun _ => rfl) i)) i)) i
                · exact (fun i => (fs11 190 i rfl rfl).trans ((fun i => (fs7 190 i rfl rfl).trans ((fun _ => rfl) i)) i)) i
                · exact (fun i => (fs11 191 i rfl rfl).trans ((fun i => (fs7 191 i rfl rfl).trans ((fun _ => rfl) i)) i)) i)
              rcases gh with ⟨hk0, ⟨g, h⟩ | ⟨g, h⟩⟩ | ⟨hk0, ⟨g, h⟩ | ⟨g, h⟩⟩
              · obtain ⟨h1, c, n1, h2, h3, h4, h5, h6, h7⟩ := h
                subst hk0
                exact RT_rd (k := 0) (v := st 170 34) (by omega) rt (Or.inl rfl) (by omega) (fun c i z1 z2 => h7 c i (by omega) z2) (show 0 ≤ T1 0 17 from by have z := h3.1; omega) h186 hot
              · omega
              · obtain ⟨h1, c, n1, h2, h3, h4, h5, h6, h7⟩ := h
                subst hk0
                exact RT_rd (k := 1) (v := st 170 34) (by omega) rt (Or.inr rfl) (by omega) (fun c i z1 z2 => h7 c i (by omega) z2) (show 0 ≤ T1 0 18 from by have z := h3.1; omega) h186 hot
              · omega
            obtain ⟨n1, w1, w2, w3, w4, w5, w6⟩ := (hg3 ()) a11
            have e34 : st 170 34 = (C.length : Int) := cd.1
            have hK : RK (s11 170 34) (st 170 35) T1 (zup s11 187 (((2 : Int) * (st 170 35)) + k : Int).toNat (s11 170 34)) := RK_rd (C := C) (st := st) (T := T) hk (by rw [← e34]; exact rk) w1.1 w1 w2 w3 w4 w5 w6 (by omega) (by rw [← e34]; exact cd) (show CDr (st 170 35) (s11 170 34) (s11 188) (s11 189) (C ++ gc) from by rw [← show s11 170 35 = st 170 35 from by omega]; exact cd11) (by rw [← e34]; exact (fun i => ((show ∀ i : Nat, (zup s11 187 (((2 : Int) * (st 170 35)) + k : Int).toNat (s11 170 34)) 186 i = (up1 (st 186) (((2 : Int) * (st 170 35)) + k : Int).toNat (s7 170 34)) i from (show ∀ i : Nat, s11 186 i = (up1 (st 186) (((2 : Int) * (st 170 35)) + k : Int).toNat (s7 170 34)) i from fun i => (fs11 186 i rfl rfl).trans ((show ∀ i : Nat, (zup (zup s7 170 36 1) 186 (((2 : Int) * (st 170 35)) + k : Int).toNat (s7 170 34)) 186 i = (up1 (st 186) (((2 : Int) * (st 170 35)) + k : Int).toNat (s7 170 34)) i from fun i => by show up1 ((zup s7 170 36 1) 186) (((2 : Int) * (st 170 35)) + k : Int).toNat (s7 170 34) i = up1 (st 186) (((2 : Int) * (st 170 35)) + k : Int).toNat (s7 170 34) i; rw [show (zup s7 170 36 1) 186 = (st 186) from funext (show ∀ i : Nat, (zup s7 170 36 1) 186 i = (st 186) i from (show ∀ i : Nat, s7 186 i = (st 186) i from fun i => (fs7 186 i rfl rfl).trans ((fun _ => rfl) i)))]) i))) i).trans (by show (up1 (st 186) (((2 : Int) * (st 170 35)) + k : Int).toNat (s7 170 34)) i = (up1 (st 186) (2 * st 170 35 + k : Int).toNat (st 170 34)) i; simp only [show s7 170 34 = st 170 34 from by omega]))) (fun i => (show up1 (s11 187) (2 * st 170 35 + k : Int).toNat (s11 170 34) i = up1 (st 187) (2 * st 170 35 + k : Int).toNat (s11 170 34) i from by rw [show s11 187 = st 187 from funext (fun i => (fs11 187 i rfl rfl).trans ((fun i => (fs7 187 i rfl rfl).trans ((fun _ => rfl) i)) i))]))
            exact Or.inl ⟨a11, by omega, (show RDr (zup s11 187 (((2 : Int) * (st 170 35)) + k : Int).toNat (s11 170 34)) t n from rd11), by omega, hR, by omega, _, cd11, hK⟩))⟩
        · refine ⟨by omega, ?_⟩
          exact hQ _ ⟨(gInv_up gs11 (p_sumBehind (by omega))), (fr_a (fr_tr (fr_a (fr_f (fr_tr (fr_rf _ _) fs7 rfl) rfl) rfl) fs11 rfl) rfl), (Z9_up (Z9_tr (Z9_up (Z9_up (Z9_fr fs7 (fun _ => rfl) rfl) (by decide)) (by decide)) ((show aFr m_rReading st (zup (zup s7 170 36 1) 186 (((2 : Int) * (st 170 35)) + k : Int).toNat (s7 170 34)) from (fr_a (fr_f (fr_tr (fr_rf _ _) fs7 rfl) rfl) rfl)) 170 35 rfl rfl) yq11) (by decide)), (show (gd = 1 ∧ s11 170 8 = 0 ∧ RDr (zup s11 187 (((2 : Int) * (st 170 35)) + k : Int).toNat (s11 170 34)) t n ∧ s11 170 4 = q2 ∧ RT (st 170 35) T1 (zup s11 187 (((2 : Int) * (st 170 35)) + k : Int).toNat (s11 170 34)) ∧ s11 170 34 ≤ s11 170 4 ∧ ∃ C' : List Int, CDr (s11 170 35) (s11 170 34) (s11 188) (s11 189) C' ∧ RK (s11 170 34) (st 170 35) T1 (zup s11 187 (((2 : Int) * (st 170 35)) + k : Int).toNat (s11 170 34))) ∨ (0 < s11 170 8 ∧ (gd = 0 ∨ ∃ v e : Int, tk t n q2 5 v e)) from (Or.inr ⟨by omega, l11⟩))⟩
    · exfalso; omega
    · exfalso; omega
  · refine ⟨rfl, ⟨hG, (show RDr st t n from rd), (show st 170 8 = 0 ∧ st 170 12 = -1 ∧ ((1) = 0 ∨ (1) = 1) from by omega)⟩, fun r12 s12 q12 => ?_⟩
    obtain ⟨gs12, fs12, o12⟩ := q12
    change (s12 170 8 = 0 ∧ st 170 8 = 0 ∧ r12 = 1 ∧ (1) = 0 ∧ RDr s12 t n ∧ NXr st s12 t n) ∨ (0 < s12 170 8 ∧ st 170 8 = 0 ∧ r12 = 0 ∧ (1) = 1) ∨ (0 < s12 170 8 ∧ 0 < st 170 8) at o12
    have g38 := g_faultKind gs12
    have e39 : s12 170 35 = st 170 35 := fs12 170 35 rfl rfl
    have g40 := g_signAt gs12
    have g41 := g_lexAt gs12
    have e42 : s12 170 34 = st 170 34 := fs12 170 34 rfl rfl
    rcases o12 with ⟨y12, z12, k12, f12, rd12, nx12⟩ | ⟨y12, z12, k12, f12⟩ | ⟨y12, z12⟩
    · exfalso; omega
    · refine ⟨fun h43 => (by exfalso; omega), fun h43 => ?_⟩
      exact hQ _ ⟨gs12, (fr_tr (fr_rf _ _) fs12 rfl), (Z9_fr fs12 (fun _ => rfl) rfl), (show (gd = 1 ∧ s12 170 8 = 0 ∧ RDr s12 t n ∧ s12 170 4 = q2 ∧ RT (st 170 35) T1 s12 ∧ s12 170 34 ≤ s12 170 4 ∧ ∃ C' : List Int, CDr (s12 170 35) (s12 170 34) (s12 188) (s12 189) C' ∧ RK (s12 170 34) (st 170 35) T1 s12) ∨ (0 < s12 170 8 ∧ (gd = 0 ∨ ∃ v e : Int, tk t n q2 5 v e)) from (by
            refine Or.inr ⟨by omega, Or.inl ?_⟩
            rcases gh with ⟨rfl, ⟨g, h⟩ | ⟨g, h⟩⟩ | ⟨rfl, ⟨g, h⟩ | ⟨g, h⟩⟩
            · exfalso
              have z := rt.2.2.2.2.2.2.1.mpr h.1
              rw [show (2 * st 170 35 + 0 : Int).toNat = (((2 : Int) * (st 170 35)) + 0 : Int).toNat by omega] at z
              omega
            · exact g
            · exfalso
              have z := rt.2.2.2.2.2.2.2.mpr h.1
              rw [show (2 * st 170 35 + 1 : Int).toNat = (((2 : Int) * (st 170 35)) + 1 : Int).toNat by omega] at z
              omega
            · exact g))⟩
    · exfalso; omega
theorem k_rReading_m (hTb : aTb zSh rx_tb cl) {t : Int → Int} {n : Int} {T : zS} {wv e : Int} {C : List Int} {T1 : zS} {q2 gd : Int} {D : Nat} (hD : 6 ≤ D) : ∀ as st (Q Q' : zQ), (∀ r st', Q r st' → Q' r st') → (k_rReading t n T wv e C T1 q2 gd) 208 as st Q → cl D 208 as st Q' := by
  intro as st Q Q' hQ h
  unfold k_rReading at h
  split at h
  · obtain ⟨rfl, h⟩ := h
    exact c_rReading hTb hD (ct_rReading_m hQ h)
  · exact h.elim
set_option maxHeartbeats 4000000 in
set_option maxRecDepth 100000 in
theorem c_rStmt (hTb : aTb zSh rx_tb cl) {t : Int → Int} {n : Int} {T : zS} {C : List Int} {gd : Int} {gi : Nat} {ge : Int} {T1 : zS} {q2 : Int} {D : Nat} (hD : 7 ≤ D) {st : zS} {Q : zQ} (h : ct_rStmt t n T C gd gi ge T1 q2 st Q) : cl D 210 [.inr (.inr (.inl 170))] st Q := by
  obtain ⟨d, rfl⟩ : ∃ d, D = d + 1 := ⟨D - 1, by omega⟩
  refine hTb d 210 (rx_m210, 1, 0, 0, 0) rfl _ _ _ (Nat.le_of_ble_eq_true rfl) (fun K hcl hsf hsl => ?_)
  obtain ⟨hR, hQ⟩ := h
  obtain ⟨hG, rd, rt, q, cd, rk, gh⟩ := hR
  change RDr st t n at rd
  change RT (st 170 35) T st at rt
  change st 170 8 = 0 ∧ st 170 34 ≤ st 170 4 at q
  change CDr (st 170 35) (st 170 34) (st 188) (st 189) C at cd
  change RK (st 170 34) (st 170 35) T st at rk
  change SGH t n T (st 170 4) gd gi ge T1 q2 at gh
  have g1 := g_in hG
  have g2 := g_faultKind hG
  have g3 := g_codes hG
  have g4 := g_signAt hG
  obtain ⟨f0, cb⟩ := q
  obtain ⟨k0, v0, e0, hk0⟩ := RDr_tk rd
  have hcm : zmo (wcL [(181, k_rLexX), (183, k_isWord), (204, k_rPlacing t n T v0 e0), (205, k_rStreeting t n T v0 e0), (206, k_rStepping t n T v0 e0), (207, k_rThinging t n T v0 e0), (208, k_rReading t n T v0 e0 C T1 q2 gd), (209, k_rHeating t n T v0 e0), (178, k_blame)]) (cl d) := (wcL_m (wm_cons (k_rLexX_m hTb (by omega)) (wm_cons (k_isWord_m hTb (by omega)) (wm_cons (k_rPlacing_m hTb (by omega)) (wm_cons (k_rStreeting_m hTb (by omega)) (wm_cons (k_rStepping_m hTb (by omega)) (wm_cons (k_rThinging_m hTb (by omega)) (wm_cons (k_rReading_m hTb (by omega)) (wm_cons (k_rHeating_m hTb (by omega)) (wm_cons (k_blame_m hTb (by omega)) wm_nil))))))))))
  have g5 := g_sign hG
  have g6 := g_word hG
  have g7 := g_lexAt hG
  refine yr1_ok (Rt := Q) (wc := (wcL [(181, k_rLexX), (183, k_isWord), (204, k_rPlacing t n T v0 e0), (205, k_rStreeting t n T v0 e0), (206, k_rStepping t n T v0 e0), (207, k_rThinging t n T v0 e0), (208, k_rReading t n T v0 e0 C T1 q2 gd), (209, k_rHeating t n T v0 e0), (178, k_blame)])) (stp := []) hcm hcl [] 92 ?_
  show (170 = 170 ∧ (rq_rLexX  st ∧ (∀ (s8 : zS), en_rLexX  st s8 → ((s8 170 8 ≤ (0 : Int) → (170 = 170 ∧ (∀ (r9 : Int), en_isWord (482854658917) s8 r9 → ((r9 = (0 : Int) → (170 = 170 ∧ (∀ (r10 : Int), en_isWord (126943972648308) s8 r10 → ((r10 = (0 : Int) → (170 = 170 ∧ (∀ (r11 : Int), en_isWord (1937007984) s8 r11 → ((r11 = (0 : Int) → (170 = 170 ∧ (∀ (r12 : Int), en_isWord (499967946343) s8 r12 → ((r12 = (0 : Int) → (170 = 170 ∧ (∀ (r13 : Int), en_isWord (126943688025203) s8 r13 → ((r13 = (0 : Int) → (170 = 170 ∧ (∀ (r14 : Int), en_isWord (109317209875826) s8 r14 → ((r14 = (0 : Int) → (170 = 170 ∧ (∀ (r15 : Int), en_isWord (1751474548) s8 r15 → ((r15 = (0 : Int) → (170 = 170 ∧ (∀ (r16 : Int), en_isWord (6844276) s8 r16 → ((r16 = (0 : Int) → (170 = 170 ∧ (rq_blame (1) (s8 170 4) s8 ∧ (∀ (s17 : zS), en_blame (1) (s8 170 4) s8 s17 → Q none s17)))) ∧ (¬ (r16 = (0 : Int)) → (170 = 170 ∧ (rq_rHeating t n T v0 e0 (1) s8 ∧ (∀ (s18 : zS), en_rHeating t n T v0 e0 (1) s8 s18 → Q none s18)))))))) ∧ (¬ (r15 = (0 : Int)) → (170 = 170 ∧ (rq_rHeating t n T v0 e0 (0) s8 ∧ (∀ (s19 : zS), en_rHeating t n T v0 e0 (0) s8 s19 → Q none s19)))))))) ∧ (¬ (r14 = (0 : Int)) → (170 = 170 ∧ (rq_rReading t n T v0 e0 C T1 q2 gd (1) s8 ∧ (∀ (s20 : zS), en_rReading t n T v0 e0 C T1 q2 gd (1) s8 s20 → Q none s20)))))))) ∧ (¬ (r13 = (0 : Int)) → (170 = 170 ∧ (rq_rReading t n T v0 e0 C T1 q2 gd (0) s8 ∧ (∀ (s21 : zS), en_rReading t n T v0 e0 C T1 q2 gd (0) s8 s21 → Q none s21)))))))) ∧ (¬ (r12 = (0 : Int)) → (170 = 170 ∧ (rq_rThinging t n T v0 e0  s8 ∧ (∀ (s22 : zS), en_rThinging t n T v0 e0  s8 s22 → Q none s22)))))))) ∧ (¬ (r11 = (0 : Int)) → (170 = 170 ∧ (rq_rStepping t n T v0 e0  s8 ∧ (∀ (s23 : zS), en_rStepping t n T v0 e0  s8 s23 → Q none s23)))))))) ∧ (¬ (r10 = (0 : Int)) → (170 = 170 ∧ (rq_rStreeting t n T v0 e0  s8 ∧ (∀ (s24 : zS), en_rStreeting t n T v0 e0  s8 s24 → Q none s24)))))))) ∧ (¬ (r9 = (0 : Int)) → (170 = 170 ∧ (rq_rPlacing t n T v0 e0  s8 ∧ (∀ (s25 : zS), en_rPlacing t n T v0 e0  s8 s25 → Q none s25)))))))) ∧ (¬ (s8 170 8 ≤ (0 : Int)) → Q none s8)))))
  refine ⟨rfl, hG, fun s8 q8 => ?_⟩
  obtain ⟨gs8, fs8, p8⟩ := q8
  change (0 < st 170 8 → 0 < s8 170 8) ∧ (st 170 8 = 0 → st 170 12 = -1 → s8 170 8 = 0) ∧ (¬ st 170 12 = -1 → 0 < s8 170 8) at p8
  have g26 := g_faultKind gs8
  refine ⟨fun h27 => ?_, fun h27 => ?_⟩
  · refine ⟨rfl, fun r9 q9 => ?_⟩
    have b9 := q9
    change (r9 = 0 ∨ r9 = 1) ∧ (r9 = 1 ↔ s8 170 3 = 1 ∧ s8 170 7 = (482854658917)) at b9
    have e28 : s8 170 3 = st 170 3 := fs8 170 3 rfl rfl
    have e29 : s8 170 7 = st 170 7 := fs8 170 7 rfl rfl
    refine ⟨fun h30 => ?_, fun h30 => ?_⟩
    · have zw9 : NWq st 482854658917 := by unfold NWq; obtain ⟨b1, b2⟩ := b9; omega
      clear h30 b9
      refine ⟨rfl, fun r10 q10 => ?_⟩
      have b10 := q10
      change (r10 = 0 ∨ r10 = 1) ∧ (r10 = 1 ↔ s8 170 3 = 1 ∧ s8 170 7 = (126943972648308)) at b10
      refine ⟨fun h31 => ?_, fun h31 => ?_⟩
      · have zw10 : NWq st 126943972648308 := by unfold NWq; obtain ⟨b1, b2⟩ := b10; omega
        clear h31 b10
        refine ⟨rfl, fun r11 q11 => ?_⟩
        have b11 := q11
        change (r11 = 0 ∨ r11 = 1) ∧ (r11 = 1 ↔ s8 170 3 = 1 ∧ s8 170 7 = (1937007984)) at b11
        refine ⟨fun h32 => ?_, fun h32 => ?_⟩
        · have zw11 : NWq st 1937007984 := by unfold NWq; obtain ⟨b1, b2⟩ := b11; omega
          clear h32 b11
          refine ⟨rfl, fun r12 q12 => ?_⟩
          have b12 := q12
          change (r12 = 0 ∨ r12 = 1) ∧ (r12 = 1 ↔ s8 170 3 = 1 ∧ s8 170 7 = (499967946343)) at b12
          refine ⟨fun h33 => ?_, fun h33 => ?_⟩
          · have zw12 : NWq st 499967946343 := by unfold NWq; obtain ⟨b1, b2⟩ := b12; omega
            clear h33 b12
            refine ⟨rfl, fun r13 q13 => ?_⟩
            have b13 := q13
            change (r13 = 0 ∨ r13 = 1) ∧ (r13 = 1 ↔ s8 170 3 = 1 ∧ s8 170 7 = (126943688025203)) at b13
            refine ⟨fun h34 => ?_, fun h34 => ?_⟩
            · have zw13 : NWq st 126943688025203 := by unfold NWq; obtain ⟨b1, b2⟩ := b13; omega
              clear h34 b13
              refine ⟨rfl, fun r14 q14 => ?_⟩
              have b14 := q14
              change (r14 = 0 ∨ r14 = 1) ∧ (r14 = 1 ↔ s8 170 3 = 1 ∧ s8 170 7 = (109317209875826)) at b14
              refine ⟨fun h35 => ?_, fun h35 => ?_⟩
              · have zw14 : NWq st 109317209875826 := by unfold NWq; obtain ⟨b1, b2⟩ := b14; omega
                clear h35 b14
                refine ⟨rfl, fun r15 q15 => ?_⟩
                have b15 := q15
                change (r15 = 0 ∨ r15 = 1) ∧ (r15 = 1 ↔ s8 170 3 = 1 ∧ s8 170 7 = (1751474548)) at b15
                refine ⟨fun h36 => ?_, fun h36 => ?_⟩
                · have zw15 : NWq st 1751474548 := by unfold NWq; obtain ⟨b1, b2⟩ := b15; omega
                  clear h36 b15
                  refine ⟨rfl, fun r16 q16 => ?_⟩
                  have b16 := q16
                  change (r16 = 0 ∨ r16 = 1) ∧ (r16 = 1 ↔ s8 170 3 = 1 ∧ s8 170 7 = (6844276)) at b16
                  refine ⟨fun h37 => ?_, fun h37 => ?_⟩
                  · have zw16 : NWq st 6844276 := by unfold NWq; obtain ⟨b1, b2⟩ := b16; omega
                    clear h37 b16
                    have e38 : s8 170 4 = st 170 4 := fs8 170 4 rfl rfl
                    refine ⟨rfl, ⟨gs8, (show 1 ≤ (1) ∧ (1) ≤ 6 from by omega), (show -2147483648 ≤ (s8 170 4) ∧ (s8 170 4) ≤ 2147483647 from by omega)⟩, fun s17 q17 => ?_⟩
                    obtain ⟨gs17, fs17, p17⟩ := q17
                    change (s8 170 8 = 0 → s17 170 8 = (1)) ∧ (0 < s8 170 8 → s17 170 8 = s8 170 8) at p17
                    have g39 := g_faultKind gs17
                    have e40 : s17 170 4 = s8 170 4 := fs17 170 4 rfl rfl
                    have e42 : s8 170 34 = st 170 34 := fs8 170 34 rfl rfl
                    have e41 : s17 170 34 = s8 170 34 := fs17 170 34 rfl rfl
                    have e44 : s8 170 35 = st 170 35 := fs8 170 35 rfl rfl
                    have e43 : s17 170 35 = s8 170 35 := fs17 170 35 rfl rfl
                    exact hQ _ ⟨gs17, (fr_tr (fr_tr (fr_rf _ _) fs8 rfl) fs17 rfl), (Z9_tr (Z9_fr fs8 (fun _ => rfl) rfl) ((show aFr m_rStmt st s8 from (fr_tr (fr_rf _ _) fs8 rfl)) 170 35 rfl rfl) (Z9_fr fs17 (fun _ => rfl) rfl)), (show (gd = 1 ∧ s17 170 8 = 0 ∧ RDr s17 t n ∧ s17 170 4 = q2 ∧ RT (st 170 35) T1 s17 ∧ s17 170 34 ≤ s17 170 4 ∧ ∃ C' : List Int, CDr (s17 170 35) (s17 170 34) (s17 188) (s17 189) C' ∧ RK (s17 170 34) (st 170 35) T1 s17) ∨ (0 < s17 170 8 ∧ (gd = 0 ∨ ∃ v e : Int, tk t n q2 5 v e)) from (by
            refine Or.inr ⟨by omega, Or.inl ?_⟩
            have gg : gd = 1 ∨ gd = 0 := by rcases gh with ⟨g, -⟩ | ⟨g, -⟩; exact Or.inl g; exact Or.inr g
            rcases gg with g | g
            · exfalso
              refine ST_no (fun i e hi hk => ?_) gh g
              have z := r_wrd rd hk
              have y0 : ¬ i = 0 := fun y => by
                subst y
                have w0 : owv 0 = 482854658917 := rfl
                unfold NWq at zw9
                omega
              have y1 : ¬ i = 1 := fun y => by
                subst y
                have w0 : owv 1 = 126943972648308 := rfl
                unfold NWq at zw10
                omega
              have y4 : ¬ i = 4 := fun y => by
                subst y
                have w0 : owv 4 = 1937007984 := rfl
                unfold NWq at zw11
                omega
              have y6 : ¬ i = 6 := fun y => by
                subst y
                have w0 : owv 6 = 499967946343 := rfl
                unfold NWq at zw12
                omega
              have y9 : ¬ i = 9 := fun y => by
                subst y
                have w0 : owv 9 = 126943688025203 := rfl
                unfold NWq at zw13
                omega
              have y10 : ¬ i = 10 := fun y => by
                subst y
                have w0 : owv 10 = 109317209875826 := rfl
                unfold NWq at zw14
                omega
              have y11 : ¬ i = 11 := fun y => by
                subst y
                have w0 : owv 11 = 1751474548 := rfl
                unfold NWq at zw15
                omega
              have y12 : ¬ i = 12 := fun y => by
                subst y
                have w0 : owv 12 = 6844276 := rfl
                unfold NWq at zw16
                omega
              exact ⟨y0, y1, y4, y6, y9, y10, y11, y12⟩
            · exact g))⟩
                  · have zw16 : st 170 3 = 1 ∧ st 170 7 = 6844276 := by obtain ⟨b1, b2⟩ := b16; omega
                    clear h37 b16
                    have e45 : s8 170 35 = st 170 35 := fs8 170 35 rfl rfl
                    have e46 : s8 170 12 = st 170 12 := fs8 170 12 rfl rfl
                    have e47 : s8 170 4 = st 170 4 := fs8 170 4 rfl rfl
                    refine ⟨rfl, ⟨gs8, (show RDr s8 t n from (RDr_of (fs8 170 2 rfl rfl) (fun i => fs8 171 i rfl rfl) (fs8 170 3 rfl rfl) (fs8 170 4 rfl rfl) (fs8 170 5 rfl rfl) (fs8 170 6 rfl rfl) (fs8 170 7 rfl rfl) (fs8 170 12 rfl rfl) rd)), (show RT (s8 170 35) T s8 from (by rw [show s8 170 35 = st 170 35 from by omega]; exact RT_fr rfl fs8 rt)), (show s8 170 8 = 0 ∧ s8 170 12 = -1 from by omega), (show tk t n (s8 170 4) 1 v0 e0 from (by
            have z := RDr_rv rd hk0
            have zk : k0 = 1 := by unfold RV at z; omega
            rw [show s8 170 4 = st 170 4 from by omega]
            rw [zk] at hk0
            exact hk0)), (show (1) = 0 ∨ (1) = 1 from by omega)⟩, fun s18 q18 => ?_⟩
                    obtain ⟨gs18, fs18, o18⟩ := q18
                    change ((1) = 0 → BO (s18 170 8) (RDr s18 t n) (fun T' q => bHe t n T e0 T' q 13 40) (s18 170 4) (fun T' => RT (s8 170 35) T' s18)) ∧ ((1) = 1 → BO (s18 170 8) (RDr s18 t n) (fun T' q => bHe t n T e0 T' q 14 100) (s18 170 4) (fun T' => RT (s8 170 35) T' s18)) at o18
                    have g48 := g_faultKind gs18
                    have g49 := g_signAt gs18
                    have e50 : s18 170 35 = s8 170 35 := fs18 170 35 rfl rfl
                    have g51 := g_lexAt gs18
                    have e53 : s8 170 34 = st 170 34 := fs8 170 34 rfl rfl
                    have e52 : s18 170 34 = s8 170 34 := fs18 170 34 rfl rfl
                    exact hQ _ ⟨gs18, (fr_tr (fr_tr (fr_rf _ _) fs8 rfl) fs18 rfl), (Z9_tr (Z9_fr fs8 (fun _ => rfl) rfl) ((show aFr m_rStmt st s8 from (fr_tr (fr_rf _ _) fs8 rfl)) 170 35 rfl rfl) (Z9_fr fs18 (fun _ => rfl) rfl)), (show (gd = 1 ∧ s18 170 8 = 0 ∧ RDr s18 t n ∧ s18 170 4 = q2 ∧ RT (st 170 35) T1 s18 ∧ s18 170 34 ≤ s18 170 4 ∧ ∃ C' : List Int, CDr (s18 170 35) (s18 170 34) (s18 188) (s18 189) C' ∧ RK (s18 170 34) (st 170 35) T1 s18) ∨ (0 < s18 170 8 ∧ (gd = 0 ∨ ∃ v e : Int, tk t n q2 5 v e)) from (by
            have hk1 : tk t n (st 170 4) 1 (owv 12) e0 := by
              have z := RDr_rv rd hk0
              have zk : k0 = 1 ∧ v0 = 6844276 := by unfold RV at z; omega
              rw [zk.1, zk.2] at hk0
              exact hk0
            have z := ST_cl 12 (by omega) rfl hk1 (o18.2 (by omega)) gh
            have gg : gd = 1 ∨ gd = 0 := by rcases gh with ⟨g, -⟩ | ⟨g, -⟩; exact Or.inl g; exact Or.inr g
            rcases gg with g | g
            · obtain ⟨y1, y2, y3, y4⟩ := z.1 g
              rw [show s8 170 35 = st 170 35 from by omega] at y4
              have yl : e0 ≤ q2 ∧ st 170 4 < e0 := by
                have l1 := tk_lt hk1 rd.2.1.1 (by omega)
                rcases gh with ⟨-, g2, g3, g4⟩ | ⟨g0, -⟩
                · obtain ⟨-, -, u3⟩ := tk_u hk1 g3
                  have l2 := sB_le g4 (by omega)
                  omega
                · omega
              have cd2 : CDr (s18 170 35) (s18 170 34) (s18 188) (s18 189) C := by rw [show s18 170 35 = st 170 35 from by omega, show s18 170 34 = st 170 34 from by omega, show s18 188 = st 188 from funext (fun i => (fs18 188 i rfl rfl).trans ((fun i => (fs8 188 i rfl rfl).trans ((fun _ => rfl) i)) i)), show s18 189 = st 189 from funext (fun i => (fs18 189 i rfl rfl).trans ((fun i => (fs8 189 i rfl rfl).trans ((fun _ => rfl) i)) i))]; exact cd
              have g4 : sB t n T ge T1 q2 12 := by
                rcases gh with ⟨-, g2, g3, g4⟩ | ⟨g0, -⟩
                · have u := (tk_u hk1 g3).2.1
                  have v := owv_inj _ (by omega) _ g2 u
                  rw [← v] at g4
                  exact g4
                · omega
              have rk2 : RK (s18 170 34) (st 170 35) T1 s18 := RK_e (Int.le_of_eq (show st 170 34 = s18 170 34 from by omega)) (sB_cd g4 (by omega)).1 (sB_cd g4 (by omega)).2 (fun c i z1 z2 => ((fr_out (a := 186) (b := 189) rfl fs18 c i z1 z2).trans (fr_out (a := 186) (b := 189) rfl fs8 c i z1 z2))) rk
              exact Or.inl ⟨g, y1, y2, y3, y4, by omega, C, cd2, rk2⟩
            · exact Or.inr ⟨z.2 g, Or.inl g⟩))⟩
                · have zw15 : st 170 3 = 1 ∧ st 170 7 = 1751474548 := by obtain ⟨b1, b2⟩ := b15; omega
                  clear h36 b15
                  have e54 : s8 170 35 = st 170 35 := fs8 170 35 rfl rfl
                  have e55 : s8 170 12 = st 170 12 := fs8 170 12 rfl rfl
                  have e56 : s8 170 4 = st 170 4 := fs8 170 4 rfl rfl
                  refine ⟨rfl, ⟨gs8, (show RDr s8 t n from (RDr_of (fs8 170 2 rfl rfl) (fun i => fs8 171 i rfl rfl) (fs8 170 3 rfl rfl) (fs8 170 4 rfl rfl) (fs8 170 5 rfl rfl) (fs8 170 6 rfl rfl) (fs8 170 7 rfl rfl) (fs8 170 12 rfl rfl) rd)), (show RT (s8 170 35) T s8 from (by rw [show s8 170 35 = st 170 35 from by omega]; exact RT_fr rfl fs8 rt)), (show s8 170 8 = 0 ∧ s8 170 12 = -1 from by omega), (show tk t n (s8 170 4) 1 v0 e0 from (by
            have z := RDr_rv rd hk0
            have zk : k0 = 1 := by unfold RV at z; omega
            rw [show s8 170 4 = st 170 4 from by omega]
            rw [zk] at hk0
            exact hk0)), (show (0) = 0 ∨ (0) = 1 from by omega)⟩, fun s19 q19 => ?_⟩
                  obtain ⟨gs19, fs19, o19⟩ := q19
                  change ((0) = 0 → BO (s19 170 8) (RDr s19 t n) (fun T' q => bHe t n T e0 T' q 13 40) (s19 170 4) (fun T' => RT (s8 170 35) T' s19)) ∧ ((0) = 1 → BO (s19 170 8) (RDr s19 t n) (fun T' q => bHe t n T e0 T' q 14 100) (s19 170 4) (fun T' => RT (s8 170 35) T' s19)) at o19
                  have g57 := g_faultKind gs19
                  have g58 := g_signAt gs19
                  have e59 : s19 170 35 = s8 170 35 := fs19 170 35 rfl rfl
                  have g60 := g_lexAt gs19
                  have e62 : s8 170 34 = st 170 34 := fs8 170 34 rfl rfl
                  have e61 : s19 170 34 = s8 170 34 := fs19 170 34 rfl rfl
                  exact hQ _ ⟨gs19, (fr_tr (fr_tr (fr_rf _ _) fs8 rfl) fs19 rfl), (Z9_tr (Z9_fr fs8 (fun _ => rfl) rfl) ((show aFr m_rStmt st s8 from (fr_tr (fr_rf _ _) fs8 rfl)) 170 35 rfl rfl) (Z9_fr fs19 (fun _ => rfl) rfl)), (show (gd = 1 ∧ s19 170 8 = 0 ∧ RDr s19 t n ∧ s19 170 4 = q2 ∧ RT (st 170 35) T1 s19 ∧ s19 170 34 ≤ s19 170 4 ∧ ∃ C' : List Int, CDr (s19 170 35) (s19 170 34) (s19 188) (s19 189) C' ∧ RK (s19 170 34) (st 170 35) T1 s19) ∨ (0 < s19 170 8 ∧ (gd = 0 ∨ ∃ v e : Int, tk t n q2 5 v e)) from (by
            have hk1 : tk t n (st 170 4) 1 (owv 11) e0 := by
              have z := RDr_rv rd hk0
              have zk : k0 = 1 ∧ v0 = 1751474548 := by unfold RV at z; omega
              rw [zk.1, zk.2] at hk0
              exact hk0
            have z := ST_cl 11 (by omega) rfl hk1 (o19.1 (by omega)) gh
            have gg : gd = 1 ∨ gd = 0 := by rcases gh with ⟨g, -⟩ | ⟨g, -⟩; exact Or.inl g; exact Or.inr g
            rcases gg with g | g
            · obtain ⟨y1, y2, y3, y4⟩ := z.1 g
              rw [show s8 170 35 = st 170 35 from by omega] at y4
              have yl : e0 ≤ q2 ∧ st 170 4 < e0 := by
                have l1 := tk_lt hk1 rd.2.1.1 (by omega)
                rcases gh with ⟨-, g2, g3, g4⟩ | ⟨g0, -⟩
                · obtain ⟨-, -, u3⟩ := tk_u hk1 g3
                  have l2 := sB_le g4 (by omega)
                  omega
                · omega
              have cd2 : CDr (s19 170 35) (s19 170 34) (s19 188) (s19 189) C := by rw [show s19 170 35 = st 170 35 from by omega, show s19 170 34 = st 170 34 from by omega, show s19 188 = st 188 from funext (fun i => (fs19 188 i rfl rfl).trans ((fun i => (fs8 188 i rfl rfl).trans ((fun _ => rfl) i)) i)), show s19 189 = st 189 from funext (fun i => (fs19 189 i rfl rfl).trans ((fun i => (fs8 189 i rfl rfl).trans ((fun _ => rfl) i)) i))]; exact cd
              have g4 : sB t n T ge T1 q2 11 := by
                rcases gh with ⟨-, g2, g3, g4⟩ | ⟨g0, -⟩
                · have u := (tk_u hk1 g3).2.1
                  have v := owv_inj _ (by omega) _ g2 u
                  rw [← v] at g4
                  exact g4
                · omega
              have rk2 : RK (s19 170 34) (st 170 35) T1 s19 := RK_e (Int.le_of_eq (show st 170 34 = s19 170 34 from by omega)) (sB_cd g4 (by omega)).1 (sB_cd g4 (by omega)).2 (fun c i z1 z2 => ((fr_out (a := 186) (b := 189) rfl fs19 c i z1 z2).trans (fr_out (a := 186) (b := 189) rfl fs8 c i z1 z2))) rk
              exact Or.inl ⟨g, y1, y2, y3, y4, by omega, C, cd2, rk2⟩
            · exact Or.inr ⟨z.2 g, Or.inl g⟩))⟩
              · have zw14 : st 170 3 = 1 ∧ st 170 7 = 109317209875826 := by obtain ⟨b1, b2⟩ := b14; omega
                clear h35 b14
                have e63 : s8 170 35 = st 170 35 := fs8 170 35 rfl rfl
                have e64 : s8 170 12 = st 170 12 := fs8 170 12 rfl rfl
                have e65 : s8 170 4 = st 170 4 := fs8 170 4 rfl rfl
                have e66 : s8 170 34 = st 170 34 := fs8 170 34 rfl rfl
                refine ⟨rfl, ⟨gs8, (show RDr s8 t n from (RDr_of (fs8 170 2 rfl rfl) (fun i => fs8 171 i rfl rfl) (fs8 170 3 rfl rfl) (fs8 170 4 rfl rfl) (fs8 170 5 rfl rfl) (fs8 170 6 rfl rfl) (fs8 170 7 rfl rfl) (fs8 170 12 rfl rfl) rd)), (show RT (s8 170 35) T s8 from (by rw [show s8 170 35 = st 170 35 from by omega]; exact RT_fr rfl fs8 rt)), (show s8 170 8 = 0 ∧ s8 170 12 = -1 from by omega), (show tk t n (s8 170 4) 1 v0 e0 from (by
            have z := RDr_rv rd hk0
            have zk : k0 = 1 := by unfold RV at z; omega
            rw [show s8 170 4 = st 170 4 from by omega]
            rw [zk] at hk0
            exact hk0)), (show (1) = 0 ∨ (1) = 1 from by omega), (show CDr (s8 170 35) (s8 170 34) (s8 188) (s8 189) C from (by rw [show s8 170 35 = st 170 35 from by omega, show s8 170 34 = st 170 34 from by omega, show s8 188 = st 188 from funext (fun i => (fs8 188 i rfl rfl).trans ((fun _ => rfl) i)), show s8 189 = st 189 from funext (fun i => (fs8 189 i rfl rfl).trans ((fun _ => rfl) i))]; exact cd)), (show s8 170 34 ≤ s8 170 4 from by omega), (show RK (s8 170 34) (s8 170 35) T s8 from (by rw [show s8 170 35 = st 170 35 from by omega, show s8 170 34 = st 170 34 from by omega]; exact RK_e (Int.le_refl _) (fun _ => rfl) (fun _ _ => rfl) (fr_out (a := 186) (b := 189) rfl fs8) rk)), (show RGH t n T e0 T1 q2 (1) gd from (by
            have hk1 : tk t n (st 170 4) 1 (owv 10) e0 := by
              have z := RDr_rv rd hk0
              have zk : k0 = 1 ∧ v0 = 109317209875826 := by unfold RV at z; omega
              rw [zk.1, zk.2] at hk0
              exact hk0
            exact ST_rg (1) 10 (by omega) (by omega) hk1 gh))⟩, fun s20 q20 => ?_⟩
                obtain ⟨gs20, fs20, yq20, o20⟩ := q20
                change (gd = 1 ∧ s20 170 8 = 0 ∧ RDr s20 t n ∧ s20 170 4 = q2 ∧ RT (s8 170 35) T1 s20 ∧ s20 170 34 ≤ s20 170 4 ∧ ∃ C' : List Int, CDr (s20 170 35) (s20 170 34) (s20 188) (s20 189) C' ∧ RK (s20 170 34) (s8 170 35) T1 s20) ∨ (0 < s20 170 8 ∧ (gd = 0 ∨ ∃ v e : Int, tk t n q2 5 v e)) at o20
                have g67 := g_faultKind gs20
                have g68 := g_signAt gs20
                have g69 := g_codes gs20
                have e70 : s20 170 35 = s8 170 35 := fs20 170 35 rfl rfl
                have g71 := g_lexAt gs20
                exact hQ _ ⟨gs20, (fr_tr (fr_tr (fr_rf _ _) fs8 rfl) fs20 rfl), (Z9_tr (Z9_fr fs8 (fun _ => rfl) rfl) ((show aFr m_rStmt st s8 from (fr_tr (fr_rf _ _) fs8 rfl)) 170 35 rfl rfl) yq20), (show (gd = 1 ∧ s20 170 8 = 0 ∧ RDr s20 t n ∧ s20 170 4 = q2 ∧ RT (st 170 35) T1 s20 ∧ s20 170 34 ≤ s20 170 4 ∧ ∃ C' : List Int, CDr (s20 170 35) (s20 170 34) (s20 188) (s20 189) C' ∧ RK (s20 170 34) (st 170 35) T1 s20) ∨ (0 < s20 170 8 ∧ (gd = 0 ∨ ∃ v e : Int, tk t n q2 5 v e)) from (by
            rcases o20 with ⟨g, h1, h2, h3, h4, h5, h6⟩ | h
            · rw [show s8 170 35 = st 170 35 from by omega] at h4
              obtain ⟨C2, h6, h7⟩ := h6
              rw [show s8 170 35 = st 170 35 from by omega] at h7
              exact Or.inl ⟨g, h1, h2, h3, h4, h5, C2, h6, h7⟩
            · exact Or.inr h))⟩
            · have zw13 : st 170 3 = 1 ∧ st 170 7 = 126943688025203 := by obtain ⟨b1, b2⟩ := b13; omega
              clear h34 b13
              have e72 : s8 170 35 = st 170 35 := fs8 170 35 rfl rfl
              have e73 : s8 170 12 = st 170 12 := fs8 170 12 rfl rfl
              have e74 : s8 170 4 = st 170 4 := fs8 170 4 rfl rfl
              have e75 : s8 170 34 = st 170 34 := fs8 170 34 rfl rfl
              refine ⟨rfl, ⟨gs8, (show RDr s8 t n from (RDr_of (fs8 170 2 rfl rfl) (fun i => fs8 171 i rfl rfl) (fs8 170 3 rfl rfl) (fs8 170 4 rfl rfl) (fs8 170 5 rfl rfl) (fs8 170 6 rfl rfl) (fs8 170 7 rfl rfl) (fs8 170 12 rfl rfl) rd)), (show RT (s8 170 35) T s8 from (by rw [show s8 170 35 = st 170 35 from by omega]; exact RT_fr rfl fs8 rt)), (show s8 170 8 = 0 ∧ s8 170 12 = -1 from by omega), (show tk t n (s8 170 4) 1 v0 e0 from (by
            have z := RDr_rv rd hk0
            have zk : k0 = 1 := by unfold RV at z; omega
            rw [show s8 170 4 = st 170 4 from by omega]
            rw [zk] at hk0
            exact hk0)), (show (0) = 0 ∨ (0) = 1 from by omega), (show CDr (s8 170 35) (s8 170 34) (s8 188) (s8 189) C from (by rw [show s8 170 35 = st 170 35 from by omega, show s8 170 34 = st 170 34 from by omega, show s8 188 = st 188 from funext (fun i => (fs8 188 i rfl rfl).trans ((fun _ => rfl) i)), show s8 189 = st 189 from funext (fun i => (fs8 189 i rfl rfl).trans ((fun _ => rfl) i))]; exact cd)), (show s8 170 34 ≤ s8 170 4 from by omega), (show RK (s8 170 34) (s8 170 35) T s8 from (by rw [show s8 170 35 = st 170 35 from by omega, show s8 170 34 = st 170 34 from by omega]; exact RK_e (Int.le_refl _) (fun _ => rfl) (fun _ _ => rfl) (fr_out (a := 186) (b := 189) rfl fs8) rk)), (show RGH t n T e0 T1 q2 (0) gd from (by
            have hk1 : tk t n (st 170 4) 1 (owv 9) e0 := by
              have z := RDr_rv rd hk0
              have zk : k0 = 1 ∧ v0 = 126943688025203 := by unfold RV at z; omega
              rw [zk.1, zk.2] at hk0
              exact hk0
            exact ST_rg (0) 9 (by omega) (by omega) hk1 gh))⟩, fun s21 q21 => ?_⟩
              obtain ⟨gs21, fs21, yq21, o21⟩ := q21
              change (gd = 1 ∧ s21 170 8 = 0 ∧ RDr s21 t n ∧ s21 170 4 = q2 ∧ RT (s8 170 35) T1 s21 ∧ s21 170 34 ≤ s21 170 4 ∧ ∃ C' : List Int, CDr (s21 170 35) (s21 170 34) (s21 188) (s21 189) C' ∧ RK (s21 170 34) (s8 170 35) T1 s21) ∨ (0 < s21 170 8 ∧ (gd = 0 ∨ ∃ v e : Int, tk t n q2 5 v e)) at o21
              have g76 := g_faultKind gs21
              have g77 := g_signAt gs21
              have g78 := g_codes gs21
              have e79 : s21 170 35 = s8 170 35 := fs21 170 35 rfl rfl
              have g80 := g_lexAt gs21
              exact hQ _ ⟨gs21, (fr_tr (fr_tr (fr_rf _ _) fs8 rfl) fs21 rfl), (Z9_tr (Z9_fr fs8 (fun _ => rfl) rfl) ((show aFr m_rStmt st s8 from (fr_tr (fr_rf _ _) fs8 rfl)) 170 35 rfl rfl) yq21), (show (gd = 1 ∧ s21 170 8 = 0 ∧ RDr s21 t n ∧ s21 170 4 = q2 ∧ RT (st 170 35) T1 s21 ∧ s21 170 34 ≤ s21 170 4 ∧ ∃ C' : List Int, CDr (s21 170 35) (s21 170 34) (s21 188) (s21 189) C' ∧ RK (s21 170 34) (st 170 35) T1 s21) ∨ (0 < s21 170 8 ∧ (gd = 0 ∨ ∃ v e : Int, tk t n q2 5 v e)) from (by
            rcases o21 with ⟨g, h1, h2, h3, h4, h5, h6⟩ | h
            · rw [show s8 170 35 = st 170 35 from by omega] at h4
              obtain ⟨C2, h6, h7⟩ := h6
              rw [show s8 170 35 = st 170 35 from by omega] at h7
              exact Or.inl ⟨g, h1, h2, h3, h4, h5, C2, h6, h7⟩
            · exact Or.inr h))⟩
          · have zw12 : st 170 3 = 1 ∧ st 170 7 = 499967946343 := by obtain ⟨b1, b2⟩ := b12; omega
            clear h33 b12
            have e81 : s8 170 35 = st 170 35 := fs8 170 35 rfl rfl
            have e82 : s8 170 12 = st 170 12 := fs8 170 12 rfl rfl
            have e83 : s8 170 4 = st 170 4 := fs8 170 4 rfl rfl
            refine ⟨rfl, ⟨gs8, (show RDr s8 t n from (RDr_of (fs8 170 2 rfl rfl) (fun i => fs8 171 i rfl rfl) (fs8 170 3 rfl rfl) (fs8 170 4 rfl rfl) (fs8 170 5 rfl rfl) (fs8 170 6 rfl rfl) (fs8 170 7 rfl rfl) (fs8 170 12 rfl rfl) rd)), (show RT (s8 170 35) T s8 from (by rw [show s8 170 35 = st 170 35 from by omega]; exact RT_fr rfl fs8 rt)), (show s8 170 8 = 0 ∧ s8 170 12 = -1 from by omega), (show tk t n (s8 170 4) 1 v0 e0 from (by
            have z := RDr_rv rd hk0
            have zk : k0 = 1 := by unfold RV at z; omega
            rw [show s8 170 4 = st 170 4 from by omega]
            rw [zk] at hk0
            exact hk0))⟩, fun s22 q22 => ?_⟩
            obtain ⟨gs22, fs22, o22⟩ := q22
            change BO (s22 170 8) (RDr s22 t n) (fun T' q => bTh t n T e0 T' q) (s22 170 4) (fun T' => RT (s8 170 35) T' s22) at o22
            have g84 := g_faultKind gs22
            have g85 := g_signAt gs22
            have e86 : s22 170 35 = s8 170 35 := fs22 170 35 rfl rfl
            have g87 := g_lexAt gs22
            have e89 : s8 170 34 = st 170 34 := fs8 170 34 rfl rfl
            have e88 : s22 170 34 = s8 170 34 := fs22 170 34 rfl rfl
            exact hQ _ ⟨gs22, (fr_tr (fr_tr (fr_rf _ _) fs8 rfl) fs22 rfl), (Z9_tr (Z9_fr fs8 (fun _ => rfl) rfl) ((show aFr m_rStmt st s8 from (fr_tr (fr_rf _ _) fs8 rfl)) 170 35 rfl rfl) (Z9_fr fs22 (fun _ => rfl) rfl)), (show (gd = 1 ∧ s22 170 8 = 0 ∧ RDr s22 t n ∧ s22 170 4 = q2 ∧ RT (st 170 35) T1 s22 ∧ s22 170 34 ≤ s22 170 4 ∧ ∃ C' : List Int, CDr (s22 170 35) (s22 170 34) (s22 188) (s22 189) C' ∧ RK (s22 170 34) (st 170 35) T1 s22) ∨ (0 < s22 170 8 ∧ (gd = 0 ∨ ∃ v e : Int, tk t n q2 5 v e)) from (by
            have hk1 : tk t n (st 170 4) 1 (owv 6) e0 := by
              have z := RDr_rv rd hk0
              have zk : k0 = 1 ∧ v0 = 499967946343 := by unfold RV at z; omega
              rw [zk.1, zk.2] at hk0
              exact hk0
            have z := ST_cl 6 (by omega) rfl hk1 o22 gh
            have gg : gd = 1 ∨ gd = 0 := by rcases gh with ⟨g, -⟩ | ⟨g, -⟩; exact Or.inl g; exact Or.inr g
            rcases gg with g | g
            · obtain ⟨y1, y2, y3, y4⟩ := z.1 g
              rw [show s8 170 35 = st 170 35 from by omega] at y4
              have yl : e0 ≤ q2 ∧ st 170 4 < e0 := by
                have l1 := tk_lt hk1 rd.2.1.1 (by omega)
                rcases gh with ⟨-, g2, g3, g4⟩ | ⟨g0, -⟩
                · obtain ⟨-, -, u3⟩ := tk_u hk1 g3
                  have l2 := sB_le g4 (by omega)
                  omega
                · omega
              have cd2 : CDr (s22 170 35) (s22 170 34) (s22 188) (s22 189) C := by rw [show s22 170 35 = st 170 35 from by omega, show s22 170 34 = st 170 34 from by omega, show s22 188 = st 188 from funext (fun i => (fs22 188 i rfl rfl).trans ((fun i => (fs8 188 i rfl rfl).trans ((fun _ => rfl) i)) i)), show s22 189 = st 189 from funext (fun i => (fs22 189 i rfl rfl).trans ((fun i => (fs8 189 i rfl rfl).trans ((fun _ => rfl) i)) i))]; exact cd
              have g4 : sB t n T ge T1 q2 6 := by
                rcases gh with ⟨-, g2, g3, g4⟩ | ⟨g0, -⟩
                · have u := (tk_u hk1 g3).2.1
                  have v := owv_inj _ (by omega) _ g2 u
                  rw [← v] at g4
                  exact g4
                · omega
              have rk2 : RK (s22 170 34) (st 170 35) T1 s22 := RK_e (Int.le_of_eq (show st 170 34 = s22 170 34 from by omega)) (sB_cd g4 (by omega)).1 (sB_cd g4 (by omega)).2 (fun c i z1 z2 => ((fr_out (a := 186) (b := 189) rfl fs22 c i z1 z2).trans (fr_out (a := 186) (b := 189) rfl fs8 c i z1 z2))) rk
              exact Or.inl ⟨g, y1, y2, y3, y4, by omega, C, cd2, rk2⟩
            · exact Or.inr ⟨z.2 g, Or.inl g⟩))⟩
        · have zw11 : st 170 3 = 1 ∧ st 170 7 = 1937007984 := by obtain ⟨b1, b2⟩ := b11; omega
          clear h32 b11
          have e90 : s8 170 35 = st 170 35 := fs8 170 35 rfl rfl
          have e91 : s8 170 12 = st 170 12 := fs8 170 12 rfl rfl
          have e92 : s8 170 4 = st 170 4 := fs8 170 4 rfl rfl
          refine ⟨rfl, ⟨gs8, (show RDr s8 t n from (RDr_of (fs8 170 2 rfl rfl) (fun i => fs8 171 i rfl rfl) (fs8 170 3 rfl rfl) (fs8 170 4 rfl rfl) (fs8 170 5 rfl rfl) (fs8 170 6 rfl rfl) (fs8 170 7 rfl rfl) (fs8 170 12 rfl rfl) rd)), (show RT (s8 170 35) T s8 from (by rw [show s8 170 35 = st 170 35 from by omega]; exact RT_fr rfl fs8 rt)), (show s8 170 8 = 0 ∧ s8 170 12 = -1 from by omega), (show tk t n (s8 170 4) 1 v0 e0 from (by
            have z := RDr_rv rd hk0
            have zk : k0 = 1 := by unfold RV at z; omega
            rw [show s8 170 4 = st 170 4 from by omega]
            rw [zk] at hk0
            exact hk0))⟩, fun s23 q23 => ?_⟩
          obtain ⟨gs23, fs23, o23⟩ := q23
          change BO (s23 170 8) (RDr s23 t n) (fun T' q => bSp t n T e0 T' q) (s23 170 4) (fun T' => RT (s8 170 35) T' s23) at o23
          have g93 := g_faultKind gs23
          have g94 := g_signAt gs23
          have e95 : s23 170 35 = s8 170 35 := fs23 170 35 rfl rfl
          have g96 := g_lexAt gs23
          have e98 : s8 170 34 = st 170 34 := fs8 170 34 rfl rfl
          have e97 : s23 170 34 = s8 170 34 := fs23 170 34 rfl rfl
          exact hQ _ ⟨gs23, (fr_tr (fr_tr (fr_rf _ _) fs8 rfl) fs23 rfl), (Z9_tr (Z9_fr fs8 (fun _ => rfl) rfl) ((show aFr m_rStmt st s8 from (fr_tr (fr_rf _ _) fs8 rfl)) 170 35 rfl rfl) (Z9_fr fs23 (fun _ => rfl) rfl)), (show (gd = 1 ∧ s23 170 8 = 0 ∧ RDr s23 t n ∧ s23 170 4 = q2 ∧ RT (st 170 35) T1 s23 ∧ s23 170 34 ≤ s23 170 4 ∧ ∃ C' : List Int, CDr (s23 170 35) (s23 170 34) (s23 188) (s23 189) C' ∧ RK (s23 170 34) (st 170 35) T1 s23) ∨ (0 < s23 170 8 ∧ (gd = 0 ∨ ∃ v e : Int, tk t n q2 5 v e)) from (by
            have hk1 : tk t n (st 170 4) 1 (owv 4) e0 := by
              have z := RDr_rv rd hk0
              have zk : k0 = 1 ∧ v0 = 1937007984 := by unfold RV at z; omega
              rw [zk.1, zk.2] at hk0
              exact hk0
            have z := ST_cl 4 (by omega) rfl hk1 o23 gh
            have gg : gd = 1 ∨ gd = 0 := by rcases gh with ⟨g, -⟩ | ⟨g, -⟩; exact Or.inl g; exact Or.inr g
            rcases gg with g | g
            · obtain ⟨y1, y2, y3, y4⟩ := z.1 g
              rw [show s8 170 35 = st 170 35 from by omega] at y4
              have yl : e0 ≤ q2 ∧ st 170 4 < e0 := by
                have l1 := tk_lt hk1 rd.2.1.1 (by omega)
                rcases gh with ⟨-, g2, g3, g4⟩ | ⟨g0, -⟩
                · obtain ⟨-, -, u3⟩ := tk_u hk1 g3
                  have l2 := sB_le g4 (by omega)
                  omega
                · omega
              have cd2 : CDr (s23 170 35) (s23 170 34) (s23 188) (s23 189) C := by rw [show s23 170 35 = st 170 35 from by omega, show s23 170 34 = st 170 34 from by omega, show s23 188 = st 188 from funext (fun i => (fs23 188 i rfl rfl).trans ((fun i => (fs8 188 i rfl rfl).trans ((fun _ => rfl) i)) i)), show s23 189 = st 189 from funext (fun i => (fs23 189 i rfl rfl).trans ((fun i => (fs8 189 i rfl rfl).trans ((fun _ => rfl) i)) i))]; exact cd
              have g4 : sB t n T ge T1 q2 4 := by
                rcases gh with ⟨-, g2, g3, g4⟩ | ⟨g0, -⟩
                · have u := (tk_u hk1 g3).2.1
                  have v := owv_inj _ (by omega) _ g2 u
                  rw [← v] at g4
                  exact g4
                · omega
              have rk2 : RK (s23 170 34) (st 170 35) T1 s23 := RK_e (Int.le_of_eq (show st 170 34 = s23 170 34 from by omega)) (sB_cd g4 (by omega)).1 (sB_cd g4 (by omega)).2 (fun c i z1 z2 => ((fr_out (a := 186) (b := 189) rfl fs23 c i z1 z2).trans (fr_out (a := 186) (b := 189) rfl fs8 c i z1 z2))) rk
              exact Or.inl ⟨g, y1, y2, y3, y4, by omega, C, cd2, rk2⟩
            · exact Or.inr ⟨z.2 g, Or.inl g⟩))⟩
      · have zw10 : st 170 3 = 1 ∧ st 170 7 = 126943972648308 := by obtain ⟨b1, b2⟩ := b10; omega
        clear h31 b10
        have e99 : s8 170 35 = st 170 35 := fs8 170 35 rfl rfl
        have e100 : s8 170 12 = st 170 12 := fs8 170 12 rfl rfl
        have e101 : s8 170 4 = st 170 4 := fs8 170 4 rfl rfl
        refine ⟨rfl, ⟨gs8, (show RDr s8 t n from (RDr_of (fs8 170 2 rfl rfl) (fun i => fs8 171 i rfl rfl) (fs8 170 3 rfl rfl) (fs8 170 4 rfl rfl) (fs8 170 5 rfl rfl) (fs8 170 6 rfl rfl) (fs8 170 7 rfl rfl) (fs8 170 12 rfl rfl) rd)), (show RT (s8 170 35) T s8 from (by rw [show s8 170 35 = st 170 35 from by omega]; exact RT_fr rfl fs8 rt)), (show s8 170 8 = 0 ∧ s8 170 12 = -1 from by omega), (show tk t n (s8 170 4) 1 v0 e0 from (by
            have z := RDr_rv rd hk0
            have zk : k0 = 1 := by unfold RV at z; omega
            rw [show s8 170 4 = st 170 4 from by omega]
            rw [zk] at hk0
            exact hk0))⟩, fun s24 q24 => ?_⟩
        obtain ⟨gs24, fs24, o24⟩ := q24
        change BO (s24 170 8) (RDr s24 t n) (fun T' q => bSt t n T e0 T' q) (s24 170 4) (fun T' => RT (s8 170 35) T' s24) at o24
        have g102 := g_faultKind gs24
        have g103 := g_signAt gs24
        have e104 : s24 170 35 = s8 170 35 := fs24 170 35 rfl rfl
        have g105 := g_lexAt gs24
        have e107 : s8 170 34 = st 170 34 := fs8 170 34 rfl rfl
        have e106 : s24 170 34 = s8 170 34 := fs24 170 34 rfl rfl
        exact hQ _ ⟨gs24, (fr_tr (fr_tr (fr_rf _ _) fs8 rfl) fs24 rfl), (Z9_tr (Z9_fr fs8 (fun _ => rfl) rfl) ((show aFr m_rStmt st s8 from (fr_tr (fr_rf _ _) fs8 rfl)) 170 35 rfl rfl) (Z9_fr fs24 (fun _ => rfl) rfl)), (show (gd = 1 ∧ s24 170 8 = 0 ∧ RDr s24 t n ∧ s24 170 4 = q2 ∧ RT (st 170 35) T1 s24 ∧ s24 170 34 ≤ s24 170 4 ∧ ∃ C' : List Int, CDr (s24 170 35) (s24 170 34) (s24 188) (s24 189) C' ∧ RK (s24 170 34) (st 170 35) T1 s24) ∨ (0 < s24 170 8 ∧ (gd = 0 ∨ ∃ v e : Int, tk t n q2 5 v e)) from (by
            have hk1 : tk t n (st 170 4) 1 (owv 1) e0 := by
              have z := RDr_rv rd hk0
              have zk : k0 = 1 ∧ v0 = 126943972648308 := by unfold RV at z; omega
              rw [zk.1, zk.2] at hk0
              exact hk0
            have z := ST_cl 1 (by omega) rfl hk1 o24 gh
            have gg : gd = 1 ∨ gd = 0 := by rcases gh with ⟨g, -⟩ | ⟨g, -⟩; exact Or.inl g; exact Or.inr g
            rcases gg with g | g
            · obtain ⟨y1, y2, y3, y4⟩ := z.1 g
              rw [show s8 170 35 = st 170 35 from by omega] at y4
              have yl : e0 ≤ q2 ∧ st 170 4 < e0 := by
                have l1 := tk_lt hk1 rd.2.1.1 (by omega)
                rcases gh with ⟨-, g2, g3, g4⟩ | ⟨g0, -⟩
                · obtain ⟨-, -, u3⟩ := tk_u hk1 g3
                  have l2 := sB_le g4 (by omega)
                  omega
                · omega
              have cd2 : CDr (s24 170 35) (s24 170 34) (s24 188) (s24 189) C := by rw [show s24 170 35 = st 170 35 from by omega, show s24 170 34 = st 170 34 from by omega, show s24 188 = st 188 from funext (fun i => (fs24 188 i rfl rfl).trans ((fun i => (fs8 188 i rfl rfl).trans ((fun _ => rfl) i)) i)), show s24 189 = st 189 from funext (fun i => (fs24 189 i rfl rfl).trans ((fun i => (fs8 189 i rfl rfl).trans ((fun _ => rfl) i)) i))]; exact cd
              have g4 : sB t n T ge T1 q2 1 := by
                rcases gh with ⟨-, g2, g3, g4⟩ | ⟨g0, -⟩
                · have u := (tk_u hk1 g3).2.1
                  have v := owv_inj _ (by omega) _ g2 u
                  rw [← v] at g4
                  exact g4
                · omega
              have rk2 : RK (s24 170 34) (st 170 35) T1 s24 := RK_e (Int.le_of_eq (show st 170 34 = s24 170 34 from by omega)) (sB_cd g4 (by omega)).1 (sB_cd g4 (by omega)).2 (fun c i z1 z2 => ((fr_out (a := 186) (b := 189) rfl fs24 c i z1 z2).trans (fr_out (a := 186) (b := 189) rfl fs8 c i z1 z2))) rk
              exact Or.inl ⟨g, y1, y2, y3, y4, by omega, C, cd2, rk2⟩
            · exact Or.inr ⟨z.2 g, Or.inl g⟩))⟩
    · have zw9 : st 170 3 = 1 ∧ st 170 7 = 482854658917 := by obtain ⟨b1, b2⟩ := b9; omega
      clear h30 b9
      have e108 : s8 170 35 = st 170 35 := fs8 170 35 rfl rfl
      have e109 : s8 170 12 = st 170 12 := fs8 170 12 rfl rfl
      have e110 : s8 170 4 = st 170 4 := fs8 170 4 rfl rfl
      refine ⟨rfl, ⟨gs8, (show RDr s8 t n from (RDr_of (fs8 170 2 rfl rfl) (fun i => fs8 171 i rfl rfl) (fs8 170 3 rfl rfl) (fs8 170 4 rfl rfl) (fs8 170 5 rfl rfl) (fs8 170 6 rfl rfl) (fs8 170 7 rfl rfl) (fs8 170 12 rfl rfl) rd)), (show RT (s8 170 35) T s8 from (by rw [show s8 170 35 = st 170 35 from by omega]; exact RT_fr rfl fs8 rt)), (show s8 170 8 = 0 ∧ s8 170 12 = -1 from by omega), (show tk t n (s8 170 4) 1 v0 e0 from (by
            have z := RDr_rv rd hk0
            have zk : k0 = 1 := by unfold RV at z; omega
            rw [show s8 170 4 = st 170 4 from by omega]
            rw [zk] at hk0
            exact hk0))⟩, fun s25 q25 => ?_⟩
      obtain ⟨gs25, fs25, o25⟩ := q25
      change BO (s25 170 8) (RDr s25 t n) (fun T' q => bPl t n T e0 T' q) (s25 170 4) (fun T' => RT (s8 170 35) T' s25) at o25
      have g111 := g_faultKind gs25
      have g112 := g_signAt gs25
      have e113 : s25 170 35 = s8 170 35 := fs25 170 35 rfl rfl
      have g114 := g_lexAt gs25
      have e116 : s8 170 34 = st 170 34 := fs8 170 34 rfl rfl
      have e115 : s25 170 34 = s8 170 34 := fs25 170 34 rfl rfl
      exact hQ _ ⟨gs25, (fr_tr (fr_tr (fr_rf _ _) fs8 rfl) fs25 rfl), (Z9_tr (Z9_fr fs8 (fun _ => rfl) rfl) ((show aFr m_rStmt st s8 from (fr_tr (fr_rf _ _) fs8 rfl)) 170 35 rfl rfl) (Z9_fr fs25 (fun _ => rfl) rfl)), (show (gd = 1 ∧ s25 170 8 = 0 ∧ RDr s25 t n ∧ s25 170 4 = q2 ∧ RT (st 170 35) T1 s25 ∧ s25 170 34 ≤ s25 170 4 ∧ ∃ C' : List Int, CDr (s25 170 35) (s25 170 34) (s25 188) (s25 189) C' ∧ RK (s25 170 34) (st 170 35) T1 s25) ∨ (0 < s25 170 8 ∧ (gd = 0 ∨ ∃ v e : Int, tk t n q2 5 v e)) from (by
            have hk1 : tk t n (st 170 4) 1 (owv 0) e0 := by
              have z := RDr_rv rd hk0
              have zk : k0 = 1 ∧ v0 = 482854658917 := by unfold RV at z; omega
              rw [zk.1, zk.2] at hk0
              exact hk0
            have z := ST_cl 0 (by omega) rfl hk1 o25 gh
            have gg : gd = 1 ∨ gd = 0 := by rcases gh with ⟨g, -⟩ | ⟨g, -⟩; exact Or.inl g; exact Or.inr g
            rcases gg with g | g
            · obtain ⟨y1, y2, y3, y4⟩ := z.1 g
              rw [show s8 170 35 = st 170 35 from by omega] at y4
              have yl : e0 ≤ q2 ∧ st 170 4 < e0 := by
                have l1 := tk_lt hk1 rd.2.1.1 (by omega)
                rcases gh with ⟨-, g2, g3, g4⟩ | ⟨g0, -⟩
                · obtain ⟨-, -, u3⟩ := tk_u hk1 g3
                  have l2 := sB_le g4 (by omega)
                  omega
                · omega
              have cd2 : CDr (s25 170 35) (s25 170 34) (s25 188) (s25 189) C := by rw [show s25 170 35 = st 170 35 from by omega, show s25 170 34 = st 170 34 from by omega, show s25 188 = st 188 from funext (fun i => (fs25 188 i rfl rfl).trans ((fun i => (fs8 188 i rfl rfl).trans ((fun _ => rfl) i)) i)), show s25 189 = st 189 from funext (fun i => (fs25 189 i rfl rfl).trans ((fun i => (fs8 189 i rfl rfl).trans ((fun _ => rfl) i)) i))]; exact cd
              have g4 : sB t n T ge T1 q2 0 := by
                rcases gh with ⟨-, g2, g3, g4⟩ | ⟨g0, -⟩
                · have u := (tk_u hk1 g3).2.1
                  have v := owv_inj _ (by omega) _ g2 u
                  rw [← v] at g4
                  exact g4
                · omega
              have rk2 : RK (s25 170 34) (st 170 35) T1 s25 := RK_e (Int.le_of_eq (show st 170 34 = s25 170 34 from by omega)) (sB_cd g4 (by omega)).1 (sB_cd g4 (by omega)).2 (fun c i z1 z2 => ((fr_out (a := 186) (b := 189) rfl fs25 c i z1 z2).trans (fr_out (a := 186) (b := 189) rfl fs8 c i z1 z2))) rk
              exact Or.inl ⟨g, y1, y2, y3, y4, by omega, C, cd2, rk2⟩
            · exact Or.inr ⟨z.2 g, Or.inl g⟩))⟩
  · have e117 : s8 170 4 = st 170 4 := fs8 170 4 rfl rfl
    have e118 : s8 170 34 = st 170 34 := fs8 170 34 rfl rfl
    have e119 : s8 170 35 = st 170 35 := fs8 170 35 rfl rfl
    exact hQ _ ⟨gs8, (fr_tr (fr_rf _ _) fs8 rfl), (Z9_fr fs8 (fun _ => rfl) rfl), (show (gd = 1 ∧ s8 170 8 = 0 ∧ RDr s8 t n ∧ s8 170 4 = q2 ∧ RT (st 170 35) T1 s8 ∧ s8 170 34 ≤ s8 170 4 ∧ ∃ C' : List Int, CDr (s8 170 35) (s8 170 34) (s8 188) (s8 189) C' ∧ RK (s8 170 34) (st 170 35) T1 s8) ∨ (0 < s8 170 8 ∧ (gd = 0 ∨ ∃ v e : Int, tk t n q2 5 v e)) from (by
            refine Or.inr ⟨by omega, Or.inl ?_⟩
            rcases gh with ⟨g, g2, g3, g4⟩ | ⟨g, -⟩
            · exfalso
              have z := r_wrd rd g3
              omega
            · exact g))⟩
theorem k_rStmt_m (hTb : aTb zSh rx_tb cl) {t : Int → Int} {n : Int} {T : zS} {C : List Int} {gd : Int} {gi : Nat} {ge : Int} {T1 : zS} {q2 : Int} {D : Nat} (hD : 7 ≤ D) : ∀ as st (Q Q' : zQ), (∀ r st', Q r st' → Q' r st') → (k_rStmt t n T C gd gi ge T1 q2) 210 as st Q → cl D 210 as st Q' := by
  intro as st Q Q' hQ h
  unfold k_rStmt at h
  split at h
  · obtain ⟨rfl, h⟩ := h
    exact c_rStmt hTb hD (ct_rStmt_m hQ h)
  · exact h.elim
set_option maxHeartbeats 4000000 in
set_option maxRecDepth 100000 in
theorem c_rFin (hTb : aTb zSh rx_tb cl) {t : Int → Int} {n : Int} {D : Nat} (hD : 4 ≤ D) {k : Int} {st : zS} {Q : zQ} (h : ct_rFin t n k st Q) : cl D 211 [.inr (.inr (.inl 170)), .inl k] st Q := by
  obtain ⟨d, rfl⟩ : ∃ d, D = d + 1 := ⟨D - 1, by omega⟩
  refine hTb d 211 (rx_m211, 3, 0, 0, 0) rfl _ _ _ (Nat.le_of_ble_eq_true rfl) (fun K hcl hsf hsl => ?_)
  have hcm : zmo (wcL [(181, k_rLexX), (182, k_isSign), (178, k_blame), (184, k_rMustI t n)]) (cl d) := (wcL_m (wm_cons (k_rLexX_m hTb (by omega)) (wm_cons (k_isSign_m hTb (by omega)) (wm_cons (k_blame_m hTb (by omega)) (wm_cons (k_rMustI_m hTb (by omega)) wm_nil)))))
  obtain ⟨hR, hQ⟩ := h
  obtain ⟨hG, rd⟩ := hR
  change st 170 8 = 0 → RDr st t n at rd
  have g1 := g_faultKind hG
  have g2 := g_size hG
  have g3 := g_sign hG
  have g4 := g_signAt hG
  have g5 := g_signEnd hG
  have g6 := g_value hG
  have g7 := g_lexAt hG
  refine yr1_ok (Rt := Q) (wc := (wcL [(181, k_rLexX), (182, k_isSign), (178, k_blame), (184, k_rMustI t n)])) (stp := [17]) hcm hcl [] 66 ?_
  show (170 = 170 ∧ (rq_rLexX  st ∧ (∀ (s8 : zS), en_rLexX  st s8 → ((s8 170 8 ≤ (0 : Int) → K (rx_find rx_m211 17) [(2, .inl (s8 170 5)), (0, .inr (.inr (.inl 170))), (1, .inl k)] [] s8) ∧ (¬ (s8 170 8 ≤ (0 : Int)) → Q none s8)))))
  refine ⟨rfl, hG, fun s8 q8 => ?_⟩
  obtain ⟨gs8, fs8, p8⟩ := q8
  change (0 < st 170 8 → 0 < s8 170 8) ∧ (st 170 8 = 0 → st 170 12 = -1 → s8 170 8 = 0) ∧ (¬ st 170 12 = -1 → 0 < s8 170 8) at p8
  have g9 := g_faultKind gs8
  refine ⟨fun h10 => ?_, fun h10 => ?_⟩
  · have e11 : s8 170 5 = st 170 5 := fs8 170 5 rfl rfl
    have z00 : st 170 8 = 0 := by omega
    have hse := r_se (rd z00) (by omega)
    have hsn := (rd z00).1.1
    have lp : ∀ (u : Nat) (ax : Int), (st 170 5 ≤ ax ∧ ax ≤ st 170 2) ∧ (∀ j : Int, st 170 5 ≤ j → j < ax → wbl (st 171 j.toNat)) → (1600 - ax).toNat = u → K (rx_find rx_m211 17) [(2, .inl ax), (0, .inr (.inr (.inl 170))), (1, .inl k)] [] s8 := by
      intro u_lp
      induction u_lp using Nat.strongRecOn with
      | _ u_lp ih_lp =>
        intro ax hi hu_lp
        obtain ⟨i_lp, b2_lp⟩ := hi
        have g12 := g_signEnd hG
        have g13 := g_size hG
        refine yr1_ok (Rt := Q) (wc := (wcL [(181, k_rLexX), (182, k_isSign), (178, k_blame), (184, k_rMustI t n)])) (stp := [17]) hcm hcl [] 66 ?_
        show ((s8 170 2 ≤ ax → (170 = 170 ∧ (∀ (r14 : Int), en_isSign (59) s8 r14 → ((r14 = (0 : Int) → (170 = 170 ∧ (rq_rMustI t n (59) s8 ∧ (∀ (s15 : zS), en_rMustI t n (59) s8 s15 → Q none s15)))) ∧ (¬ (r14 = (0 : Int)) → ((¬ k = (80 : Int) → (170 = 170 ∧ (rq_rMustI t n (59) s8 ∧ (∀ (s16 : zS), en_rMustI t n (59) s8 s16 → Q none s16)))) ∧ (¬ (¬ k = (80 : Int)) → ((s8 170 2 ≤ ax → (170 = 170 ∧ (rq_rMustI t n (59) s8 ∧ (∀ (s17 : zS), en_rMustI t n (59) s8 s17 → Q none s17)))) ∧ (¬ (s8 170 2 ≤ ax) → (170 = 170 ∧ (rq_blame (6) ax s8 ∧ (∀ (s18 : zS), en_blame (6) ax s8 s18 → (170 = 170 ∧ (rq_rMustI t n (59) s18 ∧ (∀ (s19 : zS), en_rMustI t n (59) s18 s19 → Q none s19))))))))))))))) ∧ (¬ (s8 170 2 ≤ ax) → ((0 ≤ ax ∧ ax < 1800) ∧ ((s8 171 (ax : Int).toNat = (32 : Int) → ((-2147483648 ≤ ax + 1 ∧ ax + 1 ≤ 2147483647) ∧ K (rx_find rx_m211 17) [(2, .inl (ax + 1)), (0, .inr (.inr (.inl 170))), (1, .inl k)] [] s8)) ∧ (¬ (s8 171 (ax : Int).toNat = (32 : Int)) → ((0 ≤ ax ∧ ax < 1800) ∧ ((¬ s8 171 (ax : Int).toNat = (10 : Int) → (170 = 170 ∧ (∀ (r20 : Int), en_isSign (59) s8 r20 → ((r20 = (0 : Int) → (170 = 170 ∧ (rq_rMustI t n (59) s8 ∧ (∀ (s21 : zS), en_rMustI t n (59) s8 s21 → Q none s21)))) ∧ (¬ (r20 = (0 : Int)) → ((¬ k = (80 : Int) → (170 = 170 ∧ (rq_rMustI t n (59) s8 ∧ (∀ (s22 : zS), en_rMustI t n (59) s8 s22 → Q none s22)))) ∧ (¬ (¬ k = (80 : Int)) → ((s8 170 2 ≤ ax → (170 = 170 ∧ (rq_rMustI t n (59) s8 ∧ (∀ (s23 : zS), en_rMustI t n (59) s8 s23 → Q none s23)))) ∧ (¬ (s8 170 2 ≤ ax) → (170 = 170 ∧ (rq_blame (6) ax s8 ∧ (∀ (s24 : zS), en_blame (6) ax s8 s24 → (170 = 170 ∧ (rq_rMustI t n (59) s24 ∧ (∀ (s25 : zS), en_rMustI t n (59) s24 s25 → Q none s25))))))))))))))) ∧ (¬ (¬ s8 171 (ax : Int).toNat = (10 : Int)) → ((-2147483648 ≤ ax + 1 ∧ ax + 1 ≤ 2147483647) ∧ K (rx_find rx_m211 17) [(2, .inl (ax + 1)), (0, .inr (.inr (.inl 170))), (1, .inl k)] [] s8)))))))))
        have e26 : s8 170 2 = st 170 2 := fs8 170 2 rfl rfl
        refine ⟨fun h27 => ?_, fun h27 => ?_⟩
        · refine ⟨rfl, fun r14 q14 => ?_⟩
          have b14 := q14
          change (r14 = 0 ∨ r14 = 1) ∧ (r14 = 1 ↔ s8 170 3 = 3 ∧ s8 170 6 = (59)) at b14
          have g29 := g_sign hG
          have e28 : s8 170 3 = st 170 3 := fs8 170 3 rfl rfl
          have g31 := g_value hG
          have e30 : s8 170 6 = st 170 6 := fs8 170 6 rfl rfl
          refine ⟨fun h32 => ?_, fun h32 => ?_⟩
          · have g33 := g_faultKind gs8
            refine ⟨rfl, ⟨gs8, (show s8 170 8 = 0 → RDr s8 t n from (fun _ => (RDr_of (fs8 170 2 rfl rfl) (fun i => fs8 171 i rfl rfl) (fs8 170 3 rfl rfl) (fs8 170 4 rfl rfl) (fs8 170 5 rfl rfl) (fs8 170 6 rfl rfl) (fs8 170 7 rfl rfl) (fs8 170 12 rfl rfl) (rd (by omega)))))⟩, fun s15 q15 => ?_⟩
            obtain ⟨gs15, fs15, o15⟩ := q15
            change (s15 170 8 = 0 ∧ s8 170 8 = 0 ∧ tk t n (s8 170 4) 3 (59) (s15 170 4) ∧ RDr s15 t n) ∨ (0 < s15 170 8 ∧ s8 170 8 = 0 ∧ ¬ ∃ e : Int, tk t n (s8 170 4) 3 (59) e) ∨ (0 < s15 170 8 ∧ 0 < s8 170 8) at o15
            have g34 := g_faultKind gs15
            have g36 := g_signAt hG
            have e35 : s8 170 4 = st 170 4 := fs8 170 4 rfl rfl
            have g37 := g_signAt gs15
            have g40 := g_in hG
            have e39 : s8 170 35 = st 170 35 := fs8 170 35 rfl rfl
            have e38 : s15 170 35 = s8 170 35 := fs15 170 35 rfl rfl
            have g41 := g_lexAt gs15
            have g44 := g_codes hG
            have e43 : s8 170 34 = st 170 34 := fs8 170 34 rfl rfl
            have e42 : s15 170 34 = s8 170 34 := fs15 170 34 rfl rfl
            rcases o15 with ⟨y15, z15, t15, rd15⟩ | ⟨y15, z15, l15⟩ | ⟨y15, z15⟩
            · have g45 := g_faultKind hG
              exact hQ _ ⟨gs15, (fr_tr (fr_tr (fr_rf _ _) fs8 rfl) fs15 rfl), (show (s15 170 8 = 0 ∧ st 170 8 = 0 ∧ tk t n (st 170 4) 3 59 (s15 170 4) ∧ RDr s15 t n ∧ (k = 80 → ∃ v e : Int, tk t n (s15 170 4) 0 v e)) ∨ (0 < s15 170 8 ∧ st 170 8 = 0 ∧ ¬ ∃ q : Int, tk t n (st 170 4) 3 59 q ∧ (k = 80 → ∃ v e : Int, tk t n q 0 v e)) ∨ (0 < s15 170 8 ∧ 0 < st 170 8) from (by
            have z0 : st 170 8 = 0 := by omega
            have rd0 := rd z0
            have htp : ∀ j : Int, 0 ≤ j → j < n → st 171 j.toNat = t j := fun j z1 z2 => rd0.1.2 j z1 z2
            have hn : st 170 2 = n := rd0.1.1
            have hw : wrn (fun j => wbl (tcc t n j)) (st 170 5) ax := by
              refine ⟨by omega, fun j z1 z2 => ?_, fun z => ?_⟩
              · have y := b2_lp j z1 z2
                show wbl (tcc t n j)
                rw [tcc_in (by omega), ← htp j (by omega) (by omega)]
                exact y
              · have z : wbl (tcc t n ax) := z
                by_cases hx : ax < n
                · rw [tcc_in (by omega), ← htp ax (by omega) hx] at z
                  unfold wbl at z
                  omega
                · rw [tcc_out (by omega)] at z
                  unfold wbl at z
                  omega
            have t0 : tk t n (st 170 4) 3 59 (s15 170 4) := by rw [← show s8 170 4 = st 170 4 from by omega]; exact t15
            have ts := r_sig rd0 t0
            have eq := wrn_u hw (r_end rd0 t0)
            refine Or.inl ⟨by omega, z0, t0, rd15, fun z => ?_⟩
            exact ⟨0, _, tk_end0 (rd15).2.1.1 (by omega)⟩))⟩
            · have g46 := g_faultKind hG
              exact hQ _ ⟨gs15, (fr_tr (fr_tr (fr_rf _ _) fs8 rfl) fs15 rfl), (show (s15 170 8 = 0 ∧ st 170 8 = 0 ∧ tk t n (st 170 4) 3 59 (s15 170 4) ∧ RDr s15 t n ∧ (k = 80 → ∃ v e : Int, tk t n (s15 170 4) 0 v e)) ∨ (0 < s15 170 8 ∧ st 170 8 = 0 ∧ ¬ ∃ q : Int, tk t n (st 170 4) 3 59 q ∧ (k = 80 → ∃ v e : Int, tk t n q 0 v e)) ∨ (0 < s15 170 8 ∧ 0 < st 170 8) from (by
            have z0 : st 170 8 = 0 := by omega
            have rd0 := rd z0
            have htp : ∀ j : Int, 0 ≤ j → j < n → st 171 j.toNat = t j := fun j z1 z2 => rd0.1.2 j z1 z2
            have hn : st 170 2 = n := rd0.1.1
            refine Or.inr (Or.inl ⟨by omega, z0, fun hx => ?_⟩)
            obtain ⟨q, h1, h2⟩ := hx
            rw [← show s8 170 4 = st 170 4 from by omega] at h1
            exact l15 ⟨q, h1⟩))⟩
            · exfalso; omega
          · refine ⟨fun h47 => ?_, fun h47 => ?_⟩
            · have g48 := g_faultKind gs8
              refine ⟨rfl, ⟨gs8, (show s8 170 8 = 0 → RDr s8 t n from (fun _ => (RDr_of (fs8 170 2 rfl rfl) (fun i => fs8 171 i rfl rfl) (fs8 170 3 rfl rfl) (fs8 170 4 rfl rfl) (fs8 170 5 rfl rfl) (fs8 170 6 rfl rfl) (fs8 170 7 rfl rfl) (fs8 170 12 rfl rfl) (rd (by omega)))))⟩, fun s16 q16 => ?_⟩
              obtain ⟨gs16, fs16, o16⟩ := q16
              change (s16 170 8 = 0 ∧ s8 170 8 = 0 ∧ tk t n (s8 170 4) 3 (59) (s16 170 4) ∧ RDr s16 t n) ∨ (0 < s16 170 8 ∧ s8 170 8 = 0 ∧ ¬ ∃ e : Int, tk t n (s8 170 4) 3 (59) e) ∨ (0 < s16 170 8 ∧ 0 < s8 170 8) at o16
              have g49 := g_faultKind gs16
              have g51 := g_signAt hG
              have e50 : s8 170 4 = st 170 4 := fs8 170 4 rfl rfl
              have g52 := g_signAt gs16
              have g55 := g_in hG
              have e54 : s8 170 35 = st 170 35 := fs8 170 35 rfl rfl
              have e53 : s16 170 35 = s8 170 35 := fs16 170 35 rfl rfl
              have g56 := g_lexAt gs16
              have g59 := g_codes hG
              have e58 : s8 170 34 = st 170 34 := fs8 170 34 rfl rfl
              have e57 : s16 170 34 = s8 170 34 := fs16 170 34 rfl rfl
              rcases o16 with ⟨y16, z16, t16, rd16⟩ | ⟨y16, z16, l16⟩ | ⟨y16, z16⟩
              · have g60 := g_faultKind hG
                exact hQ _ ⟨gs16, (fr_tr (fr_tr (fr_rf _ _) fs8 rfl) fs16 rfl), (show (s16 170 8 = 0 ∧ st 170 8 = 0 ∧ tk t n (st 170 4) 3 59 (s16 170 4) ∧ RDr s16 t n ∧ (k = 80 → ∃ v e : Int, tk t n (s16 170 4) 0 v e)) ∨ (0 < s16 170 8 ∧ st 170 8 = 0 ∧ ¬ ∃ q : Int, tk t n (st 170 4) 3 59 q ∧ (k = 80 → ∃ v e : Int, tk t n q 0 v e)) ∨ (0 < s16 170 8 ∧ 0 < st 170 8) from (by
            have z0 : st 170 8 = 0 := by omega
            have rd0 := rd z0
            have htp : ∀ j : Int, 0 ≤ j → j < n → st 171 j.toNat = t j := fun j z1 z2 => rd0.1.2 j z1 z2
            have hn : st 170 2 = n := rd0.1.1
            have hw : wrn (fun j => wbl (tcc t n j)) (st 170 5) ax := by
              refine ⟨by omega, fun j z1 z2 => ?_, fun z => ?_⟩
              · have y := b2_lp j z1 z2
                show wbl (tcc t n j)
                rw [tcc_in (by omega), ← htp j (by omega) (by omega)]
                exact y
              · have z : wbl (tcc t n ax) := z
                by_cases hx : ax < n
                · rw [tcc_in (by omega), ← htp ax (by omega) hx] at z
                  unfold wbl at z
                  omega
                · rw [tcc_out (by omega)] at z
                  unfold wbl at z
                  omega
            have t0 : tk t n (st 170 4) 3 59 (s16 170 4) := by rw [← show s8 170 4 = st 170 4 from by omega]; exact t16
            have ts := r_sig rd0 t0
            have eq := wrn_u hw (r_end rd0 t0)
            refine Or.inl ⟨by omega, z0, t0, rd16, fun z => ?_⟩
            exact ⟨0, _, tk_end0 (rd16).2.1.1 (by omega)⟩))⟩
              · have g61 := g_faultKind hG
                exact hQ _ ⟨gs16, (fr_tr (fr_tr (fr_rf _ _) fs8 rfl) fs16 rfl), (show (s16 170 8 = 0 ∧ st 170 8 = 0 ∧ tk t n (st 170 4) 3 59 (s16 170 4) ∧ RDr s16 t n ∧ (k = 80 → ∃ v e : Int, tk t n (s16 170 4) 0 v e)) ∨ (0 < s16 170 8 ∧ st 170 8 = 0 ∧ ¬ ∃ q : Int, tk t n (st 170 4) 3 59 q ∧ (k = 80 → ∃ v e : Int, tk t n q 0 v e)) ∨ (0 < s16 170 8 ∧ 0 < st 170 8) from (by
            have z0 : st 170 8 = 0 := by omega
            have rd0 := rd z0
            have htp : ∀ j : Int, 0 ≤ j → j < n → st 171 j.toNat = t j := fun j z1 z2 => rd0.1.2 j z1 z2
            have hn : st 170 2 = n := rd0.1.1
            refine Or.inr (Or.inl ⟨by omega, z0, fun hx => ?_⟩)
            obtain ⟨q, h1, h2⟩ := hx
            rw [← show s8 170 4 = st 170 4 from by omega] at h1
            exact l16 ⟨q, h1⟩))⟩
              · exfalso; omega
            · refine ⟨fun h62 => ?_, fun h62 => ?_⟩
              · have g63 := g_faultKind gs8
                refine ⟨rfl, ⟨gs8, (show s8 170 8 = 0 → RDr s8 t n from (fun _ => (RDr_of (fs8 170 2 rfl rfl) (fun i => fs8 171 i rfl rfl) (fs8 170 3 rfl rfl) (fs8 170 4 rfl rfl) (fs8 170 5 rfl rfl) (fs8 170 6 rfl rfl) (fs8 170 7 rfl rfl) (fs8 170 12 rfl rfl) (rd (by omega)))))⟩, fun s17 q17 => ?_⟩
                obtain ⟨gs17, fs17, o17⟩ := q17
                change (s17 170 8 = 0 ∧ s8 170 8 = 0 ∧ tk t n (s8 170 4) 3 (59) (s17 170 4) ∧ RDr s17 t n) ∨ (0 < s17 170 8 ∧ s8 170 8 = 0 ∧ ¬ ∃ e : Int, tk t n (s8 170 4) 3 (59) e) ∨ (0 < s17 170 8 ∧ 0 < s8 170 8) at o17
                have g64 := g_faultKind gs17
                have g66 := g_signAt hG
                have e65 : s8 170 4 = st 170 4 := fs8 170 4 rfl rfl
                have g67 := g_signAt gs17
                have g70 := g_in hG
                have e69 : s8 170 35 = st 170 35 := fs8 170 35 rfl rfl
                have e68 : s17 170 35 = s8 170 35 := fs17 170 35 rfl rfl
                have g71 := g_lexAt gs17
                have g74 := g_codes hG
                have e73 : s8 170 34 = st 170 34 := fs8 170 34 rfl rfl
                have e72 : s17 170 34 = s8 170 34 := fs17 170 34 rfl rfl
                rcases o17 with ⟨y17, z17, t17, rd17⟩ | ⟨y17, z17, l17⟩ | ⟨y17, z17⟩
                · have g75 := g_faultKind hG
                  exact hQ _ ⟨gs17, (fr_tr (fr_tr (fr_rf _ _) fs8 rfl) fs17 rfl), (show (s17 170 8 = 0 ∧ st 170 8 = 0 ∧ tk t n (st 170 4) 3 59 (s17 170 4) ∧ RDr s17 t n ∧ (k = 80 → ∃ v e : Int, tk t n (s17 170 4) 0 v e)) ∨ (0 < s17 170 8 ∧ st 170 8 = 0 ∧ ¬ ∃ q : Int, tk t n (st 170 4) 3 59 q ∧ (k = 80 → ∃ v e : Int, tk t n q 0 v e)) ∨ (0 < s17 170 8 ∧ 0 < st 170 8) from (by
            have z0 : st 170 8 = 0 := by omega
            have rd0 := rd z0
            have htp : ∀ j : Int, 0 ≤ j → j < n → st 171 j.toNat = t j := fun j z1 z2 => rd0.1.2 j z1 z2
            have hn : st 170 2 = n := rd0.1.1
            have hw : wrn (fun j => wbl (tcc t n j)) (st 170 5) ax := by
              refine ⟨by omega, fun j z1 z2 => ?_, fun z => ?_⟩
              · have y := b2_lp j z1 z2
                show wbl (tcc t n j)
                rw [tcc_in (by omega), ← htp j (by omega) (by omega)]
                exact y
              · have z : wbl (tcc t n ax) := z
                by_cases hx : ax < n
                · rw [tcc_in (by omega), ← htp ax (by omega) hx] at z
                  unfold wbl at z
                  omega
                · rw [tcc_out (by omega)] at z
                  unfold wbl at z
                  omega
            have t0 : tk t n (st 170 4) 3 59 (s17 170 4) := by rw [← show s8 170 4 = st 170 4 from by omega]; exact t17
            have ts := r_sig rd0 t0
            have eq := wrn_u hw (r_end rd0 t0)
            refine Or.inl ⟨by omega, z0, t0, rd17, fun z => ?_⟩
            exact ⟨0, _, tk_end0 (rd17).2.1.1 (by omega)⟩))⟩
                · have g76 := g_faultKind hG
                  exact hQ _ ⟨gs17, (fr_tr (fr_tr (fr_rf _ _) fs8 rfl) fs17 rfl), (show (s17 170 8 = 0 ∧ st 170 8 = 0 ∧ tk t n (st 170 4) 3 59 (s17 170 4) ∧ RDr s17 t n ∧ (k = 80 → ∃ v e : Int, tk t n (s17 170 4) 0 v e)) ∨ (0 < s17 170 8 ∧ st 170 8 = 0 ∧ ¬ ∃ q : Int, tk t n (st 170 4) 3 59 q ∧ (k = 80 → ∃ v e : Int, tk t n q 0 v e)) ∨ (0 < s17 170 8 ∧ 0 < st 170 8) from (by
            have z0 : st 170 8 = 0 := by omega
            have rd0 := rd z0
            have htp : ∀ j : Int, 0 ≤ j → j < n → st 171 j.toNat = t j := fun j z1 z2 => rd0.1.2 j z1 z2
            have hn : st 170 2 = n := rd0.1.1
            refine Or.inr (Or.inl ⟨by omega, z0, fun hx => ?_⟩)
            obtain ⟨q, h1, h2⟩ := hx
            rw [← show s8 170 4 = st 170 4 from by omega] at h1
            exact l17 ⟨q, h1⟩))⟩
                · exfalso; omega
              · refine ⟨rfl, ⟨gs8, (show 1 ≤ (6) ∧ (6) ≤ 6 from by omega), (show -2147483648 ≤ ax ∧ ax ≤ 2147483647 from by omega)⟩, fun s18 q18 => ?_⟩
                obtain ⟨gs18, fs18, p18⟩ := q18
                change (s8 170 8 = 0 → s18 170 8 = (6)) ∧ (0 < s8 170 8 → s18 170 8 = s8 170 8) at p18
                have g77 := g_faultKind gs8
                have g78 := g_faultKind gs18
                refine ⟨rfl, ⟨gs18, (show s18 170 8 = 0 → RDr s18 t n from (fun z => absurd z (by omega)))⟩, fun s19 q19 => ?_⟩
                obtain ⟨gs19, fs19, o19⟩ := q19
                change (s19 170 8 = 0 ∧ s18 170 8 = 0 ∧ tk t n (s18 170 4) 3 (59) (s19 170 4) ∧ RDr s19 t n) ∨ (0 < s19 170 8 ∧ s18 170 8 = 0 ∧ ¬ ∃ e : Int, tk t n (s18 170 4) 3 (59) e) ∨ (0 < s19 170 8 ∧ 0 < s18 170 8) at o19
                have g79 := g_faultKind gs19
                have g82 := g_signAt hG
                have e81 : s8 170 4 = st 170 4 := fs8 170 4 rfl rfl
                have e80 : s18 170 4 = s8 170 4 := fs18 170 4 rfl rfl
                have g83 := g_signAt gs19
                have g87 := g_in hG
                have e86 : s8 170 35 = st 170 35 := fs8 170 35 rfl rfl
                have e85 : s18 170 35 = s8 170 35 := fs18 170 35 rfl rfl
                have e84 : s19 170 35 = s18 170 35 := fs19 170 35 rfl rfl
                have g88 := g_lexAt gs19
                have g92 := g_codes hG
                have e91 : s8 170 34 = st 170 34 := fs8 170 34 rfl rfl
                have e90 : s18 170 34 = s8 170 34 := fs18 170 34 rfl rfl
                have e89 : s19 170 34 = s18 170 34 := fs19 170 34 rfl rfl
                rcases o19 with ⟨y19, z19, t19, rd19⟩ | ⟨y19, z19, l19⟩ | ⟨y19, z19⟩
                · exfalso; omega
                · exfalso; omega
                · have g93 := g_faultKind hG
                  exact hQ _ ⟨gs19, (fr_tr (fr_tr (fr_tr (fr_rf _ _) fs8 rfl) fs18 rfl) fs19 rfl), (show (s19 170 8 = 0 ∧ st 170 8 = 0 ∧ tk t n (st 170 4) 3 59 (s19 170 4) ∧ RDr s19 t n ∧ (k = 80 → ∃ v e : Int, tk t n (s19 170 4) 0 v e)) ∨ (0 < s19 170 8 ∧ st 170 8 = 0 ∧ ¬ ∃ q : Int, tk t n (st 170 4) 3 59 q ∧ (k = 80 → ∃ v e : Int, tk t n q 0 v e)) ∨ (0 < s19 170 8 ∧ 0 < st 170 8) from (by
            have z0 : st 170 8 = 0 := by omega
            have rd0 := rd z0
            have htp : ∀ j : Int, 0 ≤ j → j < n → st 171 j.toNat = t j := fun j z1 z2 => rd0.1.2 j z1 z2
            have hn : st 170 2 = n := rd0.1.1
            have hw : wrn (fun j => wbl (tcc t n j)) (st 170 5) ax := by
              refine ⟨by omega, fun j z1 z2 => ?_, fun z => ?_⟩
              · have y := b2_lp j z1 z2
                show wbl (tcc t n j)
                rw [tcc_in (by omega), ← htp j (by omega) (by omega)]
                exact y
              · have z : wbl (tcc t n ax) := z
                by_cases hx : ax < n
                · rw [tcc_in (by omega), ← htp ax (by omega) hx] at z
                  unfold wbl at z
                  omega
                · rw [tcc_out (by omega)] at z
                  unfold wbl at z
                  omega
            refine Or.inr (Or.inl ⟨by omega, z0, fun hx => ?_⟩)
            obtain ⟨q, h1, h2⟩ := hx
            have eq := wrn_u hw (r_end rd0 h1)
            obtain ⟨v, e, h3⟩ := h2 (by omega)
            have h4 := tk_0n h3
            omega))⟩
        · have g95 := g_tape hG (ax : Int).toNat
          have e94 : s8 171 (ax : Int).toNat = st 171 (ax : Int).toNat := fs8 171 (ax : Int).toNat rfl rfl
          refine ⟨by omega, ?_⟩
          refine ⟨fun h96 => ?_, fun h96 => ?_⟩
          · refine ⟨by omega, ?_⟩
            exact ih_lp _ (show (1600 - (ax + 1) : Int).toNat < u_lp from by omega) (ax + 1) ⟨(show st 170 5 ≤ (ax + 1) ∧ (ax + 1) ≤ st 170 2 from by omega), (show ∀ j : Int, st 170 5 ≤ j → j < (ax + 1) → wbl (st 171 j.toNat) from (fun j z1 z2 => by
            by_cases z3 : j = ax
            · rw [z3]; unfold wbl; omega
            · exact b2_lp j z1 (by omega)))⟩ rfl
          · refine ⟨by omega, ?_⟩
            refine ⟨fun h97 => ?_, fun h97 => ?_⟩
            · refine ⟨rfl, fun r20 q20 => ?_⟩
              have b20 := q20
              change (r20 = 0 ∨ r20 = 1) ∧ (r20 = 1 ↔ s8 170 3 = 3 ∧ s8 170 6 = (59)) at b20
              have g99 := g_sign hG
              have e98 : s8 170 3 = st 170 3 := fs8 170 3 rfl rfl
              have g101 := g_value hG
              have e100 : s8 170 6 = st 170 6 := fs8 170 6 rfl rfl
              refine ⟨fun h102 => ?_, fun h102 => ?_⟩
              · have g103 := g_faultKind gs8
                refine ⟨rfl, ⟨gs8, (show s8 170 8 = 0 → RDr s8 t n from (fun _ => (RDr_of (fs8 170 2 rfl rfl) (fun i => fs8 171 i rfl rfl) (fs8 170 3 rfl rfl) (fs8 170 4 rfl rfl) (fs8 170 5 rfl rfl) (fs8 170 6 rfl rfl) (fs8 170 7 rfl rfl) (fs8 170 12 rfl rfl) (rd (by omega)))))⟩, fun s21 q21 => ?_⟩
                obtain ⟨gs21, fs21, o21⟩ := q21
                change (s21 170 8 = 0 ∧ s8 170 8 = 0 ∧ tk t n (s8 170 4) 3 (59) (s21 170 4) ∧ RDr s21 t n) ∨ (0 < s21 170 8 ∧ s8 170 8 = 0 ∧ ¬ ∃ e : Int, tk t n (s8 170 4) 3 (59) e) ∨ (0 < s21 170 8 ∧ 0 < s8 170 8) at o21
                have g104 := g_faultKind gs21
                have g106 := g_signAt hG
                have e105 : s8 170 4 = st 170 4 := fs8 170 4 rfl rfl
                have g107 := g_signAt gs21
                have g110 := g_in hG
                have e109 : s8 170 35 = st 170 35 := fs8 170 35 rfl rfl
                have e108 : s21 170 35 = s8 170 35 := fs21 170 35 rfl rfl
                have g111 := g_lexAt gs21
                have g114 := g_codes hG
                have e113 : s8 170 34 = st 170 34 := fs8 170 34 rfl rfl
                have e112 : s21 170 34 = s8 170 34 := fs21 170 34 rfl rfl
                rcases o21 with ⟨y21, z21, t21, rd21⟩ | ⟨y21, z21, l21⟩ | ⟨y21, z21⟩
                · have g115 := g_faultKind hG
                  exact hQ _ ⟨gs21, (fr_tr (fr_tr (fr_rf _ _) fs8 rfl) fs21 rfl), (show (s21 170 8 = 0 ∧ st 170 8 = 0 ∧ tk t n (st 170 4) 3 59 (s21 170 4) ∧ RDr s21 t n ∧ (k = 80 → ∃ v e : Int, tk t n (s21 170 4) 0 v e)) ∨ (0 < s21 170 8 ∧ st 170 8 = 0 ∧ ¬ ∃ q : Int, tk t n (st 170 4) 3 59 q ∧ (k = 80 → ∃ v e : Int, tk t n q 0 v e)) ∨ (0 < s21 170 8 ∧ 0 < st 170 8) from (by
            have z0 : st 170 8 = 0 := by omega
            have rd0 := rd z0
            have htp : ∀ j : Int, 0 ≤ j → j < n → st 171 j.toNat = t j := fun j z1 z2 => rd0.1.2 j z1 z2
            have hn : st 170 2 = n := rd0.1.1
            have hw : wrn (fun j => wbl (tcc t n j)) (st 170 5) ax := by
              refine ⟨by omega, fun j z1 z2 => ?_, fun z => ?_⟩
              · have y := b2_lp j z1 z2
                show wbl (tcc t n j)
                rw [tcc_in (by omega), ← htp j (by omega) (by omega)]
                exact y
              · have z : wbl (tcc t n ax) := z
                by_cases hx : ax < n
                · rw [tcc_in (by omega), ← htp ax (by omega) hx] at z
                  unfold wbl at z
                  omega
                · rw [tcc_out (by omega)] at z
                  unfold wbl at z
                  omega
            have t0 : tk t n (st 170 4) 3 59 (s21 170 4) := by rw [← show s8 170 4 = st 170 4 from by omega]; exact t21
            have ts := r_sig rd0 t0
            have eq := wrn_u hw (r_end rd0 t0)
            refine Or.inl ⟨by omega, z0, t0, rd21, fun z => ?_⟩
            exact ⟨0, _, tk_end0 (rd21).2.1.1 (by omega)⟩))⟩
                · have g116 := g_faultKind hG
                  exact hQ _ ⟨gs21, (fr_tr (fr_tr (fr_rf _ _) fs8 rfl) fs21 rfl), (show (s21 170 8 = 0 ∧ st 170 8 = 0 ∧ tk t n (st 170 4) 3 59 (s21 170 4) ∧ RDr s21 t n ∧ (k = 80 → ∃ v e : Int, tk t n (s21 170 4) 0 v e)) ∨ (0 < s21 170 8 ∧ st 170 8 = 0 ∧ ¬ ∃ q : Int, tk t n (st 170 4) 3 59 q ∧ (k = 80 → ∃ v e : Int, tk t n q 0 v e)) ∨ (0 < s21 170 8 ∧ 0 < st 170 8) from (by
            have z0 : st 170 8 = 0 := by omega
            have rd0 := rd z0
            have htp : ∀ j : Int, 0 ≤ j → j < n → st 171 j.toNat = t j := fun j z1 z2 => rd0.1.2 j z1 z2
            have hn : st 170 2 = n := rd0.1.1
            refine Or.inr (Or.inl ⟨by omega, z0, fun hx => ?_⟩)
            obtain ⟨q, h1, h2⟩ := hx
            rw [← show s8 170 4 = st 170 4 from by omega] at h1
            exact l21 ⟨q, h1⟩))⟩
                · exfalso; omega
              · refine ⟨fun h117 => ?_, fun h117 => ?_⟩
                · have g118 := g_faultKind gs8
                  refine ⟨rfl, ⟨gs8, (show s8 170 8 = 0 → RDr s8 t n from (fun _ => (RDr_of (fs8 170 2 rfl rfl) (fun i => fs8 171 i rfl rfl) (fs8 170 3 rfl rfl) (fs8 170 4 rfl rfl) (fs8 170 5 rfl rfl) (fs8 170 6 rfl rfl) (fs8 170 7 rfl rfl) (fs8 170 12 rfl rfl) (rd (by omega)))))⟩, fun s22 q22 => ?_⟩
                  obtain ⟨gs22, fs22, o22⟩ := q22
                  change (s22 170 8 = 0 ∧ s8 170 8 = 0 ∧ tk t n (s8 170 4) 3 (59) (s22 170 4) ∧ RDr s22 t n) ∨ (0 < s22 170 8 ∧ s8 170 8 = 0 ∧ ¬ ∃ e : Int, tk t n (s8 170 4) 3 (59) e) ∨ (0 < s22 170 8 ∧ 0 < s8 170 8) at o22
                  have g119 := g_faultKind gs22
                  have g121 := g_signAt hG
                  have e120 : s8 170 4 = st 170 4 := fs8 170 4 rfl rfl
                  have g122 := g_signAt gs22
                  have g125 := g_in hG
                  have e124 : s8 170 35 = st 170 35 := fs8 170 35 rfl rfl
                  have e123 : s22 170 35 = s8 170 35 := fs22 170 35 rfl rfl
                  have g126 := g_lexAt gs22
                  have g129 := g_codes hG
                  have e128 : s8 170 34 = st 170 34 := fs8 170 34 rfl rfl
                  have e127 : s22 170 34 = s8 170 34 := fs22 170 34 rfl rfl
                  rcases o22 with ⟨y22, z22, t22, rd22⟩ | ⟨y22, z22, l22⟩ | ⟨y22, z22⟩
                  · have g130 := g_faultKind hG
                    exact hQ _ ⟨gs22, (fr_tr (fr_tr (fr_rf _ _) fs8 rfl) fs22 rfl), (show (s22 170 8 = 0 ∧ st 170 8 = 0 ∧ tk t n (st 170 4) 3 59 (s22 170 4) ∧ RDr s22 t n ∧ (k = 80 → ∃ v e : Int, tk t n (s22 170 4) 0 v e)) ∨ (0 < s22 170 8 ∧ st 170 8 = 0 ∧ ¬ ∃ q : Int, tk t n (st 170 4) 3 59 q ∧ (k = 80 → ∃ v e : Int, tk t n q 0 v e)) ∨ (0 < s22 170 8 ∧ 0 < st 170 8) from (by
            have z0 : st 170 8 = 0 := by omega
            have rd0 := rd z0
            have htp : ∀ j : Int, 0 ≤ j → j < n → st 171 j.toNat = t j := fun j z1 z2 => rd0.1.2 j z1 z2
            have hn : st 170 2 = n := rd0.1.1
            have hw : wrn (fun j => wbl (tcc t n j)) (st 170 5) ax := by
              refine ⟨by omega, fun j z1 z2 => ?_, fun z => ?_⟩
              · have y := b2_lp j z1 z2
                show wbl (tcc t n j)
                rw [tcc_in (by omega), ← htp j (by omega) (by omega)]
                exact y
              · have z : wbl (tcc t n ax) := z
                by_cases hx : ax < n
                · rw [tcc_in (by omega), ← htp ax (by omega) hx] at z
                  unfold wbl at z
                  omega
                · rw [tcc_out (by omega)] at z
                  unfold wbl at z
                  omega
            have t0 : tk t n (st 170 4) 3 59 (s22 170 4) := by rw [← show s8 170 4 = st 170 4 from by omega]; exact t22
            have ts := r_sig rd0 t0
            have eq := wrn_u hw (r_end rd0 t0)
            refine Or.inl ⟨by omega, z0, t0, rd22, fun z => ?_⟩
            exact ⟨0, _, tk_end0 (rd22).2.1.1 (by omega)⟩))⟩
                  · have g131 := g_faultKind hG
                    exact hQ _ ⟨gs22, (fr_tr (fr_tr (fr_rf _ _) fs8 rfl) fs22 rfl), (show (s22 170 8 = 0 ∧ st 170 8 = 0 ∧ tk t n (st 170 4) 3 59 (s22 170 4) ∧ RDr s22 t n ∧ (k = 80 → ∃ v e : Int, tk t n (s22 170 4) 0 v e)) ∨ (0 < s22 170 8 ∧ st 170 8 = 0 ∧ ¬ ∃ q : Int, tk t n (st 170 4) 3 59 q ∧ (k = 80 → ∃ v e : Int, tk t n q 0 v e)) ∨ (0 < s22 170 8 ∧ 0 < st 170 8) from (by
            have z0 : st 170 8 = 0 := by omega
            have rd0 := rd z0
            have htp : ∀ j : Int, 0 ≤ j → j < n → st 171 j.toNat = t j := fun j z1 z2 => rd0.1.2 j z1 z2
            have hn : st 170 2 = n := rd0.1.1
            refine Or.inr (Or.inl ⟨by omega, z0, fun hx => ?_⟩)
            obtain ⟨q, h1, h2⟩ := hx
            rw [← show s8 170 4 = st 170 4 from by omega] at h1
            exact l22 ⟨q, h1⟩))⟩
                  · exfalso; omega
                · refine ⟨fun h132 => ?_, fun h132 => ?_⟩
                  · have g133 := g_faultKind gs8
                    refine ⟨rfl, ⟨gs8, (show s8 170 8 = 0 → RDr s8 t n from (fun _ => (RDr_of (fs8 170 2 rfl rfl) (fun i => fs8 171 i rfl rfl) (fs8 170 3 rfl rfl) (fs8 170 4 rfl rfl) (fs8 170 5 rfl rfl) (fs8 170 6 rfl rfl) (fs8 170 7 rfl rfl) (fs8 170 12 rfl rfl) (rd (by omega)))))⟩, fun s23 q23 => ?_⟩
                    obtain ⟨gs23, fs23, o23⟩ := q23
                    change (s23 170 8 = 0 ∧ s8 170 8 = 0 ∧ tk t n (s8 170 4) 3 (59) (s23 170 4) ∧ RDr s23 t n) ∨ (0 < s23 170 8 ∧ s8 170 8 = 0 ∧ ¬ ∃ e : Int, tk t n (s8 170 4) 3 (59) e) ∨ (0 < s23 170 8 ∧ 0 < s8 170 8) at o23
                    have g134 := g_faultKind gs23
                    have g136 := g_signAt hG
                    have e135 : s8 170 4 = st 170 4 := fs8 170 4 rfl rfl
                    have g137 := g_signAt gs23
                    have g140 := g_in hG
                    have e139 : s8 170 35 = st 170 35 := fs8 170 35 rfl rfl
                    have e138 : s23 170 35 = s8 170 35 := fs23 170 35 rfl rfl
                    have g141 := g_lexAt gs23
                    have g144 := g_codes hG
                    have e143 : s8 170 34 = st 170 34 := fs8 170 34 rfl rfl
                    have e142 : s23 170 34 = s8 170 34 := fs23 170 34 rfl rfl
                    rcases o23 with ⟨y23, z23, t23, rd23⟩ | ⟨y23, z23, l23⟩ | ⟨y23, z23⟩
                    · have g145 := g_faultKind hG
                      exact hQ _ ⟨gs23, (fr_tr (fr_tr (fr_rf _ _) fs8 rfl) fs23 rfl), (show (s23 170 8 = 0 ∧ st 170 8 = 0 ∧ tk t n (st 170 4) 3 59 (s23 170 4) ∧ RDr s23 t n ∧ (k = 80 → ∃ v e : Int, tk t n (s23 170 4) 0 v e)) ∨ (0 < s23 170 8 ∧ st 170 8 = 0 ∧ ¬ ∃ q : Int, tk t n (st 170 4) 3 59 q ∧ (k = 80 → ∃ v e : Int, tk t n q 0 v e)) ∨ (0 < s23 170 8 ∧ 0 < st 170 8) from (by
            have z0 : st 170 8 = 0 := by omega
            have rd0 := rd z0
            have htp : ∀ j : Int, 0 ≤ j → j < n → st 171 j.toNat = t j := fun j z1 z2 => rd0.1.2 j z1 z2
            have hn : st 170 2 = n := rd0.1.1
            have hw : wrn (fun j => wbl (tcc t n j)) (st 170 5) ax := by
              refine ⟨by omega, fun j z1 z2 => ?_, fun z => ?_⟩
              · have y := b2_lp j z1 z2
                show wbl (tcc t n j)
                rw [tcc_in (by omega), ← htp j (by omega) (by omega)]
                exact y
              · have z : wbl (tcc t n ax) := z
                by_cases hx : ax < n
                · rw [tcc_in (by omega), ← htp ax (by omega) hx] at z
                  unfold wbl at z
                  omega
                · rw [tcc_out (by omega)] at z
                  unfold wbl at z
                  omega
            have t0 : tk t n (st 170 4) 3 59 (s23 170 4) := by rw [← show s8 170 4 = st 170 4 from by omega]; exact t23
            have ts := r_sig rd0 t0
            have eq := wrn_u hw (r_end rd0 t0)
            refine Or.inl ⟨by omega, z0, t0, rd23, fun z => ?_⟩
            exact ⟨0, _, tk_end0 (rd23).2.1.1 (by omega)⟩))⟩
                    · have g146 := g_faultKind hG
                      exact hQ _ ⟨gs23, (fr_tr (fr_tr (fr_rf _ _) fs8 rfl) fs23 rfl), (show (s23 170 8 = 0 ∧ st 170 8 = 0 ∧ tk t n (st 170 4) 3 59 (s23 170 4) ∧ RDr s23 t n ∧ (k = 80 → ∃ v e : Int, tk t n (s23 170 4) 0 v e)) ∨ (0 < s23 170 8 ∧ st 170 8 = 0 ∧ ¬ ∃ q : Int, tk t n (st 170 4) 3 59 q ∧ (k = 80 → ∃ v e : Int, tk t n q 0 v e)) ∨ (0 < s23 170 8 ∧ 0 < st 170 8) from (by
            have z0 : st 170 8 = 0 := by omega
            have rd0 := rd z0
            have htp : ∀ j : Int, 0 ≤ j → j < n → st 171 j.toNat = t j := fun j z1 z2 => rd0.1.2 j z1 z2
            have hn : st 170 2 = n := rd0.1.1
            refine Or.inr (Or.inl ⟨by omega, z0, fun hx => ?_⟩)
            obtain ⟨q, h1, h2⟩ := hx
            rw [← show s8 170 4 = st 170 4 from by omega] at h1
            exact l23 ⟨q, h1⟩))⟩
                    · exfalso; omega
                  · refine ⟨rfl, ⟨gs8, (show 1 ≤ (6) ∧ (6) ≤ 6 from by omega), (show -2147483648 ≤ ax ∧ ax ≤ 2147483647 from by omega)⟩, fun s24 q24 => ?_⟩
                    obtain ⟨gs24, fs24, p24⟩ := q24
                    change (s8 170 8 = 0 → s24 170 8 = (6)) ∧ (0 < s8 170 8 → s24 170 8 = s8 170 8) at p24
                    have g147 := g_faultKind gs8
                    have g148 := g_faultKind gs24
                    refine ⟨rfl, ⟨gs24, (show s24 170 8 = 0 → RDr s24 t n from (fun z => absurd z (by omega)))⟩, fun s25 q25 => ?_⟩
                    obtain ⟨gs25, fs25, o25⟩ := q25
                    change (s25 170 8 = 0 ∧ s24 170 8 = 0 ∧ tk t n (s24 170 4) 3 (59) (s25 170 4) ∧ RDr s25 t n) ∨ (0 < s25 170 8 ∧ s24 170 8 = 0 ∧ ¬ ∃ e : Int, tk t n (s24 170 4) 3 (59) e) ∨ (0 < s25 170 8 ∧ 0 < s24 170 8) at o25
                    have g149 := g_faultKind gs25
                    have g152 := g_signAt hG
                    have e151 : s8 170 4 = st 170 4 := fs8 170 4 rfl rfl
                    have e150 : s24 170 4 = s8 170 4 := fs24 170 4 rfl rfl
                    have g153 := g_signAt gs25
                    have g157 := g_in hG
                    have e156 : s8 170 35 = st 170 35 := fs8 170 35 rfl rfl
                    have e155 : s24 170 35 = s8 170 35 := fs24 170 35 rfl rfl
                    have e154 : s25 170 35 = s24 170 35 := fs25 170 35 rfl rfl
                    have g158 := g_lexAt gs25
                    have g162 := g_codes hG
                    have e161 : s8 170 34 = st 170 34 := fs8 170 34 rfl rfl
                    have e160 : s24 170 34 = s8 170 34 := fs24 170 34 rfl rfl
                    have e159 : s25 170 34 = s24 170 34 := fs25 170 34 rfl rfl
                    rcases o25 with ⟨y25, z25, t25, rd25⟩ | ⟨y25, z25, l25⟩ | ⟨y25, z25⟩
                    · exfalso; omega
                    · exfalso; omega
                    · have g163 := g_faultKind hG
                      exact hQ _ ⟨gs25, (fr_tr (fr_tr (fr_tr (fr_rf _ _) fs8 rfl) fs24 rfl) fs25 rfl), (show (s25 170 8 = 0 ∧ st 170 8 = 0 ∧ tk t n (st 170 4) 3 59 (s25 170 4) ∧ RDr s25 t n ∧ (k = 80 → ∃ v e : Int, tk t n (s25 170 4) 0 v e)) ∨ (0 < s25 170 8 ∧ st 170 8 = 0 ∧ ¬ ∃ q : Int, tk t n (st 170 4) 3 59 q ∧ (k = 80 → ∃ v e : Int, tk t n q 0 v e)) ∨ (0 < s25 170 8 ∧ 0 < st 170 8) from (by
            have z0 : st 170 8 = 0 := by omega
            have rd0 := rd z0
            have htp : ∀ j : Int, 0 ≤ j → j < n → st 171 j.toNat = t j := fun j z1 z2 => rd0.1.2 j z1 z2
            have hn : st 170 2 = n := rd0.1.1
            have hw : wrn (fun j => wbl (tcc t n j)) (st 170 5) ax := by
              refine ⟨by omega, fun j z1 z2 => ?_, fun z => ?_⟩
              · have y := b2_lp j z1 z2
                show wbl (tcc t n j)
                rw [tcc_in (by omega), ← htp j (by omega) (by omega)]
                exact y
              · have z : wbl (tcc t n ax) := z
                by_cases hx : ax < n
                · rw [tcc_in (by omega), ← htp ax (by omega) hx] at z
                  unfold wbl at z
                  omega
                · rw [tcc_out (by omega)] at z
                  unfold wbl at z
                  omega
            refine Or.inr (Or.inl ⟨by omega, z0, fun hx => ?_⟩)
            obtain ⟨q, h1, h2⟩ := hx
            have eq := wrn_u hw (r_end rd0 h1)
            obtain ⟨v, e, h3⟩ := h2 (by omega)
            have h4 := tk_0n h3
            omega))⟩
            · refine ⟨by omega, ?_⟩
              exact ih_lp _ (show (1600 - (ax + 1) : Int).toNat < u_lp from by omega) (ax + 1) ⟨(show st 170 5 ≤ (ax + 1) ∧ (ax + 1) ≤ st 170 2 from by omega), (show ∀ j : Int, st 170 5 ≤ j → j < (ax + 1) → wbl (st 171 j.toNat) from (fun j z1 z2 => by
            by_cases z3 : j = ax
            · rw [z3]; unfold wbl; omega
            · exact b2_lp j z1 (by omega)))⟩ rfl
    exact lp _ (s8 170 5) ⟨(show st 170 5 ≤ (s8 170 5) ∧ (s8 170 5) ≤ st 170 2 from by omega), (show ∀ j : Int, st 170 5 ≤ j → j < (s8 170 5) → wbl (st 171 j.toNat) from fun j z1 z2 => by omega)⟩ rfl
  · have e164 : s8 170 4 = st 170 4 := fs8 170 4 rfl rfl
    exact hQ _ ⟨gs8, (fr_tr (fr_rf _ _) fs8 rfl), (show (s8 170 8 = 0 ∧ st 170 8 = 0 ∧ tk t n (st 170 4) 3 59 (s8 170 4) ∧ RDr s8 t n ∧ (k = 80 → ∃ v e : Int, tk t n (s8 170 4) 0 v e)) ∨ (0 < s8 170 8 ∧ st 170 8 = 0 ∧ ¬ ∃ q : Int, tk t n (st 170 4) 3 59 q ∧ (k = 80 → ∃ v e : Int, tk t n q 0 v e)) ∨ (0 < s8 170 8 ∧ 0 < st 170 8) from (by
            by_cases z0 : st 170 8 = 0
            · refine Or.inr (Or.inl ⟨by omega, z0, fun hx => ?_⟩)
              obtain ⟨q, h1, h2⟩ := hx
              have z := r_sig (rd z0) h1
              omega
            · exact Or.inr (Or.inr ⟨by omega, by omega⟩)))⟩
theorem k_rFin_m (hTb : aTb zSh rx_tb cl) {t : Int → Int} {n : Int} {D : Nat} (hD : 4 ≤ D) : ∀ as st (Q Q' : zQ), (∀ r st', Q r st' → Q' r st') → (k_rFin t n) 211 as st Q → cl D 211 as st Q' := by
  intro as st Q Q' hQ h
  unfold k_rFin at h
  split at h
  · obtain ⟨rfl, h⟩ := h
    exact c_rFin hTb hD (ct_rFin_m hQ h)
  · exact h.elim
end RzA
