/-! printed by wip/pw/r/q9.py: the bodies of the reference's statements -/
def m_rPlacing : aM := ([(170, 3), (170, 4), (170, 5), (170, 6), (170, 7), (170, 8), (170, 9), (170, 12)], [172, 190])
def rq_rPlacing (t : Int → Int) (n : Int) (T : zS) (wv e : Int) (st : zS) : Prop := gInv zgt st ∧ (RDr st t n) ∧ (RT (st 170 35) T st) ∧ (st 170 8 = 0 ∧ st 170 12 = -1) ∧ (tk t n (st 170 4) 1 wv e)
def en_rPlacing (t : Int → Int) (n : Int) (T : zS) (wv e : Int) (st : zS) (s1 : zS) : Prop := gInv zgt s1 ∧ aFr m_rPlacing st s1 ∧ (BO (s1 170 8) (RDr s1 t n) (fun T' q => bPl t n T e T' q) (s1 170 4) (fun T' => RT (st 170 35) T' s1))
def ct_rPlacing (t : Int → Int) (n : Int) (T : zS) (wv e : Int) (st : zS) (Q : zQ) : Prop := rq_rPlacing t n T wv e st ∧ (∀ (s1 : zS), en_rPlacing t n T wv e st s1 → Q none s1)
theorem ct_rPlacing_m {t : Int → Int} {n : Int} {T : zS} {wv e : Int} {st : zS} {Q Q' : zQ} (hQ : ∀ r st', Q r st' → Q' r st') (h : ct_rPlacing t n T wv e st Q) : ct_rPlacing t n T wv e st Q' := ⟨h.1, fun x0 x1 => hQ _ _ (h.2 x0 x1)⟩
def k_rPlacing (t : Int → Int) (n : Int) (T : zS) (wv e : Int) : zCall := fun _ as st Q => match as with
  | [.inr (.inr (.inl z_o))] => z_o = 170 ∧ ct_rPlacing t n T wv e st Q
  | _ => False
def m_rThinging : aM := ([(170, 3), (170, 4), (170, 5), (170, 6), (170, 7), (170, 8), (170, 9), (170, 12)], [181, 182, 183, 191])
def rq_rThinging (t : Int → Int) (n : Int) (T : zS) (wv e : Int) (st : zS) : Prop := gInv zgt st ∧ (RDr st t n) ∧ (RT (st 170 35) T st) ∧ (st 170 8 = 0 ∧ st 170 12 = -1) ∧ (tk t n (st 170 4) 1 wv e)
def en_rThinging (t : Int → Int) (n : Int) (T : zS) (wv e : Int) (st : zS) (s1 : zS) : Prop := gInv zgt s1 ∧ aFr m_rThinging st s1 ∧ (BO (s1 170 8) (RDr s1 t n) (fun T' q => bTh t n T e T' q) (s1 170 4) (fun T' => RT (st 170 35) T' s1))
def ct_rThinging (t : Int → Int) (n : Int) (T : zS) (wv e : Int) (st : zS) (Q : zQ) : Prop := rq_rThinging t n T wv e st ∧ (∀ (s1 : zS), en_rThinging t n T wv e st s1 → Q none s1)
theorem ct_rThinging_m {t : Int → Int} {n : Int} {T : zS} {wv e : Int} {st : zS} {Q Q' : zQ} (hQ : ∀ r st', Q r st' → Q' r st') (h : ct_rThinging t n T wv e st Q) : ct_rThinging t n T wv e st Q' := ⟨h.1, fun x0 x1 => hQ _ _ (h.2 x0 x1)⟩
def k_rThinging (t : Int → Int) (n : Int) (T : zS) (wv e : Int) : zCall := fun _ as st Q => match as with
  | [.inr (.inr (.inl z_o))] => z_o = 170 ∧ ct_rThinging t n T wv e st Q
  | _ => False
def m_rStepping : aM := ([(170, 3), (170, 4), (170, 5), (170, 6), (170, 7), (170, 8), (170, 9), (170, 12)], [178, 179, 180])
def rq_rStepping (t : Int → Int) (n : Int) (T : zS) (wv e : Int) (st : zS) : Prop := gInv zgt st ∧ (RDr st t n) ∧ (RT (st 170 35) T st) ∧ (st 170 8 = 0 ∧ st 170 12 = -1) ∧ (tk t n (st 170 4) 1 wv e)
def en_rStepping (t : Int → Int) (n : Int) (T : zS) (wv e : Int) (st : zS) (s1 : zS) : Prop := gInv zgt s1 ∧ aFr m_rStepping st s1 ∧ (BO (s1 170 8) (RDr s1 t n) (fun T' q => bSp t n T e T' q) (s1 170 4) (fun T' => RT (st 170 35) T' s1))
def ct_rStepping (t : Int → Int) (n : Int) (T : zS) (wv e : Int) (st : zS) (Q : zQ) : Prop := rq_rStepping t n T wv e st ∧ (∀ (s1 : zS), en_rStepping t n T wv e st s1 → Q none s1)
theorem ct_rStepping_m {t : Int → Int} {n : Int} {T : zS} {wv e : Int} {st : zS} {Q Q' : zQ} (hQ : ∀ r st', Q r st' → Q' r st') (h : ct_rStepping t n T wv e st Q) : ct_rStepping t n T wv e st Q' := ⟨h.1, fun x0 x1 => hQ _ _ (h.2 x0 x1)⟩
def k_rStepping (t : Int → Int) (n : Int) (T : zS) (wv e : Int) : zCall := fun _ as st Q => match as with
  | [.inr (.inr (.inl z_o))] => z_o = 170 ∧ ct_rStepping t n T wv e st Q
  | _ => False
def m_rStreeting : aM := ([(170, 3), (170, 4), (170, 5), (170, 6), (170, 7), (170, 8), (170, 9), (170, 12)], [173, 174, 175, 176, 177])
def rq_rStreeting (t : Int → Int) (n : Int) (T : zS) (wv e : Int) (st : zS) : Prop := gInv zgt st ∧ (RDr st t n) ∧ (RT (st 170 35) T st) ∧ (st 170 8 = 0 ∧ st 170 12 = -1) ∧ (tk t n (st 170 4) 1 wv e)
def en_rStreeting (t : Int → Int) (n : Int) (T : zS) (wv e : Int) (st : zS) (s1 : zS) : Prop := gInv zgt s1 ∧ aFr m_rStreeting st s1 ∧ (BO (s1 170 8) (RDr s1 t n) (fun T' q => bSt t n T e T' q) (s1 170 4) (fun T' => RT (st 170 35) T' s1))
def ct_rStreeting (t : Int → Int) (n : Int) (T : zS) (wv e : Int) (st : zS) (Q : zQ) : Prop := rq_rStreeting t n T wv e st ∧ (∀ (s1 : zS), en_rStreeting t n T wv e st s1 → Q none s1)
theorem ct_rStreeting_m {t : Int → Int} {n : Int} {T : zS} {wv e : Int} {st : zS} {Q Q' : zQ} (hQ : ∀ r st', Q r st' → Q' r st') (h : ct_rStreeting t n T wv e st Q) : ct_rStreeting t n T wv e st Q' := ⟨h.1, fun x0 x1 => hQ _ _ (h.2 x0 x1)⟩
def k_rStreeting (t : Int → Int) (n : Int) (T : zS) (wv e : Int) : zCall := fun _ as st Q => match as with
  | [.inr (.inr (.inl z_o))] => z_o = 170 ∧ ct_rStreeting t n T wv e st Q
  | _ => False
def m_rHeating : aM := ([(170, 3), (170, 4), (170, 5), (170, 6), (170, 7), (170, 8), (170, 9), (170, 12)], [184, 185])
def rq_rHeating (t : Int → Int) (n : Int) (T : zS) (wv e : Int) (v : Int) (st : zS) : Prop := gInv zgt st ∧ (RDr st t n) ∧ (RT (st 170 35) T st) ∧ (st 170 8 = 0 ∧ st 170 12 = -1) ∧ (tk t n (st 170 4) 1 wv e) ∧ (v = 0 ∨ v = 1)
def en_rHeating (t : Int → Int) (n : Int) (T : zS) (wv e : Int) (v : Int) (st : zS) (s1 : zS) : Prop := gInv zgt s1 ∧ aFr m_rHeating st s1 ∧ ((v = 0 → BO (s1 170 8) (RDr s1 t n) (fun T' q => bHe t n T e T' q 13 40) (s1 170 4) (fun T' => RT (st 170 35) T' s1)) ∧ (v = 1 → BO (s1 170 8) (RDr s1 t n) (fun T' q => bHe t n T e T' q 14 100) (s1 170 4) (fun T' => RT (st 170 35) T' s1)))
def ct_rHeating (t : Int → Int) (n : Int) (T : zS) (wv e : Int) (v : Int) (st : zS) (Q : zQ) : Prop := rq_rHeating t n T wv e v st ∧ (∀ (s1 : zS), en_rHeating t n T wv e v st s1 → Q none s1)
theorem ct_rHeating_m {t : Int → Int} {n : Int} {T : zS} {wv e : Int} {v : Int} {st : zS} {Q Q' : zQ} (hQ : ∀ r st', Q r st' → Q' r st') (h : ct_rHeating t n T wv e v st Q) : ct_rHeating t n T wv e v st Q' := ⟨h.1, fun x0 x1 => hQ _ _ (h.2 x0 x1)⟩
def k_rHeating (t : Int → Int) (n : Int) (T : zS) (wv e : Int) : zCall := fun _ as st Q => match as with
  | [.inr (.inr (.inl z_o)), .inl v] => z_o = 170 ∧ ct_rHeating t n T wv e v st Q
  | _ => False
section Rz9
variable {cl : Nat → zCall}
set_option maxHeartbeats 4000000 in
set_option maxRecDepth 100000 in
theorem c_rPlacing (hTb : aTb zSh rx_tb cl) {t : Int → Int} {n : Int} {T : zS} {wv e : Int} {D : Nat} (hD : 4 ≤ D) {st : zS} {Q : zQ} (h : ct_rPlacing t n T wv e st Q) : cl D 204 [.inr (.inr (.inl 170))] st Q := by
  obtain ⟨d, rfl⟩ : ∃ d, D = d + 1 := ⟨D - 1, by omega⟩
  refine hTb d 204 (rx_m204, 1, 0, 0, 0) rfl _ _ _ (Nat.le_of_ble_eq_true rfl) (fun K hcl hsf hsl => ?_)
  have hcm : zmo (wcL [(199, k_rCounts t n), (202, k_rFresh t n T)]) (cl d) := (wcL_m (wm_cons (k_rCounts_m hTb (by omega)) (wm_cons (k_rFresh_m hTb (by omega)) wm_nil)))
  obtain ⟨hR, hQ⟩ := h
  obtain ⟨hG, rd, rt, q, th⟩ := hR
  change RDr st t n at rd
  change RT (st 170 35) T st at rt
  change st 170 8 = 0 ∧ st 170 12 = -1 at q
  change tk t n (st 170 4) 1 wv e at th
  have g1 := g_in hG
  have g2 := g_faultKind hG
  have g3 := g_lexAt hG
  have g4 := g_signAt hG
  obtain ⟨f0, lx⟩ := q
  have rn1 := rt.1.1
  have rn2 := rt.1.2.1
  have rt1 := rt.2.1.1
  have rt2 := rt.2.1.2.1
  have rs1 := rt.2.2.1.1
  have rs2 := rt.2.2.1.2.1
  have rp1 := rt.2.2.2.1.1
  have rp2 := rt.2.2.2.1.2.1
  have g5 := g_codes hG
  refine yr1_ok (Rt := Q) (wc := (wcL [(199, k_rCounts t n), (202, k_rFresh t n T)])) (stp := []) hcm hcl [] 62 ?_
  show ((0 ≤ st 170 35 ∧ st 170 35 < 2) ∧ ((¬ st 172 (st 170 35 : Int).toNat = (8 : Int) → (170 = 170 ∧ (rq_rCounts t n (0) st ∧ (∀ (r6 : Int) (s6 : zS), en_rCounts t n (0) st r6 s6 → ((¬ r6 = (0 : Int) → ((-2147483648 ≤ (8 : Int) * (s6 170 35) ∧ (8 : Int) * (s6 170 35) ≤ 2147483647) ∧ ((0 ≤ s6 170 35 ∧ s6 170 35 < 2) ∧ ((-2147483648 ≤ ((8 : Int) * (s6 170 35)) + (s6 172 (s6 170 35 : Int).toNat) ∧ ((8 : Int) * (s6 170 35)) + (s6 172 (s6 170 35 : Int).toNat) ≤ 2147483647) ∧ (170 = 170 ∧ (rq_rFresh t n T  s6 ∧ (∀ (r7 : Int) (s7 : zS), en_rFresh t n T  s6 r7 s7 → ((0 ≤ ((8 : Int) * (s6 170 35)) + (s6 172 (s6 170 35 : Int).toNat) ∧ ((8 : Int) * (s6 170 35)) + (s6 172 (s6 170 35 : Int).toNat) < 16) ∧ ((¬ s7 170 8 = (0 : Int) → Q none (zup s7 190 (((8 : Int) * (s6 170 35)) + (s6 172 (s6 170 35 : Int).toNat) : Int).toNat r7)) ∧ (¬ (¬ s7 170 8 = (0 : Int)) → ((0 ≤ s7 170 35 ∧ s7 170 35 < 2) ∧ ((-2147483648 ≤ (s7 172 (s7 170 35 : Int).toNat) + 1 ∧ (s7 172 (s7 170 35 : Int).toNat) + 1 ≤ 2147483647) ∧ ((0 ≤ s7 170 35 ∧ s7 170 35 < 2) ∧ Q none (zup (zup s7 190 (((8 : Int) * (s6 170 35)) + (s6 172 (s6 170 35 : Int).toNat) : Int).toNat r7) 172 (s7 170 35 : Int).toNat ((s7 172 (s7 170 35 : Int).toNat) + 1))))))))))))))) ∧ (¬ (¬ r6 = (0 : Int)) → Q none s6)))))) ∧ (¬ (¬ st 172 (st 170 35 : Int).toNat = (8 : Int)) → (170 = 170 ∧ (rq_rCounts t n (1) st ∧ (∀ (r8 : Int) (s8 : zS), en_rCounts t n (1) st r8 s8 → ((¬ r8 = (0 : Int) → ((-2147483648 ≤ (8 : Int) * (s8 170 35) ∧ (8 : Int) * (s8 170 35) ≤ 2147483647) ∧ ((0 ≤ s8 170 35 ∧ s8 170 35 < 2) ∧ ((-2147483648 ≤ ((8 : Int) * (s8 170 35)) + (s8 172 (s8 170 35 : Int).toNat) ∧ ((8 : Int) * (s8 170 35)) + (s8 172 (s8 170 35 : Int).toNat) ≤ 2147483647) ∧ (170 = 170 ∧ (rq_rFresh t n T  s8 ∧ (∀ (r9 : Int) (s9 : zS), en_rFresh t n T  s8 r9 s9 → ((0 ≤ ((8 : Int) * (s8 170 35)) + (s8 172 (s8 170 35 : Int).toNat) ∧ ((8 : Int) * (s8 170 35)) + (s8 172 (s8 170 35 : Int).toNat) < 16) ∧ ((¬ s9 170 8 = (0 : Int) → Q none (zup s9 190 (((8 : Int) * (s8 170 35)) + (s8 172 (s8 170 35 : Int).toNat) : Int).toNat r9)) ∧ (¬ (¬ s9 170 8 = (0 : Int)) → ((0 ≤ s9 170 35 ∧ s9 170 35 < 2) ∧ ((-2147483648 ≤ (s9 172 (s9 170 35 : Int).toNat) + 1 ∧ (s9 172 (s9 170 35 : Int).toNat) + 1 ≤ 2147483647) ∧ ((0 ≤ s9 170 35 ∧ s9 170 35 < 2) ∧ Q none (zup (zup s9 190 (((8 : Int) * (s8 170 35)) + (s8 172 (s8 170 35 : Int).toNat) : Int).toNat r9) 172 (s9 170 35 : Int).toNat ((s9 172 (s9 170 35 : Int).toNat) + 1))))))))))))))) ∧ (¬ (¬ r8 = (0 : Int)) → Q none s8))))))))
  have g10 := g_places hG (st 170 35 : Int).toNat
  refine ⟨by omega, ?_⟩
  refine ⟨fun h11 => ?_, fun h11 => ?_⟩
  · refine ⟨rfl, ⟨hG, (show RDr st t n from rd), (show st 170 8 = 0 ∧ st 170 12 = -1 ∧ ((0) = 0 ∨ (0) = 1) from by omega)⟩, fun r6 s6 q6 => ?_⟩
    obtain ⟨gs6, fs6, o6⟩ := q6
    change (s6 170 8 = 0 ∧ st 170 8 = 0 ∧ r6 = 1 ∧ (0) = 0 ∧ RDr s6 t n ∧ NXr st s6 t n) ∨ (0 < s6 170 8 ∧ st 170 8 = 0 ∧ r6 = 0 ∧ (0) = 1) ∨ (0 < s6 170 8 ∧ 0 < st 170 8) at o6
    have g12 := g_faultKind gs6
    have e13 : s6 170 35 = st 170 35 := fs6 170 35 rfl rfl
    have g14 := g_signAt gs6
    have g15 := g_lexAt gs6
    have e16 : s6 170 34 = st 170 34 := fs6 170 34 rfl rfl
    rcases o6 with ⟨y6, z6, k6, f6, rd6, nx6⟩ | ⟨y6, z6, k6, f6⟩ | ⟨y6, z6⟩
    · have ee6 : s6 170 4 = e := NXr_e nx6 th (by omega)
      refine ⟨fun h17 => ?_, fun h17 => (by exfalso; omega)⟩
      refine ⟨by omega, ?_⟩
      have e18 : s6 172 (s6 170 35 : Int).toNat = st 172 (st 170 35 : Int).toNat := (fs6 172 (s6 170 35 : Int).toNat rfl rfl).trans (by rw [e13] <;> rfl)
      refine ⟨by omega, ?_⟩
      refine ⟨by omega, ?_⟩
      refine ⟨rfl, ⟨gs6, (show s6 170 8 = 0 → RDr s6 t n from (fun _ => rd6)), (show RTn (s6 170 35) T s6 from (RTn_e (T := T) (st := st) (by omega) (fun i => (fs6 172 i rfl rfl).trans ((fun _ => rfl) i)) (fun i => (fs6 190 i rfl rfl).trans ((fun _ => rfl) i)) rt.1)), (show RTt (s6 170 35) T s6 from (RTt_e (T := T) (st := st) (by omega) (fun i => (fs6 181 i rfl rfl).trans ((fun _ => rfl) i)) (fun i => (fs6 191 i rfl rfl).trans ((fun _ => rfl) i)) (fun i => (fs6 182 i rfl rfl).trans ((fun _ => rfl) i)) (fun i => (fs6 183 i rfl rfl).trans ((fun _ => rfl) i)) rt.2.1))⟩, fun r7 s7 q7 => ?_⟩
      obtain ⟨gs7, fs7, v7, o7⟩ := q7
      change -9223372036854775808 ≤ r7 ∧ r7 ≤ 9223372036854775807 at v7
      change (s7 170 8 = 0 ∧ s6 170 8 = 0 ∧ ∃ x : Int, tk t n (s6 170 4) 1 r7 (s7 170 4) ∧ NOwn r7 ∧ isN6 r7 x ∧ FrN T x ∧ RDr s7 t n) ∨ (0 < s7 170 8 ∧ s6 170 8 = 0 ∧ ¬ ∃ v x e : Int, tk t n (s6 170 4) 1 v e ∧ NOwn v ∧ isN6 v x ∧ FrN T x) ∨ (0 < s7 170 8 ∧ 0 < s6 170 8) at o7
      have g19 := g_faultKind gs7
      have g20 := g_signAt gs7
      have e21 : s7 170 35 = s6 170 35 := fs7 170 35 rfl rfl
      have g22 := g_lexAt gs7
      have e23 : s7 170 34 = s6 170 34 := fs7 170 34 rfl rfl
      rcases o7 with ⟨y7, z7, x7, t7, w7, i7, fr7, rd7⟩ | ⟨y7, z7, l7⟩ | ⟨y7, z7⟩
      · refine ⟨by omega, ?_⟩
        refine ⟨fun h24 => (by exfalso; omega), fun h24 => ?_⟩
        have e26 : s6 172 (st 170 35 : Int).toNat = st 172 (st 170 35 : Int).toNat := fs6 172 (st 170 35 : Int).toNat rfl rfl
        have e25 : s7 172 (s7 170 35 : Int).toNat = s6 172 (st 170 35 : Int).toNat := (fs7 172 (s7 170 35 : Int).toNat rfl rfl).trans (by rw [e21, e13] <;> rfl)
        refine ⟨by omega, ?_⟩
        refine ⟨by omega, ?_⟩
        refine ⟨by omega, ?_⟩
        exact hQ _ ⟨(gInv_up (gInv_up gs7 (p_placeName (by omega))) (p_places (by omega))), (fr_a (fr_a (fr_tr (fr_tr (fr_rf _ _) fs6 rfl) fs7 rfl) rfl) rfl), (show BO (s7 170 8) (RDr (zup (zup s7 190 (((8 : Int) * (s6 170 35)) + (s6 172 (s6 170 35 : Int).toNat) : Int).toNat r7) 172 (s7 170 35 : Int).toNat ((s7 172 (s7 170 35 : Int).toNat) + 1)) t n) (fun T' q => bPl t n T e T' q) (s7 170 4) (fun T' => RT (st 170 35) T' (zup (zup s7 190 (((8 : Int) * (s6 170 35)) + (s6 172 (s6 170 35 : Int).toNat) : Int).toNat r7) 172 (s7 170 35 : Int).toNat ((s7 172 (s7 170 35 : Int).toNat) + 1))) from (by
            refine Or.inr ⟨by omega, (show RDr (zup (zup s7 190 (((8 : Int) * (s6 170 35)) + (s6 172 (s6 170 35 : Int).toNat) : Int).toNat r7) 172 (s7 170 35 : Int).toNat ((s7 172 (s7 170 35 : Int).toNat) + 1)) t n from rd7), ⟨_, show T 0 1 < 8 from by omega, r7, x7, (show tk t n e 1 r7 (s7 170 4) from by rw [← ee6]; exact t7), w7, i7, fr7, rfl⟩, fun T' q hb => ?_⟩
            obtain ⟨h0, v, w, h1, h2, h3, h4, h5⟩ := (show bPl t n T e T' q from hb)
            obtain ⟨-, rfl, rfl⟩ := tk_u (show tk t n e 1 r7 (s7 170 4) from by rw [← ee6]; exact t7) h1
            have ex := (isN6_u i7 h3).mp rfl
            subst ex
            subst h5
            exact ⟨rfl, RT_pl (by omega) rt h0 i7 (fun i => ((show ∀ i : Nat, (zup (zup s7 190 (((8 : Int) * (s6 170 35)) + (s6 172 (s6 170 35 : Int).toNat) : Int).toNat r7) 172 (s7 170 35 : Int).toNat ((s7 172 (s7 170 35 : Int).toNat) + 1)) 172 i = (up1 (st 172) (s7 170 35 : Int).toNat ((s7 172 (s7 170 35 : Int).toNat) + 1)) i from fun i => by show up1 ((zup s7 190 (((8 : Int) * (s6 170 35)) + (s6 172 (s6 170 35 : Int).toNat) : Int).toNat r7) 172) (s7 170 35 : Int).toNat ((s7 172 (s7 170 35 : Int).toNat) + 1) i = up1 (st 172) (s7 170 35 : Int).toNat ((s7 172 (s7 170 35 : Int).toNat) + 1) i; rw [show (zup s7 190 (((8 : Int) * (s6 170 35)) + (s6 172 (s6 170 35 : Int).toNat) : Int).toNat r7) 172 = (st 172) from funext (show ∀ i : Nat, (zup s7 190 (((8 : Int) * (s6 170 35)) + (s6 172 (s6 170 35 : Int).toNat) : Int).toNat r7) 172 i = (st 172) i from (show ∀ i : Nat, s7 172 i = (st 172) i from fun i => (fs7 172 i rfl rfl).trans ((show ∀ i : Nat, s6 172 i = (st 172) i from fun i => (fs6 172 i rfl rfl).trans ((fun _ => rfl) i)) i)))]) i).trans (by show (up1 (st 172) (s7 170 35 : Int).toNat ((s7 172 (s7 170 35 : Int).toNat) + 1)) i = (up1 (st 172) (st 170 35 : Int).toNat (T 0 1 + 1)) i; simp only [show s7 170 35 = st 170 35 from by omega, show s7 172 = (st 172) from funext (show ∀ i : Nat, s7 172 i = (st 172) i from fun i => (fs7 172 i rfl rfl).trans ((show ∀ i : Nat, s6 172 i = (st 172) i from fun i => (fs6 172 i rfl rfl).trans ((fun _ => rfl) i)) i)), rn1])) (fun i => ((show ∀ i : Nat, (zup (zup s7 190 (((8 : Int) * (s6 170 35)) + (s6 172 (s6 170 35 : Int).toNat) : Int).toNat r7) 172 (s7 170 35 : Int).toNat ((s7 172 (s7 170 35 : Int).toNat) + 1)) 190 i = (up1 (st 190) (((8 : Int) * (s6 170 35)) + (s6 172 (s6 170 35 : Int).toNat) : Int).toNat r7) i from fun i => by show up1 (s7 190) (((8 : Int) * (s6 170 35)) + (s6 172 (s6 170 35 : Int).toNat) : Int).toNat r7 i = up1 (st 190) (((8 : Int) * (s6 170 35)) + (s6 172 (s6 170 35 : Int).toNat) : Int).toNat r7 i; rw [show s7 190 = (st 190) from funext (show ∀ i : Nat, s7 190 i = (st 190) i from fun i => (fs7 190 i rfl rfl).trans ((show ∀ i : Nat, s6 190 i = (st 190) i from fun i => (fs6 190 i rfl rfl).trans ((fun _ => rfl) i)) i))]) i).trans (by show (up1 (st 190) (((8 : Int) * (s6 170 35)) + (s6 172 (s6 170 35 : Int).toNat) : Int).toNat r7) i = (up1 (st 190) (8 * st 170 35 + T 0 1 : Int).toNat r7) i; simp only [show s6 170 35 = st 170 35 from by omega, show s6 172 = (st 172) from funext (show ∀ i : Nat, s6 172 i = (st 172) i from fun i => (fs6 172 i rfl rfl).trans ((fun _ => rfl) i)), rn1])) (by
              exact fun c i h1 h2 y0 y1 => by
                rcases (show c = 173 ∨ c = 174 ∨ c = 175 ∨ c = 176 ∨ c = 177 ∨ c = 178 ∨ c = 179 ∨ c = 180 ∨ c = 181 ∨ c = 182 ∨ c = 183 ∨ c = 184 ∨ c = 185 ∨ c = 186 ∨ c = 187 ∨ c = 188 ∨ c = 189 ∨ c = 191 from by omega) with rfl | rfl | rfl | rfl | rfl | rfl | rfl | rfl | rfl | rfl | rfl | rfl | rfl | rfl | rfl | rfl | rfl | rfl
                · exact (fun i => (fs7 173 i rfl rfl).trans ((fun i => (fs6 173 i rfl rfl).trans ((fun _ => rfl) i)) i)) i
                · exact (fun i => (fs7 174 i rfl rfl).trans ((fun i => (fs6 174 i rfl rfl).trans ((fun _ => rfl) i)) i)) i
                · exact (fun i => (fs7 175 i rfl rfl).trans ((fun i => (fs6 175 i rfl rfl).trans ((fun _ => rfl) i)) i)) i
                · exact (fun i => (fs7 176 i rfl rfl).trans ((fun i => (fs6 176 i rfl rfl).trans ((fun _ => rfl) i)) i)) i
                · exact (fun i => (fs7 177 i rfl rfl).trans ((fun i => (fs6 177 i rfl rfl).trans ((fun _ => rfl) i)) i)) i
                · exact (fun i => (fs7 178 i rfl rfl).trans ((fun i => (fs6 178 i rfl rfl).trans ((fun _ => rfl) i)) i)) i
                · exact (fun i => (fs7 179 i rfl rfl).trans ((fun i => (fs6 179 i rfl rfl).trans ((fun _ => rfl) i)) i)) i
                · exact (fun i => (fs7 180 i rfl rfl).trans ((fun i => (fs6 180 i rfl rfl).trans ((fun _ => rfl) i)) i)) i
                · exact (fun i => (fs7 181 i rfl rfl).trans ((fun i => (fs6 181 i rfl rfl).trans ((fun _ => rfl) i)) i)) i
                · exact (fun i => (fs7 182 i rfl rfl).trans ((fun i => (fs6 182 i rfl rfl).trans ((fun _ => rfl) i)) i)) i
                · exact (fun i => (fs7 183 i rfl rfl).trans ((fun i => (fs6 183 i rfl rfl).trans ((fun _ => rfl) i)) i)) i
                · exact (fun i => (fs7 184 i rfl rfl).trans ((fun i => (fs6 184 i rfl rfl).trans ((fun _ => rfl) i)) i)) i
                · exact (fun i => (fs7 185 i rfl rfl).trans ((fun i => (fs6 185 i rfl rfl).trans ((fun _ => rfl) i)) i)) i
                · exact (fun i => (fs7 186 i rfl rfl).trans ((fun i => (fs6 186 i rfl rfl).trans ((fun _ => rfl) i)) i)) i
                · exact (fun i => (fs7 187 i rfl rfl).trans ((fun i => (fs6 187 i rfl rfl).trans ((fun _ => rfl) i)) i)) i
                · exact (fun i => (fs7 188 i rfl rfl).trans ((fun i => (fs6 188 i rfl rfl).trans ((fun _ => rfl) i)) i)) i
                · exact (fun i => (fs7 189 i rfl rfl).trans ((fun i => (fs6 189 i rfl rfl).trans ((fun _ => rfl) i)) i)) i
                · exact (fun i => (fs7 191 i rfl rfl).trans ((fun i => (fs6 191 i rfl rfl).trans ((fun _ => rfl) i)) i)) i)⟩))⟩
      · refine ⟨by omega, ?_⟩
        refine ⟨fun h27 => ?_, fun h27 => (by exfalso; omega)⟩
        exact hQ _ ⟨(gInv_up gs7 (p_placeName (by omega))), (fr_a (fr_tr (fr_tr (fr_rf _ _) fs6 rfl) fs7 rfl) rfl), (show BO (s7 170 8) (RDr (zup s7 190 (((8 : Int) * (s6 170 35)) + (s6 172 (s6 170 35 : Int).toNat) : Int).toNat r7) t n) (fun T' q => bPl t n T e T' q) (s7 170 4) (fun T' => RT (st 170 35) T' (zup s7 190 (((8 : Int) * (s6 170 35)) + (s6 172 (s6 170 35 : Int).toNat) : Int).toNat r7)) from (by
            refine Or.inl ⟨by omega, fun hx => ?_⟩
            obtain ⟨T', q, hb⟩ := hx
            obtain ⟨h0, v, w, h1, h2, h3, h4, h5⟩ := (show bPl t n T e T' q from hb)
            exact l7 ⟨v, w, q, (by rw [ee6]; exact h1), h2, h3, h4⟩))⟩
      · exfalso; omega
    · exfalso; omega
    · exfalso; omega
  · refine ⟨rfl, ⟨hG, (show RDr st t n from rd), (show st 170 8 = 0 ∧ st 170 12 = -1 ∧ ((1) = 0 ∨ (1) = 1) from by omega)⟩, fun r8 s8 q8 => ?_⟩
    obtain ⟨gs8, fs8, o8⟩ := q8
    change (s8 170 8 = 0 ∧ st 170 8 = 0 ∧ r8 = 1 ∧ (1) = 0 ∧ RDr s8 t n ∧ NXr st s8 t n) ∨ (0 < s8 170 8 ∧ st 170 8 = 0 ∧ r8 = 0 ∧ (1) = 1) ∨ (0 < s8 170 8 ∧ 0 < st 170 8) at o8
    have g28 := g_faultKind gs8
    have e29 : s8 170 35 = st 170 35 := fs8 170 35 rfl rfl
    have g30 := g_signAt gs8
    have g31 := g_lexAt gs8
    have e32 : s8 170 34 = st 170 34 := fs8 170 34 rfl rfl
    rcases o8 with ⟨y8, z8, k8, f8, rd8, nx8⟩ | ⟨y8, z8, k8, f8⟩ | ⟨y8, z8⟩
    · exfalso; omega
    · refine ⟨fun h33 => (by exfalso; omega), fun h33 => ?_⟩
      exact hQ _ ⟨gs8, (fr_tr (fr_rf _ _) fs8 rfl), (show BO (s8 170 8) (RDr s8 t n) (fun T' q => bPl t n T e T' q) (s8 170 4) (fun T' => RT (st 170 35) T' s8) from (by
            refine Or.inl ⟨by omega, fun hx => ?_⟩
            obtain ⟨T', q, hb⟩ := hx
            obtain ⟨h0, v, w, h1, h2, h3, h4, h5⟩ := (show bPl t n T e T' q from hb)
            omega))⟩
    · exfalso; omega
theorem k_rPlacing_m (hTb : aTb zSh rx_tb cl) {t : Int → Int} {n : Int} {T : zS} {wv e : Int} {D : Nat} (hD : 4 ≤ D) : ∀ as st (Q Q' : zQ), (∀ r st', Q r st' → Q' r st') → (k_rPlacing t n T wv e) 204 as st Q → cl D 204 as st Q' := by
  intro as st Q Q' hQ h
  unfold k_rPlacing at h
  split at h
  · obtain ⟨rfl, h⟩ := h
    exact c_rPlacing hTb hD (ct_rPlacing_m hQ h)
  · exact h.elim
set_option maxHeartbeats 4000000 in
set_option maxRecDepth 100000 in
theorem c_rThinging (hTb : aTb zSh rx_tb cl) {t : Int → Int} {n : Int} {T : zS} {wv e : Int} {D : Nat} (hD : 4 ≤ D) {st : zS} {Q : zQ} (h : ct_rThinging t n T wv e st Q) : cl D 207 [.inr (.inr (.inl 170))] st Q := by
  obtain ⟨d, rfl⟩ : ∃ d, D = d + 1 := ⟨D - 1, by omega⟩
  refine hTb d 207 (rx_m207, 2, 0, 0, 0) rfl _ _ _ (Nat.le_of_ble_eq_true rfl) (fun K hcl hsf hsl => ?_)
  have hcm : zmo (wcL [(199, k_rCounts t n), (202, k_rFresh t n T), (200, k_rMustJ t n), (203, k_rKnown t n T), (188, k_rNumber t n)]) (cl d) := (wcL_m (wm_cons (k_rCounts_m hTb (by omega)) (wm_cons (k_rFresh_m hTb (by omega)) (wm_cons (k_rMustJ_m hTb (by omega)) (wm_cons (k_rKnown_m hTb (by omega)) (wm_cons (k_rNumber_m hTb (by omega)) wm_nil))))))
  obtain ⟨hR, hQ⟩ := h
  obtain ⟨hG, rd, rt, q, th⟩ := hR
  change RDr st t n at rd
  change RT (st 170 35) T st at rt
  change st 170 8 = 0 ∧ st 170 12 = -1 at q
  change tk t n (st 170 4) 1 wv e at th
  have g1 := g_in hG
  have g2 := g_faultKind hG
  have g3 := g_lexAt hG
  have g4 := g_signAt hG
  obtain ⟨f0, lx⟩ := q
  have rn1 := rt.1.1
  have rn2 := rt.1.2.1
  have rt1 := rt.2.1.1
  have rt2 := rt.2.1.2.1
  have rs1 := rt.2.2.1.1
  have rs2 := rt.2.2.1.2.1
  have rp1 := rt.2.2.2.1.1
  have rp2 := rt.2.2.2.1.2.1
  have g5 := g_codes hG
  refine yr1_ok (Rt := Q) (wc := (wcL [(199, k_rCounts t n), (202, k_rFresh t n T), (200, k_rMustJ t n), (203, k_rKnown t n T), (188, k_rNumber t n)])) (stp := []) hcm hcl [] 85 ?_
  show ((0 ≤ st 170 35 ∧ st 170 35 < 2) ∧ ((¬ st 181 (st 170 35 : Int).toNat = (8 : Int) → (170 = 170 ∧ (rq_rCounts t n (0) st ∧ (∀ (r6 : Int) (s6 : zS), en_rCounts t n (0) st r6 s6 → ((¬ r6 = (0 : Int) → ((-2147483648 ≤ (8 : Int) * (s6 170 35) ∧ (8 : Int) * (s6 170 35) ≤ 2147483647) ∧ ((0 ≤ s6 170 35 ∧ s6 170 35 < 2) ∧ ((-2147483648 ≤ ((8 : Int) * (s6 170 35)) + (s6 181 (s6 170 35 : Int).toNat) ∧ ((8 : Int) * (s6 170 35)) + (s6 181 (s6 170 35 : Int).toNat) ≤ 2147483647) ∧ (170 = 170 ∧ (rq_rFresh t n T  s6 ∧ (∀ (r7 : Int) (s7 : zS), en_rFresh t n T  s6 r7 s7 → ((0 ≤ ((8 : Int) * (s6 170 35)) + (s6 181 (s6 170 35 : Int).toNat) ∧ ((8 : Int) * (s6 170 35)) + (s6 181 (s6 170 35 : Int).toNat) < 16) ∧ (170 = 170 ∧ (rq_rMustJ t n (24948) (zup s7 191 (((8 : Int) * (s6 170 35)) + (s6 181 (s6 170 35 : Int).toNat) : Int).toNat r7) ∧ (∀ (s8 : zS), en_rMustJ t n (24948) (zup s7 191 (((8 : Int) * (s6 170 35)) + (s6 181 (s6 170 35 : Int).toNat) : Int).toNat r7) s8 → (170 = 170 ∧ (rq_rKnown t n T (0) s8 ∧ (∀ (r9 : Int) (s9 : zS), en_rKnown t n T (0) s8 r9 s9 → ((0 ≤ ((8 : Int) * (s6 170 35)) + (s6 181 (s6 170 35 : Int).toNat) ∧ ((8 : Int) * (s6 170 35)) + (s6 181 (s6 170 35 : Int).toNat) < 16) ∧ (170 = 170 ∧ (rq_rMustJ t n (1886743660) (zup s9 182 (((8 : Int) * (s6 170 35)) + (s6 181 (s6 170 35 : Int).toNat) : Int).toNat r9) ∧ (∀ (s10 : zS), en_rMustJ t n (1886743660) (zup s9 182 (((8 : Int) * (s6 170 35)) + (s6 181 (s6 170 35 : Int).toNat) : Int).toNat r9) s10 → (170 = 170 ∧ (rq_rNumber t n (0) (9) s10 ∧ (∀ (r11 : Int) (s11 : zS), en_rNumber t n (0) (9) s10 r11 s11 → ((0 ≤ ((8 : Int) * (s6 170 35)) + (s6 181 (s6 170 35 : Int).toNat) ∧ ((8 : Int) * (s6 170 35)) + (s6 181 (s6 170 35 : Int).toNat) < 16) ∧ ((¬ s11 170 8 = (0 : Int) → Q none (zup s11 183 (((8 : Int) * (s6 170 35)) + (s6 181 (s6 170 35 : Int).toNat) : Int).toNat r11)) ∧ (¬ (¬ s11 170 8 = (0 : Int)) → ((0 ≤ s11 170 35 ∧ s11 170 35 < 2) ∧ ((-2147483648 ≤ (s11 181 (s11 170 35 : Int).toNat) + 1 ∧ (s11 181 (s11 170 35 : Int).toNat) + 1 ≤ 2147483647) ∧ ((0 ≤ s11 170 35 ∧ s11 170 35 < 2) ∧ Q none (zup (zup s11 183 (((8 : Int) * (s6 170 35)) + (s6 181 (s6 170 35 : Int).toNat) : Int).toNat r11) 181 (s11 170 35 : Int).toNat ((s11 181 (s11 170 35 : Int).toNat) + 1))))))))))))))))))))))))))))) ∧ (¬ (¬ r6 = (0 : Int)) → Q none s6)))))) ∧ (¬ (¬ st 181 (st 170 35 : Int).toNat = (8 : Int)) → (170 = 170 ∧ (rq_rCounts t n (1) st ∧ (∀ (r12 : Int) (s12 : zS), en_rCounts t n (1) st r12 s12 → ((¬ r12 = (0 : Int) → ((-2147483648 ≤ (8 : Int) * (s12 170 35) ∧ (8 : Int) * (s12 170 35) ≤ 2147483647) ∧ ((0 ≤ s12 170 35 ∧ s12 170 35 < 2) ∧ ((-2147483648 ≤ ((8 : Int) * (s12 170 35)) + (s12 181 (s12 170 35 : Int).toNat) ∧ ((8 : Int) * (s12 170 35)) + (s12 181 (s12 170 35 : Int).toNat) ≤ 2147483647) ∧ (170 = 170 ∧ (rq_rFresh t n T  s12 ∧ (∀ (r13 : Int) (s13 : zS), en_rFresh t n T  s12 r13 s13 → ((0 ≤ ((8 : Int) * (s12 170 35)) + (s12 181 (s12 170 35 : Int).toNat) ∧ ((8 : Int) * (s12 170 35)) + (s12 181 (s12 170 35 : Int).toNat) < 16) ∧ (170 = 170 ∧ (rq_rMustJ t n (24948) (zup s13 191 (((8 : Int) * (s12 170 35)) + (s12 181 (s12 170 35 : Int).toNat) : Int).toNat r13) ∧ (∀ (s14 : zS), en_rMustJ t n (24948) (zup s13 191 (((8 : Int) * (s12 170 35)) + (s12 181 (s12 170 35 : Int).toNat) : Int).toNat r13) s14 → (170 = 170 ∧ (rq_rKnown t n T (0) s14 ∧ (∀ (r15 : Int) (s15 : zS), en_rKnown t n T (0) s14 r15 s15 → ((0 ≤ ((8 : Int) * (s12 170 35)) + (s12 181 (s12 170 35 : Int).toNat) ∧ ((8 : Int) * (s12 170 35)) + (s12 181 (s12 170 35 : Int).toNat) < 16) ∧ (170 = 170 ∧ (rq_rMustJ t n (1886743660) (zup s15 182 (((8 : Int) * (s12 170 35)) + (s12 181 (s12 170 35 : Int).toNat) : Int).toNat r15) ∧ (∀ (s16 : zS), en_rMustJ t n (1886743660) (zup s15 182 (((8 : Int) * (s12 170 35)) + (s12 181 (s12 170 35 : Int).toNat) : Int).toNat r15) s16 → (170 = 170 ∧ (rq_rNumber t n (0) (9) s16 ∧ (∀ (r17 : Int) (s17 : zS), en_rNumber t n (0) (9) s16 r17 s17 → ((0 ≤ ((8 : Int) * (s12 170 35)) + (s12 181 (s12 170 35 : Int).toNat) ∧ ((8 : Int) * (s12 170 35)) + (s12 181 (s12 170 35 : Int).toNat) < 16) ∧ ((¬ s17 170 8 = (0 : Int) → Q none (zup s17 183 (((8 : Int) * (s12 170 35)) + (s12 181 (s12 170 35 : Int).toNat) : Int).toNat r17)) ∧ (¬ (¬ s17 170 8 = (0 : Int)) → ((0 ≤ s17 170 35 ∧ s17 170 35 < 2) ∧ ((-2147483648 ≤ (s17 181 (s17 170 35 : Int).toNat) + 1 ∧ (s17 181 (s17 170 35 : Int).toNat) + 1 ≤ 2147483647) ∧ ((0 ≤ s17 170 35 ∧ s17 170 35 < 2) ∧ Q none (zup (zup s17 183 (((8 : Int) * (s12 170 35)) + (s12 181 (s12 170 35 : Int).toNat) : Int).toNat r17) 181 (s17 170 35 : Int).toNat ((s17 181 (s17 170 35 : Int).toNat) + 1))))))))))))))))))))))))))))) ∧ (¬ (¬ r12 = (0 : Int)) → Q none s12))))))))
  have g18 := g_things hG (st 170 35 : Int).toNat
  refine ⟨by omega, ?_⟩
  refine ⟨fun h19 => ?_, fun h19 => ?_⟩
  · refine ⟨rfl, ⟨hG, (show RDr st t n from rd), (show st 170 8 = 0 ∧ st 170 12 = -1 ∧ ((0) = 0 ∨ (0) = 1) from by omega)⟩, fun r6 s6 q6 => ?_⟩
    obtain ⟨gs6, fs6, o6⟩ := q6
    change (s6 170 8 = 0 ∧ st 170 8 = 0 ∧ r6 = 1 ∧ (0) = 0 ∧ RDr s6 t n ∧ NXr st s6 t n) ∨ (0 < s6 170 8 ∧ st 170 8 = 0 ∧ r6 = 0 ∧ (0) = 1) ∨ (0 < s6 170 8 ∧ 0 < st 170 8) at o6
    have g20 := g_faultKind gs6
    have e21 : s6 170 35 = st 170 35 := fs6 170 35 rfl rfl
    have g22 := g_signAt gs6
    have g23 := g_lexAt gs6
    have e24 : s6 170 34 = st 170 34 := fs6 170 34 rfl rfl
    rcases o6 with ⟨y6, z6, k6, f6, rd6, nx6⟩ | ⟨y6, z6, k6, f6⟩ | ⟨y6, z6⟩
    · have ee6 : s6 170 4 = e := NXr_e nx6 th (by omega)
      refine ⟨fun h25 => ?_, fun h25 => (by exfalso; omega)⟩
      refine ⟨by omega, ?_⟩
      have e26 : s6 181 (s6 170 35 : Int).toNat = st 181 (st 170 35 : Int).toNat := (fs6 181 (s6 170 35 : Int).toNat rfl rfl).trans (by rw [e21] <;> rfl)
      refine ⟨by omega, ?_⟩
      refine ⟨by omega, ?_⟩
      refine ⟨rfl, ⟨gs6, (show s6 170 8 = 0 → RDr s6 t n from (fun _ => rd6)), (show RTn (s6 170 35) T s6 from (RTn_e (T := T) (st := st) (by omega) (fun i => (fs6 172 i rfl rfl).trans ((fun _ => rfl) i)) (fun i => (fs6 190 i rfl rfl).trans ((fun _ => rfl) i)) rt.1)), (show RTt (s6 170 35) T s6 from (RTt_e (T := T) (st := st) (by omega) (fun i => (fs6 181 i rfl rfl).trans ((fun _ => rfl) i)) (fun i => (fs6 191 i rfl rfl).trans ((fun _ => rfl) i)) (fun i => (fs6 182 i rfl rfl).trans ((fun _ => rfl) i)) (fun i => (fs6 183 i rfl rfl).trans ((fun _ => rfl) i)) rt.2.1))⟩, fun r7 s7 q7 => ?_⟩
      obtain ⟨gs7, fs7, v7, o7⟩ := q7
      change -9223372036854775808 ≤ r7 ∧ r7 ≤ 9223372036854775807 at v7
      change (s7 170 8 = 0 ∧ s6 170 8 = 0 ∧ ∃ x : Int, tk t n (s6 170 4) 1 r7 (s7 170 4) ∧ NOwn r7 ∧ isN6 r7 x ∧ FrN T x ∧ RDr s7 t n) ∨ (0 < s7 170 8 ∧ s6 170 8 = 0 ∧ ¬ ∃ v x e : Int, tk t n (s6 170 4) 1 v e ∧ NOwn v ∧ isN6 v x ∧ FrN T x) ∨ (0 < s7 170 8 ∧ 0 < s6 170 8) at o7
      have g27 := g_faultKind gs7
      have g28 := g_signAt gs7
      have e29 : s7 170 35 = s6 170 35 := fs7 170 35 rfl rfl
      have g30 := g_lexAt gs7
      have e31 : s7 170 34 = s6 170 34 := fs7 170 34 rfl rfl
      rcases o7 with ⟨y7, z7, x7, t7, w7, i7, fr7, rd7⟩ | ⟨y7, z7, l7⟩ | ⟨y7, z7⟩
      · refine ⟨by omega, ?_⟩
        refine ⟨rfl, ⟨(gInv_up gs7 (p_thingName (by omega))), (show s7 170 8 = 0 → RDr (zup s7 191 (((8 : Int) * (s6 170 35)) + (s6 181 (s6 170 35 : Int).toNat) : Int).toNat r7) t n from (fun _ => (show RDr (zup s7 191 (((8 : Int) * (s6 170 35)) + (s6 181 (s6 170 35 : Int).toNat) : Int).toNat r7) t n from rd7)))⟩, fun s8 q8 => ?_⟩
        obtain ⟨gs8, fs8, o8⟩ := q8
        change (s8 170 8 = 0 ∧ s7 170 8 = 0 ∧ tk t n (s7 170 4) 1 (24948) (s8 170 4) ∧ RDr s8 t n) ∨ (0 < s8 170 8 ∧ s7 170 8 = 0 ∧ ¬ ∃ e : Int, tk t n (s7 170 4) 1 (24948) e) ∨ (0 < s8 170 8 ∧ 0 < s7 170 8) at o8
        have g32 := g_faultKind gs8
        have g33 := g_signAt gs8
        have e34 : s8 170 35 = s7 170 35 := fs8 170 35 rfl rfl
        have g35 := g_lexAt gs8
        have e36 : s8 170 34 = s7 170 34 := fs8 170 34 rfl rfl
        rcases o8 with ⟨y8, z8, t8, rd8⟩ | ⟨y8, z8, l8⟩ | ⟨y8, z8⟩
        · refine ⟨rfl, ⟨gs8, (show s8 170 8 = 0 → RDr s8 t n from (fun _ => rd8)), (show RTn (s8 170 35) T s8 from (RTn_e (T := T) (st := st) (by omega) (fun i => (fs8 172 i rfl rfl).trans ((fun i => (fs7 172 i rfl rfl).trans ((fun i => (fs6 172 i rfl rfl).trans ((fun _ => rfl) i)) i)) i)) (fun i => (fs8 190 i rfl rfl).trans ((fun i => (fs7 190 i rfl rfl).trans ((fun i => (fs6 190 i rfl rfl).trans ((fun _ => rfl) i)) i)) i)) rt.1))⟩, fun r9 s9 q9 => ?_⟩
          obtain ⟨gs9, fs9, v9, o9⟩ := q9
          change 0 ≤ r9 ∧ r9 ≤ 7 at v9
          change (s9 170 8 = 0 ∧ s8 170 8 = 0 ∧ ∃ v : Int, tk t n (s8 170 4) 1 v (s9 170 4) ∧ KnP T v r9 ∧ hb (0) r9 = 0 ∧ RDr s9 t n) ∨ (0 < s9 170 8 ∧ s8 170 8 = 0 ∧ ¬ ∃ v a e : Int, tk t n (s8 170 4) 1 v e ∧ KnP T v a ∧ hb (0) a = 0) ∨ (0 < s9 170 8 ∧ 0 < s8 170 8) at o9
          have g37 := g_faultKind gs9
          have g38 := g_signAt gs9
          have e39 : s9 170 35 = s8 170 35 := fs9 170 35 rfl rfl
          have g40 := g_lexAt gs9
          have e41 : s9 170 34 = s8 170 34 := fs9 170 34 rfl rfl
          rcases o9 with ⟨y9, z9, v9, t9, kn9, hz9, rd9⟩ | ⟨y9, z9, l9⟩ | ⟨y9, z9⟩
          · refine ⟨by omega, ?_⟩
            refine ⟨rfl, ⟨(gInv_up gs9 (p_thingTold (by omega))), (show s9 170 8 = 0 → RDr (zup s9 182 (((8 : Int) * (s6 170 35)) + (s6 181 (s6 170 35 : Int).toNat) : Int).toNat r9) t n from (fun _ => (show RDr (zup s9 182 (((8 : Int) * (s6 170 35)) + (s6 181 (s6 170 35 : Int).toNat) : Int).toNat r9) t n from rd9)))⟩, fun s10 q10 => ?_⟩
            obtain ⟨gs10, fs10, o10⟩ := q10
            change (s10 170 8 = 0 ∧ s9 170 8 = 0 ∧ tk t n (s9 170 4) 1 (1886743660) (s10 170 4) ∧ RDr s10 t n) ∨ (0 < s10 170 8 ∧ s9 170 8 = 0 ∧ ¬ ∃ e : Int, tk t n (s9 170 4) 1 (1886743660) e) ∨ (0 < s10 170 8 ∧ 0 < s9 170 8) at o10
            have g42 := g_faultKind gs10
            have g43 := g_signAt gs10
            have e44 : s10 170 35 = s9 170 35 := fs10 170 35 rfl rfl
            have g45 := g_lexAt gs10
            have e46 : s10 170 34 = s9 170 34 := fs10 170 34 rfl rfl
            rcases o10 with ⟨y10, z10, t10, rd10⟩ | ⟨y10, z10, l10⟩ | ⟨y10, z10⟩
            · refine ⟨rfl, ⟨gs10, (show s10 170 8 = 0 → RDr s10 t n from (fun _ => rd10))⟩, fun r11 s11 q11 => ?_⟩
              obtain ⟨gs11, fs11, v11, o11⟩ := q11
              change -2147483648 ≤ r11 ∧ r11 ≤ 2147483647 at v11
              change (s11 170 8 = 0 ∧ s10 170 8 = 0 ∧ (0) ≤ r11 ∧ r11 ≤ (9) ∧ tk t n (s10 170 4) 2 r11 (s11 170 4) ∧ RDr s11 t n) ∨ (0 < s11 170 8 ∧ s10 170 8 = 0 ∧ ¬ ∃ v e : Int, tk t n (s10 170 4) 2 v e ∧ (0) ≤ v ∧ v ≤ (9)) ∨ (0 < s11 170 8 ∧ 0 < s10 170 8) at o11
              have g47 := g_faultKind gs11
              have g48 := g_signAt gs11
              have e49 : s11 170 35 = s10 170 35 := fs11 170 35 rfl rfl
              have g50 := g_lexAt gs11
              have e51 : s11 170 34 = s10 170 34 := fs11 170 34 rfl rfl
              rcases o11 with ⟨y11, z11, a11, b11, t11, rd11⟩ | ⟨y11, z11, l11⟩ | ⟨y11, z11⟩
              · refine ⟨by omega, ?_⟩
                refine ⟨fun h52 => (by exfalso; omega), fun h52 => ?_⟩
                have e58 : s6 181 (st 170 35 : Int).toNat = st 181 (st 170 35 : Int).toNat := fs6 181 (st 170 35 : Int).toNat rfl rfl
                have e57 : s7 181 (st 170 35 : Int).toNat = s6 181 (st 170 35 : Int).toNat := fs7 181 (st 170 35 : Int).toNat rfl rfl
                have e56 : s8 181 (st 170 35 : Int).toNat = s7 181 (st 170 35 : Int).toNat := fs8 181 (st 170 35 : Int).toNat rfl rfl
                have e55 : s9 181 (st 170 35 : Int).toNat = s8 181 (st 170 35 : Int).toNat := fs9 181 (st 170 35 : Int).toNat rfl rfl
                have e54 : s10 181 (st 170 35 : Int).toNat = s9 181 (st 170 35 : Int).toNat := fs10 181 (st 170 35 : Int).toNat rfl rfl
                have e53 : s11 181 (s11 170 35 : Int).toNat = s10 181 (st 170 35 : Int).toNat := (fs11 181 (s11 170 35 : Int).toNat rfl rfl).trans (by rw [e49, e44, e39, e34, e29, e21] <;> rfl)
                refine ⟨by omega, ?_⟩
                refine ⟨by omega, ?_⟩
                refine ⟨by omega, ?_⟩
                exact hQ _ ⟨(gInv_up (gInv_up gs11 (p_pullOf (by omega))) (p_things (by omega))), (fr_a (fr_a (fr_tr (fr_tr (fr_a (fr_tr (fr_tr (fr_a (fr_tr (fr_tr (fr_rf _ _) fs6 rfl) fs7 rfl) rfl) fs8 rfl) fs9 rfl) rfl) fs10 rfl) fs11 rfl) rfl) rfl), (show BO (s11 170 8) (RDr (zup (zup s11 183 (((8 : Int) * (s6 170 35)) + (s6 181 (s6 170 35 : Int).toNat) : Int).toNat r11) 181 (s11 170 35 : Int).toNat ((s11 181 (s11 170 35 : Int).toNat) + 1)) t n) (fun T' q => bTh t n T e T' q) (s11 170 4) (fun T' => RT (st 170 35) T' (zup (zup s11 183 (((8 : Int) * (s6 170 35)) + (s6 181 (s6 170 35 : Int).toNat) : Int).toNat r11) 181 (s11 170 35 : Int).toNat ((s11 181 (s11 170 35 : Int).toNat) + 1))) from (by
            refine Or.inr ⟨by omega, (show RDr (zup (zup s11 183 (((8 : Int) * (s6 170 35)) + (s6 181 (s6 170 35 : Int).toNat) : Int).toNat r11) 181 (s11 170 35 : Int).toNat ((s11 181 (s11 170 35 : Int).toNat) + 1)) t n from rd11), ⟨_, show T 0 8 < 8 from by omega, r7, x7, _, _, v9, r9, _, _, r11, (show tk t n e 1 r7 (s7 170 4) from by rw [← ee6]; exact t7), w7, i7, fr7, t8, t9, kn9, t10, t11, by omega, rfl⟩, fun T' q hb => ?_⟩
            obtain ⟨h0, v, x, e1, e2, u, a, e3, e4, m, h1, h2, h3, h4, h5, h6, h7, h8, h9, h10, h11⟩ := (show bTh t n T e T' q from hb)
            obtain ⟨-, rfl, rfl⟩ := tk_u (show tk t n e 1 r7 (s7 170 4) from by rw [← ee6]; exact t7) h1
            have ex := (isN6_u i7 h3).mp rfl
            subst ex
            obtain ⟨-, -, rfl⟩ := tk_u t8 h5
            obtain ⟨-, rfl, rfl⟩ := tk_u t9 h6
            have ea9 := KnP_u kn9 h7
            subst ea9
            obtain ⟨-, -, rfl⟩ := tk_u t10 h8
            obtain ⟨-, rfl, rfl⟩ := tk_u t11 h9
            subst h11
            exact ⟨rfl, RT_th (by omega) rt h0 i7 (fun i => ((show ∀ i : Nat, (zup (zup s11 183 (((8 : Int) * (s6 170 35)) + (s6 181 (s6 170 35 : Int).toNat) : Int).toNat r11) 181 (s11 170 35 : Int).toNat ((s11 181 (s11 170 35 : Int).toNat) + 1)) 181 i = (up1 (st 181) (s11 170 35 : Int).toNat ((s11 181 (s11 170 35 : Int).toNat) + 1)) i from fun i => by show up1 ((zup s11 183 (((8 : Int) * (s6 170 35)) + (s6 181 (s6 170 35 : Int).toNat) : Int).toNat r11) 181) (s11 170 35 : Int).toNat ((s11 181 (s11 170 35 : Int).toNat) + 1) i = up1 (st 181) (s11 170 35 : Int).toNat ((s11 181 (s11 170 35 : Int).toNat) + 1) i; rw [show (zup s11 183 (((8 : Int) * (s6 170 35)) + (s6 181 (s6 170 35 : Int).toNat) : Int).toNat r11) 181 = (st 181) from funext (show ∀ i : Nat, (zup s11 183 (((8 : Int) * (s6 170 35)) + (s6 181 (s6 170 35 : Int).toNat) : Int).toNat r11) 181 i = (st 181) i from (show ∀ i : Nat, s11 181 i = (st 181) i from fun i => (fs11 181 i rfl rfl).trans ((show ∀ i : Nat, s10 181 i = (st 181) i from fun i => (fs10 181 i rfl rfl).trans ((show ∀ i : Nat, (zup s9 182 (((8 : Int) * (s6 170 35)) + (s6 181 (s6 170 35 : Int).toNat) : Int).toNat r9) 181 i = (st 181) i from (show ∀ i : Nat, s9 181 i = (st 181) i from fun i => (fs9 181 i rfl rfl).trans ((show ∀ i : Nat, s8 181 i = (st 181) i from fun i => (fs8 181 i rfl rfl).trans ((show ∀ i : Nat, (zup s7 191 (((8 : Int) * (s6 170 35)) + (s6 181 (s6 170 35 : Int).toNat) : Int).toNat r7) 181 i = (st 181) i from (show ∀ i : Nat, s7 181 i = (st 181) i from fun i => (fs7 181 i rfl rfl).trans ((show ∀ i : Nat, s6 181 i = (st 181) i from fun i => (fs6 181 i rfl rfl).trans ((fun _ => rfl) i)) i))) i)) i))) i)) i)))]) i).trans (by show (up1 (st 181) (s11 170 35 : Int).toNat ((s11 181 (s11 170 35 : Int).toNat) + 1)) i = (up1 (st 181) (st 170 35 : Int).toNat (T 0 8 + 1)) i; simp only [show s11 170 35 = st 170 35 from by omega, show s11 181 = (st 181) from funext (show ∀ i : Nat, s11 181 i = (st 181) i from fun i => (fs11 181 i rfl rfl).trans ((show ∀ i : Nat, s10 181 i = (st 181) i from fun i => (fs10 181 i rfl rfl).trans ((show ∀ i : Nat, (zup s9 182 (((8 : Int) * (s6 170 35)) + (s6 181 (s6 170 35 : Int).toNat) : Int).toNat r9) 181 i = (st 181) i from (show ∀ i : Nat, s9 181 i = (st 181) i from fun i => (fs9 181 i rfl rfl).trans ((show ∀ i : Nat, s8 181 i = (st 181) i from fun i => (fs8 181 i rfl rfl).trans ((show ∀ i : Nat, (zup s7 191 (((8 : Int) * (s6 170 35)) + (s6 181 (s6 170 35 : Int).toNat) : Int).toNat r7) 181 i = (st 181) i from (show ∀ i : Nat, s7 181 i = (st 181) i from fun i => (fs7 181 i rfl rfl).trans ((show ∀ i : Nat, s6 181 i = (st 181) i from fun i => (fs6 181 i rfl rfl).trans ((fun _ => rfl) i)) i))) i)) i))) i)) i)), rt1])) (fun i => ((show ∀ i : Nat, (zup (zup s11 183 (((8 : Int) * (s6 170 35)) + (s6 181 (s6 170 35 : Int).toNat) : Int).toNat r11) 181 (s11 170 35 : Int).toNat ((s11 181 (s11 170 35 : Int).toNat) + 1)) 191 i = (up1 (st 191) (((8 : Int) * (s6 170 35)) + (s6 181 (s6 170 35 : Int).toNat) : Int).toNat r7) i from (show ∀ i : Nat, s11 191 i = (up1 (st 191) (((8 : Int) * (s6 170 35)) + (s6 181 (s6 170 35 : Int).toNat) : Int).toNat r7) i from fun i => (fs11 191 i rfl rfl).trans ((show ∀ i : Nat, s10 191 i = (up1 (st 191) (((8 : Int) * (s6 170 35)) + (s6 181 (s6 170 35 : Int).toNat) : Int).toNat r7) i from fun i => (fs10 191 i rfl rfl).trans ((show ∀ i : Nat, (zup s9 182 (((8 : Int) * (s6 170 35)) + (s6 181 (s6 170 35 : Int).toNat) : Int).toNat r9) 191 i = (up1 (st 191) (((8 : Int) * (s6 170 35)) + (s6 181 (s6 170 35 : Int).toNat) : Int).toNat r7) i from (show ∀ i : Nat, s9 191 i = (up1 (st 191) (((8 : Int) * (s6 170 35)) + (s6 181 (s6 170 35 : Int).toNat) : Int).toNat r7) i from fun i => (fs9 191 i rfl rfl).trans ((show ∀ i : Nat, s8 191 i = (up1 (st 191) (((8 : Int) * (s6 170 35)) + (s6 181 (s6 170 35 : Int).toNat) : Int).toNat r7) i from fun i => (fs8 191 i rfl rfl).trans ((show ∀ i : Nat, (zup s7 191 (((8 : Int) * (s6 170 35)) + (s6 181 (s6 170 35 : Int).toNat) : Int).toNat r7) 191 i = (up1 (st 191) (((8 : Int) * (s6 170 35)) + (s6 181 (s6 170 35 : Int).toNat) : Int).toNat r7) i from fun i => by show up1 (s7 191) (((8 : Int) * (s6 170 35)) + (s6 181 (s6 170 35 : Int).toNat) : Int).toNat r7 i = up1 (st 191) (((8 : Int) * (s6 170 35)) + (s6 181 (s6 170 35 : Int).toNat) : Int).toNat r7 i; rw [show s7 191 = (st 191) from funext (show ∀ i : Nat, s7 191 i = (st 191) i from fun i => (fs7 191 i rfl rfl).trans ((show ∀ i : Nat, s6 191 i = (st 191) i from fun i => (fs6 191 i rfl rfl).trans ((fun _ => rfl) i)) i))]) i)) i))) i)) i))) i).trans (by show (up1 (st 191) (((8 : Int) * (s6 170 35)) + (s6 181 (s6 170 35 : Int).toNat) : Int).toNat r7) i = (up1 (st 191) (8 * st 170 35 + T 0 8 : Int).toNat r7) i; simp only [show s6 170 35 = st 170 35 from by omega, show s6 181 = (st 181) from funext (show ∀ i : Nat, s6 181 i = (st 181) i from fun i => (fs6 181 i rfl rfl).trans ((fun _ => rfl) i)), rt1])) (fun i => ((show ∀ i : Nat, (zup (zup s11 183 (((8 : Int) * (s6 170 35)) + (s6 181 (s6 170 35 : Int).toNat) : Int).toNat r11) 181 (s11 170 35 : Int).toNat ((s11 181 (s11 170 35 : Int).toNat) + 1)) 182 i = (up1 (st 182) (((8 : Int) * (s6 170 35)) + (s6 181 (s6 170 35 : Int).toNat) : Int).toNat r9) i from (show ∀ i : Nat, s11 182 i = (up1 (st 182) (((8 : Int) * (s6 170 35)) + (s6 181 (s6 170 35 : Int).toNat) : Int).toNat r9) i from fun i => (fs11 182 i rfl rfl).trans ((show ∀ i : Nat, s10 182 i = (up1 (st 182) (((8 : Int) * (s6 170 35)) + (s6 181 (s6 170 35 : Int).toNat) : Int).toNat r9) i from fun i => (fs10 182 i rfl rfl).trans ((show ∀ i : Nat, (zup s9 182 (((8 : Int) * (s6 170 35)) + (s6 181 (s6 170 35 : Int).toNat) : Int).toNat r9) 182 i = (up1 (st 182) (((8 : Int) * (s6 170 35)) + (s6 181 (s6 170 35 : Int).toNat) : Int).toNat r9) i from fun i => by show up1 (s9 182) (((8 : Int) * (s6 170 35)) + (s6 181 (s6 170 35 : Int).toNat) : Int).toNat r9 i = up1 (st 182) (((8 : Int) * (s6 170 35)) + (s6 181 (s6 170 35 : Int).toNat) : Int).toNat r9 i; rw [show s9 182 = (st 182) from funext (show ∀ i : Nat, s9 182 i = (st 182) i from fun i => (fs9 182 i rfl rfl).trans ((show ∀ i : Nat, s8 182 i = (st 182) i from fun i => (fs8 182 i rfl rfl).trans ((show ∀ i : Nat, (zup s7 191 (((8 : Int) * (s6 170 35)) + (s6 181 (s6 170 35 : Int).toNat) : Int).toNat r7) 182 i = (st 182) i from (show ∀ i : Nat, s7 182 i = (st 182) i from fun i => (fs7 182 i rfl rfl).trans ((show ∀ i : Nat, s6 182 i = (st 182) i from fun i => (fs6 182 i rfl rfl).trans ((fun _ => rfl) i)) i))) i)) i))]) i)) i))) i).trans (by show (up1 (st 182) (((8 : Int) * (s6 170 35)) + (s6 181 (s6 170 35 : Int).toNat) : Int).toNat r9) i = (up1 (st 182) (8 * st 170 35 + T 0 8 : Int).toNat r9) i; simp only [show s6 170 35 = st 170 35 from by omega, show s6 181 = (st 181) from funext (show ∀ i : Nat, s6 181 i = (st 181) i from fun i => (fs6 181 i rfl rfl).trans ((fun _ => rfl) i)), rt1])) (fun i => ((show ∀ i : Nat, (zup (zup s11 183 (((8 : Int) * (s6 170 35)) + (s6 181 (s6 170 35 : Int).toNat) : Int).toNat r11) 181 (s11 170 35 : Int).toNat ((s11 181 (s11 170 35 : Int).toNat) + 1)) 183 i = (up1 (st 183) (((8 : Int) * (s6 170 35)) + (s6 181 (s6 170 35 : Int).toNat) : Int).toNat r11) i from fun i => by show up1 (s11 183) (((8 : Int) * (s6 170 35)) + (s6 181 (s6 170 35 : Int).toNat) : Int).toNat r11 i = up1 (st 183) (((8 : Int) * (s6 170 35)) + (s6 181 (s6 170 35 : Int).toNat) : Int).toNat r11 i; rw [show s11 183 = (st 183) from funext (show ∀ i : Nat, s11 183 i = (st 183) i from fun i => (fs11 183 i rfl rfl).trans ((show ∀ i : Nat, s10 183 i = (st 183) i from fun i => (fs10 183 i rfl rfl).trans ((show ∀ i : Nat, (zup s9 182 (((8 : Int) * (s6 170 35)) + (s6 181 (s6 170 35 : Int).toNat) : Int).toNat r9) 183 i = (st 183) i from (show ∀ i : Nat, s9 183 i = (st 183) i from fun i => (fs9 183 i rfl rfl).trans ((show ∀ i : Nat, s8 183 i = (st 183) i from fun i => (fs8 183 i rfl rfl).trans ((show ∀ i : Nat, (zup s7 191 (((8 : Int) * (s6 170 35)) + (s6 181 (s6 170 35 : Int).toNat) : Int).toNat r7) 183 i = (st 183) i from (show ∀ i : Nat, s7 183 i = (st 183) i from fun i => (fs7 183 i rfl rfl).trans ((show ∀ i : Nat, s6 183 i = (st 183) i from fun i => (fs6 183 i rfl rfl).trans ((fun _ => rfl) i)) i))) i)) i))) i)) i))]) i).trans (by show (up1 (st 183) (((8 : Int) * (s6 170 35)) + (s6 181 (s6 170 35 : Int).toNat) : Int).toNat r11) i = (up1 (st 183) (8 * st 170 35 + T 0 8 : Int).toNat r11) i; simp only [show s6 170 35 = st 170 35 from by omega, show s6 181 = (st 181) from funext (show ∀ i : Nat, s6 181 i = (st 181) i from fun i => (fs6 181 i rfl rfl).trans ((fun _ => rfl) i)), rt1])) (by
              exact fun c i h1 h2 y0 y1 y2 y3 => by
                rcases (show c = 172 ∨ c = 173 ∨ c = 174 ∨ c = 175 ∨ c = 176 ∨ c = 177 ∨ c = 178 ∨ c = 179 ∨ c = 180 ∨ c = 184 ∨ c = 185 ∨ c = 186 ∨ c = 187 ∨ c = 188 ∨ c = 189 ∨ c = 190 from by omega) with rfl | rfl | rfl | rfl | rfl | rfl | rfl | rfl | rfl | rfl | rfl | rfl | rfl | rfl | rfl | rfl
                · exact (fun i => (fs11 172 i rfl rfl).trans ((fun i => (fs10 172 i rfl rfl).trans ((fun i => (fs9 172 i rfl rfl).trans ((fun i => (fs8 172 i rfl rfl).trans ((fun i => (fs7 172 i rfl rfl).trans ((fun i => (fs6 172 i rfl rfl).trans ((fun _ => rfl) i)) i)) i)) i)) i)) i)) i
                · exact (fun i => (fs11 173 i rfl rfl).trans ((fun i => (fs10 173 i rfl rfl).trans ((fun i => (fs9 173 i rfl rfl).trans ((fun i => (fs8 173 i rfl rfl).trans ((fun i => (fs7 173 i rfl rfl).trans ((fun i => (fs6 173 i rfl rfl).trans ((fun _ => rfl) i)) i)) i)) i)) i)) i)) i
                · exact (fun i => (fs11 174 i rfl rfl).trans ((fun i => (fs10 174 i rfl rfl).trans ((fun i => (fs9 174 i rfl rfl).trans ((fun i => (fs8 174 i rfl rfl).trans ((fun i => (fs7 174 i rfl rfl).trans ((fun i => (fs6 174 i rfl rfl).trans ((fun _ => rfl) i)) i)) i)) i)) i)) i)) i
                · exact (fun i => (fs11 175 i rfl rfl).trans ((fun i => (fs10 175 i rfl rfl).trans ((fun i => (fs9 175 i rfl rfl).trans ((fun i => (fs8 175 i rfl rfl).trans ((fun i => (fs7 175 i rfl rfl).trans ((fun i => (fs6 175 i rfl rfl).trans ((fun _ => rfl) i)) i)) i)) i)) i)) i)) i
                · exact (fun i => (fs11 176 i rfl rfl).trans ((fun i => (fs10 176 i rfl rfl).trans ((fun i => (fs9 176 i rfl rfl).trans ((fun i => (fs8 176 i rfl rfl).trans ((fun i => (fs7 176 i rfl rfl).trans ((fun i => (fs6 176 i rfl rfl).trans ((fun _ => rfl) i)) i)) i)) i)) i)) i)) i
                · exact (fun i => (fs11 177 i rfl rfl).trans ((fun i => (fs10 177 i rfl rfl).trans ((fun i => (fs9 177 i rfl rfl).trans ((fun i => (fs8 177 i rfl rfl).trans ((fun i => (fs7 177 i rfl rfl).trans ((fun i => (fs6 177 i rfl rfl).trans ((fun _ => rfl) i)) i)) i)) i)) i)) i)) i
                · exact (fun i => (fs11 178 i rfl rfl).trans ((fun i => (fs10 178 i rfl rfl).trans ((fun i => (fs9 178 i rfl rfl).trans ((fun i => (fs8 178 i rfl rfl).trans ((fun i => (fs7 178 i rfl rfl).trans ((fun i => (fs6 178 i rfl rfl).trans ((fun _ => rfl) i)) i)) i)) i)) i)) i)) i
                · exact (fun i => (fs11 179 i rfl rfl).trans ((fun i => (fs10 179 i rfl rfl).trans ((fun i => (fs9 179 i rfl rfl).trans ((fun i => (fs8 179 i rfl rfl).trans ((fun i => (fs7 179 i rfl rfl).trans ((fun i => (fs6 179 i rfl rfl).trans ((fun _ => rfl) i)) i)) i)) i)) i)) i)) i
                · exact (fun i => (fs11 180 i rfl rfl).trans ((fun i => (fs10 180 i rfl rfl).trans ((fun i => (fs9 180 i rfl rfl).trans ((fun i => (fs8 180 i rfl rfl).trans ((fun i => (fs7 180 i rfl rfl).trans ((fun i => (fs6 180 i rfl rfl).trans ((fun _ => rfl) i)) i)) i)) i)) i)) i)) i
                · exact (fun i => (fs11 184 i rfl rfl).trans ((fun i => (fs10 184 i rfl rfl).trans ((fun i => (fs9 184 i rfl rfl).trans ((fun i => (fs8 184 i rfl rfl).trans ((fun i => (fs7 184 i rfl rfl).trans ((fun i => (fs6 184 i rfl rfl).trans ((fun _ => rfl) i)) i)) i)) i)) i)) i)) i
                · exact (fun i => (fs11 185 i rfl rfl).trans ((fun i => (fs10 185 i rfl rfl).trans ((fun i => (fs9 185 i rfl rfl).trans ((fun i => (fs8 185 i rfl rfl).trans ((fun i => (fs7 185 i rfl rfl).trans ((fun i => (fs6 185 i rfl rfl).trans ((fun _ => rfl) i)) i)) i)) i)) i)) i)) i
                · exact (fun i => (fs11 186 i rfl rfl).trans ((fun i => (fs10 186 i rfl rfl).trans ((fun i => (fs9 186 i rfl rfl).trans ((fun i => (fs8 186 i rfl rfl).trans ((fun i => (fs7 186 i rfl rfl).trans ((fun i => (fs6 186 i rfl rfl).trans ((fun _ => rfl) i)) i)) i)) i)) i)) i)) i
                · exact (fun i => (fs11 187 i rfl rfl).trans ((fun i => (fs10 187 i rfl rfl).trans ((fun i => (fs9 187 i rfl rfl).trans ((fun i => (fs8 187 i rfl rfl).trans ((fun i => (fs7 187 i rfl rfl).trans ((fun i => (fs6 187 i rfl rfl).trans ((fun _ => rfl) i)) i)) i)) i)) i)) i)) i
                · exact (fun i => (fs11 188 i rfl rfl).trans ((fun i => (fs10 188 i rfl rfl).trans ((fun i => (fs9 188 i rfl rfl).trans ((fun i => (fs8 188 i rfl rfl).trans ((fun i => (fs7 188 i rfl rfl).trans ((fun i => (fs6 188 i rfl rfl).trans ((fun _ => rfl) i)) i)) i)) i)) i)) i)) i
                · exact (fun i => (fs11 189 i rfl rfl).trans ((fun i => (fs10 189 i rfl rfl).trans ((fun i => (fs9 189 i rfl rfl).trans ((fun i => (fs8 189 i rfl rfl).trans ((fun i => (fs7 189 i rfl rfl).trans ((fun i => (fs6 189 i rfl rfl).trans ((fun _ => rfl) i)) i)) i)) i)) i)) i)) i
                · exact (fun i => (fs11 190 i rfl rfl).trans ((fun i => (fs10 190 i rfl rfl).trans ((fun i => (fs9 190 i rfl rfl).trans ((fun i => (fs8 190 i rfl rfl).trans ((fun i => (fs7 190 i rfl rfl).trans ((fun i => (fs6 190 i rfl rfl).trans ((fun _ => rfl) i)) i)) i)) i)) i)) i)) i)⟩))⟩
              · refine ⟨by omega, ?_⟩
                refine ⟨fun h59 => ?_, fun h59 => (by exfalso; omega)⟩
                exact hQ _ ⟨(gInv_up gs11 (p_pullOf (by omega))), (fr_a (fr_tr (fr_tr (fr_a (fr_tr (fr_tr (fr_a (fr_tr (fr_tr (fr_rf _ _) fs6 rfl) fs7 rfl) rfl) fs8 rfl) fs9 rfl) rfl) fs10 rfl) fs11 rfl) rfl), (show BO (s11 170 8) (RDr (zup s11 183 (((8 : Int) * (s6 170 35)) + (s6 181 (s6 170 35 : Int).toNat) : Int).toNat r11) t n) (fun T' q => bTh t n T e T' q) (s11 170 4) (fun T' => RT (st 170 35) T' (zup s11 183 (((8 : Int) * (s6 170 35)) + (s6 181 (s6 170 35 : Int).toNat) : Int).toNat r11)) from (by
            refine Or.inl ⟨by omega, fun hx => ?_⟩
            obtain ⟨T', q, hb⟩ := hx
            obtain ⟨h0, v, x, e1, e2, u, a, e3, e4, m, h1, h2, h3, h4, h5, h6, h7, h8, h9, h10, h11⟩ := (show bTh t n T e T' q from hb)
            obtain ⟨-, rfl, rfl⟩ := tk_u (show tk t n e 1 r7 (s7 170 4) from by rw [← ee6]; exact t7) h1
            have ex := (isN6_u i7 h3).mp rfl
            subst ex
            obtain ⟨-, -, rfl⟩ := tk_u t8 h5
            obtain ⟨-, rfl, rfl⟩ := tk_u t9 h6
            have ea9 := KnP_u kn9 h7
            subst ea9
            obtain ⟨-, -, rfl⟩ := tk_u t10 h8
            have hz := tk_num h9
            exact l11 ⟨m, q, h9, by omega, h10⟩))⟩
              · exfalso; omega
            · refine ⟨rfl, ⟨gs10, (show s10 170 8 = 0 → RDr s10 t n from (fun z => absurd z (by omega)))⟩, fun r11 s11 q11 => ?_⟩
              obtain ⟨gs11, fs11, v11, o11⟩ := q11
              change -2147483648 ≤ r11 ∧ r11 ≤ 2147483647 at v11
              change (s11 170 8 = 0 ∧ s10 170 8 = 0 ∧ (0) ≤ r11 ∧ r11 ≤ (9) ∧ tk t n (s10 170 4) 2 r11 (s11 170 4) ∧ RDr s11 t n) ∨ (0 < s11 170 8 ∧ s10 170 8 = 0 ∧ ¬ ∃ v e : Int, tk t n (s10 170 4) 2 v e ∧ (0) ≤ v ∧ v ≤ (9)) ∨ (0 < s11 170 8 ∧ 0 < s10 170 8) at o11
              have g60 := g_faultKind gs11
              have g61 := g_signAt gs11
              have e62 : s11 170 35 = s10 170 35 := fs11 170 35 rfl rfl
              have g63 := g_lexAt gs11
              have e64 : s11 170 34 = s10 170 34 := fs11 170 34 rfl rfl
              rcases o11 with ⟨y11, z11, a11, b11, t11, rd11⟩ | ⟨y11, z11, l11⟩ | ⟨y11, z11⟩
              · exfalso; omega
              · exfalso; omega
              · refine ⟨by omega, ?_⟩
                refine ⟨fun h65 => ?_, fun h65 => (by exfalso; omega)⟩
                exact hQ _ ⟨(gInv_up gs11 (p_pullOf (by omega))), (fr_a (fr_tr (fr_tr (fr_a (fr_tr (fr_tr (fr_a (fr_tr (fr_tr (fr_rf _ _) fs6 rfl) fs7 rfl) rfl) fs8 rfl) fs9 rfl) rfl) fs10 rfl) fs11 rfl) rfl), (show BO (s11 170 8) (RDr (zup s11 183 (((8 : Int) * (s6 170 35)) + (s6 181 (s6 170 35 : Int).toNat) : Int).toNat r11) t n) (fun T' q => bTh t n T e T' q) (s11 170 4) (fun T' => RT (st 170 35) T' (zup s11 183 (((8 : Int) * (s6 170 35)) + (s6 181 (s6 170 35 : Int).toNat) : Int).toNat r11)) from (by
            refine Or.inl ⟨by omega, fun hx => ?_⟩
            obtain ⟨T', q, hb⟩ := hx
            obtain ⟨h0, v, x, e1, e2, u, a, e3, e4, m, h1, h2, h3, h4, h5, h6, h7, h8, h9, h10, h11⟩ := (show bTh t n T e T' q from hb)
            obtain ⟨-, rfl, rfl⟩ := tk_u (show tk t n e 1 r7 (s7 170 4) from by rw [← ee6]; exact t7) h1
            have ex := (isN6_u i7 h3).mp rfl
            subst ex
            obtain ⟨-, -, rfl⟩ := tk_u t8 h5
            obtain ⟨-, rfl, rfl⟩ := tk_u t9 h6
            have ea9 := KnP_u kn9 h7
            subst ea9
            exact l10 ⟨e4, h8⟩))⟩
            · exfalso; omega
          · refine ⟨by omega, ?_⟩
            refine ⟨rfl, ⟨(gInv_up gs9 (p_thingTold (by omega))), (show s9 170 8 = 0 → RDr (zup s9 182 (((8 : Int) * (s6 170 35)) + (s6 181 (s6 170 35 : Int).toNat) : Int).toNat r9) t n from (fun z => absurd z (by omega)))⟩, fun s10 q10 => ?_⟩
            obtain ⟨gs10, fs10, o10⟩ := q10
            change (s10 170 8 = 0 ∧ s9 170 8 = 0 ∧ tk t n (s9 170 4) 1 (1886743660) (s10 170 4) ∧ RDr s10 t n) ∨ (0 < s10 170 8 ∧ s9 170 8 = 0 ∧ ¬ ∃ e : Int, tk t n (s9 170 4) 1 (1886743660) e) ∨ (0 < s10 170 8 ∧ 0 < s9 170 8) at o10
            have g66 := g_faultKind gs10
            have g67 := g_signAt gs10
            have e68 : s10 170 35 = s9 170 35 := fs10 170 35 rfl rfl
            have g69 := g_lexAt gs10
            have e70 : s10 170 34 = s9 170 34 := fs10 170 34 rfl rfl
            rcases o10 with ⟨y10, z10, t10, rd10⟩ | ⟨y10, z10, l10⟩ | ⟨y10, z10⟩
            · exfalso; omega
            · exfalso; omega
            · refine ⟨rfl, ⟨gs10, (show s10 170 8 = 0 → RDr s10 t n from (fun z => absurd z (by omega)))⟩, fun r11 s11 q11 => ?_⟩
              obtain ⟨gs11, fs11, v11, o11⟩ := q11
              change -2147483648 ≤ r11 ∧ r11 ≤ 2147483647 at v11
              change (s11 170 8 = 0 ∧ s10 170 8 = 0 ∧ (0) ≤ r11 ∧ r11 ≤ (9) ∧ tk t n (s10 170 4) 2 r11 (s11 170 4) ∧ RDr s11 t n) ∨ (0 < s11 170 8 ∧ s10 170 8 = 0 ∧ ¬ ∃ v e : Int, tk t n (s10 170 4) 2 v e ∧ (0) ≤ v ∧ v ≤ (9)) ∨ (0 < s11 170 8 ∧ 0 < s10 170 8) at o11
              have g71 := g_faultKind gs11
              have g72 := g_signAt gs11
              have e73 : s11 170 35 = s10 170 35 := fs11 170 35 rfl rfl
              have g74 := g_lexAt gs11
              have e75 : s11 170 34 = s10 170 34 := fs11 170 34 rfl rfl
              rcases o11 with ⟨y11, z11, a11, b11, t11, rd11⟩ | ⟨y11, z11, l11⟩ | ⟨y11, z11⟩
              · exfalso; omega
              · exfalso; omega
              · refine ⟨by omega, ?_⟩
                refine ⟨fun h76 => ?_, fun h76 => (by exfalso; omega)⟩
                exact hQ _ ⟨(gInv_up gs11 (p_pullOf (by omega))), (fr_a (fr_tr (fr_tr (fr_a (fr_tr (fr_tr (fr_a (fr_tr (fr_tr (fr_rf _ _) fs6 rfl) fs7 rfl) rfl) fs8 rfl) fs9 rfl) rfl) fs10 rfl) fs11 rfl) rfl), (show BO (s11 170 8) (RDr (zup s11 183 (((8 : Int) * (s6 170 35)) + (s6 181 (s6 170 35 : Int).toNat) : Int).toNat r11) t n) (fun T' q => bTh t n T e T' q) (s11 170 4) (fun T' => RT (st 170 35) T' (zup s11 183 (((8 : Int) * (s6 170 35)) + (s6 181 (s6 170 35 : Int).toNat) : Int).toNat r11)) from (by
            refine Or.inl ⟨by omega, fun hx => ?_⟩
            obtain ⟨T', q, hb⟩ := hx
            obtain ⟨h0, v, x, e1, e2, u, a, e3, e4, m, h1, h2, h3, h4, h5, h6, h7, h8, h9, h10, h11⟩ := (show bTh t n T e T' q from hb)
            obtain ⟨-, rfl, rfl⟩ := tk_u (show tk t n e 1 r7 (s7 170 4) from by rw [← ee6]; exact t7) h1
            have ex := (isN6_u i7 h3).mp rfl
            subst ex
            obtain ⟨-, -, rfl⟩ := tk_u t8 h5
            have kb := KnP_b h7
            exact l9 ⟨u, a, e3, h6, h7, hb_0 (by omega)⟩))⟩
          · exfalso; omega
        · refine ⟨rfl, ⟨gs8, (show s8 170 8 = 0 → RDr s8 t n from (fun z => absurd z (by omega))), (show RTn (s8 170 35) T s8 from (RTn_e (T := T) (st := st) (by omega) (fun i => (fs8 172 i rfl rfl).trans ((fun i => (fs7 172 i rfl rfl).trans ((fun i => (fs6 172 i rfl rfl).trans ((fun _ => rfl) i)) i)) i)) (fun i => (fs8 190 i rfl rfl).trans ((fun i => (fs7 190 i rfl rfl).trans ((fun i => (fs6 190 i rfl rfl).trans ((fun _ => rfl) i)) i)) i)) rt.1))⟩, fun r9 s9 q9 => ?_⟩
          obtain ⟨gs9, fs9, v9, o9⟩ := q9
          change 0 ≤ r9 ∧ r9 ≤ 7 at v9
          change (s9 170 8 = 0 ∧ s8 170 8 = 0 ∧ ∃ v : Int, tk t n (s8 170 4) 1 v (s9 170 4) ∧ KnP T v r9 ∧ hb (0) r9 = 0 ∧ RDr s9 t n) ∨ (0 < s9 170 8 ∧ s8 170 8 = 0 ∧ ¬ ∃ v a e : Int, tk t n (s8 170 4) 1 v e ∧ KnP T v a ∧ hb (0) a = 0) ∨ (0 < s9 170 8 ∧ 0 < s8 170 8) at o9
          have g77 := g_faultKind gs9
          have g78 := g_signAt gs9
          have e79 : s9 170 35 = s8 170 35 := fs9 170 35 rfl rfl
          have g80 := g_lexAt gs9
          have e81 : s9 170 34 = s8 170 34 := fs9 170 34 rfl rfl
          rcases o9 with ⟨y9, z9, v9, t9, kn9, hz9, rd9⟩ | ⟨y9, z9, l9⟩ | ⟨y9, z9⟩
          · exfalso; omega
          · exfalso; omega
          · refine ⟨by omega, ?_⟩
            refine ⟨rfl, ⟨(gInv_up gs9 (p_thingTold (by omega))), (show s9 170 8 = 0 → RDr (zup s9 182 (((8 : Int) * (s6 170 35)) + (s6 181 (s6 170 35 : Int).toNat) : Int).toNat r9) t n from (fun z => absurd z (by omega)))⟩, fun s10 q10 => ?_⟩
            obtain ⟨gs10, fs10, o10⟩ := q10
            change (s10 170 8 = 0 ∧ s9 170 8 = 0 ∧ tk t n (s9 170 4) 1 (1886743660) (s10 170 4) ∧ RDr s10 t n) ∨ (0 < s10 170 8 ∧ s9 170 8 = 0 ∧ ¬ ∃ e : Int, tk t n (s9 170 4) 1 (1886743660) e) ∨ (0 < s10 170 8 ∧ 0 < s9 170 8) at o10
            have g82 := g_faultKind gs10
            have g83 := g_signAt gs10
            have e84 : s10 170 35 = s9 170 35 := fs10 170 35 rfl rfl
            have g85 := g_lexAt gs10
            have e86 : s10 170 34 = s9 170 34 := fs10 170 34 rfl rfl
            rcases o10 with ⟨y10, z10, t10, rd10⟩ | ⟨y10, z10, l10⟩ | ⟨y10, z10⟩
            · exfalso; omega
            · exfalso; omega
            · refine ⟨rfl, ⟨gs10, (show s10 170 8 = 0 → RDr s10 t n from (fun z => absurd z (by omega)))⟩, fun r11 s11 q11 => ?_⟩
              obtain ⟨gs11, fs11, v11, o11⟩ := q11
              change -2147483648 ≤ r11 ∧ r11 ≤ 2147483647 at v11
              change (s11 170 8 = 0 ∧ s10 170 8 = 0 ∧ (0) ≤ r11 ∧ r11 ≤ (9) ∧ tk t n (s10 170 4) 2 r11 (s11 170 4) ∧ RDr s11 t n) ∨ (0 < s11 170 8 ∧ s10 170 8 = 0 ∧ ¬ ∃ v e : Int, tk t n (s10 170 4) 2 v e ∧ (0) ≤ v ∧ v ≤ (9)) ∨ (0 < s11 170 8 ∧ 0 < s10 170 8) at o11
              have g87 := g_faultKind gs11
              have g88 := g_signAt gs11
              have e89 : s11 170 35 = s10 170 35 := fs11 170 35 rfl rfl
              have g90 := g_lexAt gs11
              have e91 : s11 170 34 = s10 170 34 := fs11 170 34 rfl rfl
              rcases o11 with ⟨y11, z11, a11, b11, t11, rd11⟩ | ⟨y11, z11, l11⟩ | ⟨y11, z11⟩
              · exfalso; omega
              · exfalso; omega
              · refine ⟨by omega, ?_⟩
                refine ⟨fun h92 => ?_, fun h92 => (by exfalso; omega)⟩
                exact hQ _ ⟨(gInv_up gs11 (p_pullOf (by omega))), (fr_a (fr_tr (fr_tr (fr_a (fr_tr (fr_tr (fr_a (fr_tr (fr_tr (fr_rf _ _) fs6 rfl) fs7 rfl) rfl) fs8 rfl) fs9 rfl) rfl) fs10 rfl) fs11 rfl) rfl), (show BO (s11 170 8) (RDr (zup s11 183 (((8 : Int) * (s6 170 35)) + (s6 181 (s6 170 35 : Int).toNat) : Int).toNat r11) t n) (fun T' q => bTh t n T e T' q) (s11 170 4) (fun T' => RT (st 170 35) T' (zup s11 183 (((8 : Int) * (s6 170 35)) + (s6 181 (s6 170 35 : Int).toNat) : Int).toNat r11)) from (by
            refine Or.inl ⟨by omega, fun hx => ?_⟩
            obtain ⟨T', q, hb⟩ := hx
            obtain ⟨h0, v, x, e1, e2, u, a, e3, e4, m, h1, h2, h3, h4, h5, h6, h7, h8, h9, h10, h11⟩ := (show bTh t n T e T' q from hb)
            obtain ⟨-, rfl, rfl⟩ := tk_u (show tk t n e 1 r7 (s7 170 4) from by rw [← ee6]; exact t7) h1
            have ex := (isN6_u i7 h3).mp rfl
            subst ex
            exact l8 ⟨e2, h5⟩))⟩
        · exfalso; omega
      · refine ⟨by omega, ?_⟩
        refine ⟨rfl, ⟨(gInv_up gs7 (p_thingName (by omega))), (show s7 170 8 = 0 → RDr (zup s7 191 (((8 : Int) * (s6 170 35)) + (s6 181 (s6 170 35 : Int).toNat) : Int).toNat r7) t n from (fun z => absurd z (by omega)))⟩, fun s8 q8 => ?_⟩
        obtain ⟨gs8, fs8, o8⟩ := q8
        change (s8 170 8 = 0 ∧ s7 170 8 = 0 ∧ tk t n (s7 170 4) 1 (24948) (s8 170 4) ∧ RDr s8 t n) ∨ (0 < s8 170 8 ∧ s7 170 8 = 0 ∧ ¬ ∃ e : Int, tk t n (s7 170 4) 1 (24948) e) ∨ (0 < s8 170 8 ∧ 0 < s7 170 8) at o8
        have g93 := g_faultKind gs8
        have g94 := g_signAt gs8
        have e95 : s8 170 35 = s7 170 35 := fs8 170 35 rfl rfl
        have g96 := g_lexAt gs8
        have e97 : s8 170 34 = s7 170 34 := fs8 170 34 rfl rfl
        rcases o8 with ⟨y8, z8, t8, rd8⟩ | ⟨y8, z8, l8⟩ | ⟨y8, z8⟩
        · exfalso; omega
        · exfalso; omega
        · refine ⟨rfl, ⟨gs8, (show s8 170 8 = 0 → RDr s8 t n from (fun z => absurd z (by omega))), (show RTn (s8 170 35) T s8 from (RTn_e (T := T) (st := st) (by omega) (fun i => (fs8 172 i rfl rfl).trans ((fun i => (fs7 172 i rfl rfl).trans ((fun i => (fs6 172 i rfl rfl).trans ((fun _ => rfl) i)) i)) i)) (fun i => (fs8 190 i rfl rfl).trans ((fun i => (fs7 190 i rfl rfl).trans ((fun i => (fs6 190 i rfl rfl).trans ((fun _ => rfl) i)) i)) i)) rt.1))⟩, fun r9 s9 q9 => ?_⟩
          obtain ⟨gs9, fs9, v9, o9⟩ := q9
          change 0 ≤ r9 ∧ r9 ≤ 7 at v9
          change (s9 170 8 = 0 ∧ s8 170 8 = 0 ∧ ∃ v : Int, tk t n (s8 170 4) 1 v (s9 170 4) ∧ KnP T v r9 ∧ hb (0) r9 = 0 ∧ RDr s9 t n) ∨ (0 < s9 170 8 ∧ s8 170 8 = 0 ∧ ¬ ∃ v a e : Int, tk t n (s8 170 4) 1 v e ∧ KnP T v a ∧ hb (0) a = 0) ∨ (0 < s9 170 8 ∧ 0 < s8 170 8) at o9
          have g98 := g_faultKind gs9
          have g99 := g_signAt gs9
          have e100 : s9 170 35 = s8 170 35 := fs9 170 35 rfl rfl
          have g101 := g_lexAt gs9
          have e102 : s9 170 34 = s8 170 34 := fs9 170 34 rfl rfl
          rcases o9 with ⟨y9, z9, v9, t9, kn9, hz9, rd9⟩ | ⟨y9, z9, l9⟩ | ⟨y9, z9⟩
          · exfalso; omega
          · exfalso; omega
          · refine ⟨by omega, ?_⟩
            refine ⟨rfl, ⟨(gInv_up gs9 (p_thingTold (by omega))), (show s9 170 8 = 0 → RDr (zup s9 182 (((8 : Int) * (s6 170 35)) + (s6 181 (s6 170 35 : Int).toNat) : Int).toNat r9) t n from (fun z => absurd z (by omega)))⟩, fun s10 q10 => ?_⟩
            obtain ⟨gs10, fs10, o10⟩ := q10
            change (s10 170 8 = 0 ∧ s9 170 8 = 0 ∧ tk t n (s9 170 4) 1 (1886743660) (s10 170 4) ∧ RDr s10 t n) ∨ (0 < s10 170 8 ∧ s9 170 8 = 0 ∧ ¬ ∃ e : Int, tk t n (s9 170 4) 1 (1886743660) e) ∨ (0 < s10 170 8 ∧ 0 < s9 170 8) at o10
            have g103 := g_faultKind gs10
            have g104 := g_signAt gs10
            have e105 : s10 170 35 = s9 170 35 := fs10 170 35 rfl rfl
            have g106 := g_lexAt gs10
            have e107 : s10 170 34 = s9 170 34 := fs10 170 34 rfl rfl
            rcases o10 with ⟨y10, z10, t10, rd10⟩ | ⟨y10, z10, l10⟩ | ⟨y10, z10⟩
            · exfalso; omega
            · exfalso; omega
            · refine ⟨rfl, ⟨gs10, (show s10 170 8 = 0 → RDr s10 t n from (fun z => absurd z (by omega)))⟩, fun r11 s11 q11 => ?_⟩
              obtain ⟨gs11, fs11, v11, o11⟩ := q11
              change -2147483648 ≤ r11 ∧ r11 ≤ 2147483647 at v11
              change (s11 170 8 = 0 ∧ s10 170 8 = 0 ∧ (0) ≤ r11 ∧ r11 ≤ (9) ∧ tk t n (s10 170 4) 2 r11 (s11 170 4) ∧ RDr s11 t n) ∨ (0 < s11 170 8 ∧ s10 170 8 = 0 ∧ ¬ ∃ v e : Int, tk t n (s10 170 4) 2 v e ∧ (0) ≤ v ∧ v ≤ (9)) ∨ (0 < s11 170 8 ∧ 0 < s10 170 8) at o11
              have g108 := g_faultKind gs11
              have g109 := g_signAt gs11
              have e110 : s11 170 35 = s10 170 35 := fs11 170 35 rfl rfl
              have g111 := g_lexAt gs11
              have e112 : s11 170 34 = s10 170 34 := fs11 170 34 rfl rfl
              rcases o11 with ⟨y11, z11, a11, b11, t11, rd11⟩ | ⟨y11, z11, l11⟩ | ⟨y11, z11⟩
              · exfalso; omega
              · exfalso; omega
              · refine ⟨by omega, ?_⟩
                refine ⟨fun h113 => ?_, fun h113 => (by exfalso; omega)⟩
                exact hQ _ ⟨(gInv_up gs11 (p_pullOf (by omega))), (fr_a (fr_tr (fr_tr (fr_a (fr_tr (fr_tr (fr_a (fr_tr (fr_tr (fr_rf _ _) fs6 rfl) fs7 rfl) rfl) fs8 rfl) fs9 rfl) rfl) fs10 rfl) fs11 rfl) rfl), (show BO (s11 170 8) (RDr (zup s11 183 (((8 : Int) * (s6 170 35)) + (s6 181 (s6 170 35 : Int).toNat) : Int).toNat r11) t n) (fun T' q => bTh t n T e T' q) (s11 170 4) (fun T' => RT (st 170 35) T' (zup s11 183 (((8 : Int) * (s6 170 35)) + (s6 181 (s6 170 35 : Int).toNat) : Int).toNat r11)) from (by
            refine Or.inl ⟨by omega, fun hx => ?_⟩
            obtain ⟨T', q, hb⟩ := hx
            obtain ⟨h0, v, x, e1, e2, u, a, e3, e4, m, h1, h2, h3, h4, h5, h6, h7, h8, h9, h10, h11⟩ := (show bTh t n T e T' q from hb)
            exact l7 ⟨v, x, e1, (by rw [ee6]; exact h1), h2, h3, h4⟩))⟩
      · exfalso; omega
    · exfalso; omega
    · exfalso; omega
  · refine ⟨rfl, ⟨hG, (show RDr st t n from rd), (show st 170 8 = 0 ∧ st 170 12 = -1 ∧ ((1) = 0 ∨ (1) = 1) from by omega)⟩, fun r12 s12 q12 => ?_⟩
    obtain ⟨gs12, fs12, o12⟩ := q12
    change (s12 170 8 = 0 ∧ st 170 8 = 0 ∧ r12 = 1 ∧ (1) = 0 ∧ RDr s12 t n ∧ NXr st s12 t n) ∨ (0 < s12 170 8 ∧ st 170 8 = 0 ∧ r12 = 0 ∧ (1) = 1) ∨ (0 < s12 170 8 ∧ 0 < st 170 8) at o12
    have g114 := g_faultKind gs12
    have e115 : s12 170 35 = st 170 35 := fs12 170 35 rfl rfl
    have g116 := g_signAt gs12
    have g117 := g_lexAt gs12
    have e118 : s12 170 34 = st 170 34 := fs12 170 34 rfl rfl
    rcases o12 with ⟨y12, z12, k12, f12, rd12, nx12⟩ | ⟨y12, z12, k12, f12⟩ | ⟨y12, z12⟩
    · exfalso; omega
    · refine ⟨fun h119 => (by exfalso; omega), fun h119 => ?_⟩
      exact hQ _ ⟨gs12, (fr_tr (fr_rf _ _) fs12 rfl), (show BO (s12 170 8) (RDr s12 t n) (fun T' q => bTh t n T e T' q) (s12 170 4) (fun T' => RT (st 170 35) T' s12) from (by
            refine Or.inl ⟨by omega, fun hx => ?_⟩
            obtain ⟨T', q, hb⟩ := hx
            obtain ⟨h0, v, x, e1, e2, u, a, e3, e4, m, h1, h2, h3, h4, h5, h6, h7, h8, h9, h10, h11⟩ := (show bTh t n T e T' q from hb)
            omega))⟩
    · exfalso; omega
theorem k_rThinging_m (hTb : aTb zSh rx_tb cl) {t : Int → Int} {n : Int} {T : zS} {wv e : Int} {D : Nat} (hD : 4 ≤ D) : ∀ as st (Q Q' : zQ), (∀ r st', Q r st' → Q' r st') → (k_rThinging t n T wv e) 207 as st Q → cl D 207 as st Q' := by
  intro as st Q Q' hQ h
  unfold k_rThinging at h
  split at h
  · obtain ⟨rfl, h⟩ := h
    exact c_rThinging hTb hD (ct_rThinging_m hQ h)
  · exact h.elim
set_option maxHeartbeats 4000000 in
set_option maxRecDepth 100000 in
theorem c_rHeating (hTb : aTb zSh rx_tb cl) {t : Int → Int} {n : Int} {T : zS} {wv e : Int} {D : Nat} (hD : 4 ≤ D) {v : Int} {st : zS} {Q : zQ} (h : ct_rHeating t n T wv e v st Q) : cl D 209 [.inr (.inr (.inl 170)), .inl v] st Q := by
  obtain ⟨d, rfl⟩ : ∃ d, D = d + 1 := ⟨D - 1, by omega⟩
  refine hTb d 209 (rx_m209, 3, 0, 0, 0) rfl _ _ _ (Nat.le_of_ble_eq_true rfl) (fun K hcl hsf hsl => ?_)
  have hcm : zmo (wcL [(199, k_rCounts t n), (188, k_rNumber t n)]) (cl d) := (wcL_m (wm_cons (k_rCounts_m hTb (by omega)) (wm_cons (k_rNumber_m hTb (by omega)) wm_nil)))
  obtain ⟨hR, hQ⟩ := h
  obtain ⟨hG, rd, rt, q, th, hv⟩ := hR
  change RDr st t n at rd
  change RT (st 170 35) T st at rt
  change st 170 8 = 0 ∧ st 170 12 = -1 at q
  change tk t n (st 170 4) 1 wv e at th
  change v = 0 ∨ v = 1 at hv
  have g1 := g_in hG
  have g2 := g_faultKind hG
  have g3 := g_lexAt hG
  have g4 := g_signAt hG
  obtain ⟨f0, lx⟩ := q
  have rn1 := rt.1.1
  have rn2 := rt.1.2.1
  have rt1 := rt.2.1.1
  have rt2 := rt.2.1.2.1
  have rs1 := rt.2.2.1.1
  have rs2 := rt.2.2.1.2.1
  have rp1 := rt.2.2.2.1.1
  have rp2 := rt.2.2.2.1.2.1
  have g5 := g_codes hG
  refine yr1_ok (Rt := Q) (wc := (wcL [(199, k_rCounts t n), (188, k_rNumber t n)])) (stp := []) hcm hcl [] 54 ?_
  show (170 = 170 ∧ (rq_rCounts t n (0) st ∧ (∀ (r6 : Int) (s6 : zS), en_rCounts t n (0) st r6 s6 → ((¬ r6 = (0 : Int) → ((v = (0 : Int) → (170 = 170 ∧ (rq_rNumber t n (0) (40) s6 ∧ (∀ (r7 : Int) (s7 : zS), en_rNumber t n (0) (40) s6 r7 s7 → ((s7 170 8 ≤ (0 : Int) → ((v = (0 : Int) → ((0 ≤ s7 170 35 ∧ s7 170 35 < 2) ∧ Q none (zup s7 184 (s7 170 35 : Int).toNat r7))) ∧ (¬ (v = (0 : Int)) → ((0 ≤ s7 170 35 ∧ s7 170 35 < 2) ∧ Q none (zup s7 185 (s7 170 35 : Int).toNat r7))))) ∧ (¬ (s7 170 8 ≤ (0 : Int)) → Q none s7)))))) ∧ (¬ (v = (0 : Int)) → (170 = 170 ∧ (rq_rNumber t n (0) (100) s6 ∧ (∀ (r8 : Int) (s8 : zS), en_rNumber t n (0) (100) s6 r8 s8 → ((s8 170 8 ≤ (0 : Int) → ((v = (0 : Int) → ((0 ≤ s8 170 35 ∧ s8 170 35 < 2) ∧ Q none (zup s8 184 (s8 170 35 : Int).toNat r8))) ∧ (¬ (v = (0 : Int)) → ((0 ≤ s8 170 35 ∧ s8 170 35 < 2) ∧ Q none (zup s8 185 (s8 170 35 : Int).toNat r8))))) ∧ (¬ (s8 170 8 ≤ (0 : Int)) → Q none s8)))))))) ∧ (¬ (¬ r6 = (0 : Int)) → Q none s6)))))
  refine ⟨rfl, ⟨hG, (show RDr st t n from rd), (show st 170 8 = 0 ∧ st 170 12 = -1 ∧ ((0) = 0 ∨ (0) = 1) from by omega)⟩, fun r6 s6 q6 => ?_⟩
  obtain ⟨gs6, fs6, o6⟩ := q6
  change (s6 170 8 = 0 ∧ st 170 8 = 0 ∧ r6 = 1 ∧ (0) = 0 ∧ RDr s6 t n ∧ NXr st s6 t n) ∨ (0 < s6 170 8 ∧ st 170 8 = 0 ∧ r6 = 0 ∧ (0) = 1) ∨ (0 < s6 170 8 ∧ 0 < st 170 8) at o6
  have g9 := g_faultKind gs6
  have e10 : s6 170 35 = st 170 35 := fs6 170 35 rfl rfl
  have g11 := g_signAt gs6
  have g12 := g_lexAt gs6
  have e13 : s6 170 34 = st 170 34 := fs6 170 34 rfl rfl
  rcases o6 with ⟨y6, z6, k6, f6, rd6, nx6⟩ | ⟨y6, z6, k6, f6⟩ | ⟨y6, z6⟩
  · have ee6 : s6 170 4 = e := NXr_e nx6 th (by omega)
    refine ⟨fun h14 => ?_, fun h14 => (by exfalso; omega)⟩
    refine ⟨fun h15 => ?_, fun h15 => ?_⟩
    · refine ⟨rfl, ⟨gs6, (show s6 170 8 = 0 → RDr s6 t n from (fun _ => rd6))⟩, fun r7 s7 q7 => ?_⟩
      obtain ⟨gs7, fs7, v7, o7⟩ := q7
      change -2147483648 ≤ r7 ∧ r7 ≤ 2147483647 at v7
      change (s7 170 8 = 0 ∧ s6 170 8 = 0 ∧ (0) ≤ r7 ∧ r7 ≤ (40) ∧ tk t n (s6 170 4) 2 r7 (s7 170 4) ∧ RDr s7 t n) ∨ (0 < s7 170 8 ∧ s6 170 8 = 0 ∧ ¬ ∃ v e : Int, tk t n (s6 170 4) 2 v e ∧ (0) ≤ v ∧ v ≤ (40)) ∨ (0 < s7 170 8 ∧ 0 < s6 170 8) at o7
      have g16 := g_faultKind gs7
      have g17 := g_signAt gs7
      have e18 : s7 170 35 = s6 170 35 := fs7 170 35 rfl rfl
      have g19 := g_lexAt gs7
      have e20 : s7 170 34 = s6 170 34 := fs7 170 34 rfl rfl
      rcases o7 with ⟨y7, z7, a7, b7, t7, rd7⟩ | ⟨y7, z7, l7⟩ | ⟨y7, z7⟩
      · refine ⟨fun h21 => ?_, fun h21 => (by exfalso; omega)⟩
        refine ⟨fun h22 => ?_, fun h22 => (by exfalso; omega)⟩
        refine ⟨by omega, ?_⟩
        exact hQ _ ⟨(gInv_up gs7 (p_heatTold (by omega))), (fr_a (fr_tr (fr_tr (fr_rf _ _) fs6 rfl) fs7 rfl) rfl), (show (v = 0 → BO (s7 170 8) (RDr (zup s7 184 (s7 170 35 : Int).toNat r7) t n) (fun T' q => bHe t n T e T' q 13 40) (s7 170 4) (fun T' => RT (st 170 35) T' (zup s7 184 (s7 170 35 : Int).toNat r7))) ∧ (v = 1 → BO (s7 170 8) (RDr (zup s7 184 (s7 170 35 : Int).toNat r7) t n) (fun T' q => bHe t n T e T' q 14 100) (s7 170 4) (fun T' => RT (st 170 35) T' (zup s7 184 (s7 170 35 : Int).toNat r7))) from (by
            refine ⟨(fun _ => ?_), (fun z => by exfalso; omega)⟩
            refine Or.inr ⟨by omega, (show RDr (zup s7 184 (s7 170 35 : Int).toNat r7) t n from rd7), ⟨_, r7, (show tk t n e 2 r7 (s7 170 4) from by rw [← ee6]; exact t7), by omega, rfl⟩, fun T' q hb => ?_⟩
            obtain ⟨m, h1, h2, h3⟩ := (show bHe t n T e T' q 13 40 from hb)
            obtain ⟨-, rfl, rfl⟩ := tk_u (show tk t n e 2 r7 (s7 170 4) from by rw [← ee6]; exact t7) h1
            subst h3
            exact ⟨rfl, RT_h3 rt (fun i => ((show ∀ i : Nat, (zup s7 184 (s7 170 35 : Int).toNat r7) 184 i = (up1 (st 184) (s7 170 35 : Int).toNat r7) i from fun i => by show up1 (s7 184) (s7 170 35 : Int).toNat r7 i = up1 (st 184) (s7 170 35 : Int).toNat r7 i; rw [show s7 184 = (st 184) from funext (show ∀ i : Nat, s7 184 i = (st 184) i from fun i => (fs7 184 i rfl rfl).trans ((show ∀ i : Nat, s6 184 i = (st 184) i from fun i => (fs6 184 i rfl rfl).trans ((fun _ => rfl) i)) i))]) i).trans (by show (up1 (st 184) (s7 170 35 : Int).toNat r7) i = (up1 (st 184) (st 170 35 : Int).toNat r7) i; simp only [show s7 170 35 = st 170 35 from by omega])) (by
              exact fun c i h1 h2 y0 => by
                rcases (show c = 172 ∨ c = 173 ∨ c = 174 ∨ c = 175 ∨ c = 176 ∨ c = 177 ∨ c = 178 ∨ c = 179 ∨ c = 180 ∨ c = 181 ∨ c = 182 ∨ c = 183 ∨ c = 185 ∨ c = 186 ∨ c = 187 ∨ c = 188 ∨ c = 189 ∨ c = 190 ∨ c = 191 from by omega) with rfl | rfl | rfl | rfl | rfl | rfl | rfl | rfl | rfl | rfl | rfl | rfl | rfl | rfl | rfl | rfl | rfl | rfl | rfl
                · exact (fun i => (fs7 172 i rfl rfl).trans ((fun i => (fs6 172 i rfl rfl).trans ((fun _ => rfl) i)) i)) i
                · exact (fun i => (fs7 173 i rfl rfl).trans ((fun i => (fs6 173 i rfl rfl).trans ((fun _ => rfl) i)) i)) i
                · exact (fun i => (fs7 174 i rfl rfl).trans ((fun i => (fs6 174 i rfl rfl).trans ((fun _ => rfl) i)) i)) i
                · exact (fun i => (fs7 175 i rfl rfl).trans ((fun i => (fs6 175 i rfl rfl).trans ((fun _ => rfl) i)) i)) i
                · exact (fun i => (fs7 176 i rfl rfl).trans ((fun i => (fs6 176 i rfl rfl).trans ((fun _ => rfl) i)) i)) i
                · exact (fun i => (fs7 177 i rfl rfl).trans ((fun i => (fs6 177 i rfl rfl).trans ((fun _ => rfl) i)) i)) i
                · exact (fun i => (fs7 178 i rfl rfl).trans ((fun i => (fs6 178 i rfl rfl).trans ((fun _ => rfl) i)) i)) i
                · exact (fun i => (fs7 179 i rfl rfl).trans ((fun i => (fs6 179 i rfl rfl).trans ((fun _ => rfl) i)) i)) i
                · exact (fun i => (fs7 180 i rfl rfl).trans ((fun i => (fs6 180 i rfl rfl).trans ((fun _ => rfl) i)) i)) i
                · exact (fun i => (fs7 181 i rfl rfl).trans ((fun i => (fs6 181 i rfl rfl).trans ((fun _ => rfl) i)) i)) i
                · exact (fun i => (fs7 182 i rfl rfl).trans ((fun i => (fs6 182 i rfl rfl).trans ((fun _ => rfl) i)) i)) i
                · exact (fun i => (fs7 183 i rfl rfl).trans ((fun i => (fs6 183 i rfl rfl).trans ((fun _ => rfl) i)) i)) i
                · exact (fun i => (fs7 185 i rfl rfl).trans ((fun i => (fs6 185 i rfl rfl).trans ((fun _ => rfl) i)) i)) i
                · exact (fun i => (fs7 186 i rfl rfl).trans ((fun i => (fs6 186 i rfl rfl).trans ((fun _ => rfl) i)) i)) i
                · exact (fun i => (fs7 187 i rfl rfl).trans ((fun i => (fs6 187 i rfl rfl).trans ((fun _ => rfl) i)) i)) i
                · exact (fun i => (fs7 188 i rfl rfl).trans ((fun i => (fs6 188 i rfl rfl).trans ((fun _ => rfl) i)) i)) i
                · exact (fun i => (fs7 189 i rfl rfl).trans ((fun i => (fs6 189 i rfl rfl).trans ((fun _ => rfl) i)) i)) i
                · exact (fun i => (fs7 190 i rfl rfl).trans ((fun i => (fs6 190 i rfl rfl).trans ((fun _ => rfl) i)) i)) i
                · exact (fun i => (fs7 191 i rfl rfl).trans ((fun i => (fs6 191 i rfl rfl).trans ((fun _ => rfl) i)) i)) i)⟩))⟩
      · refine ⟨fun h23 => (by exfalso; omega), fun h23 => ?_⟩
        exact hQ _ ⟨gs7, (fr_tr (fr_tr (fr_rf _ _) fs6 rfl) fs7 rfl), (show (v = 0 → BO (s7 170 8) (RDr s7 t n) (fun T' q => bHe t n T e T' q 13 40) (s7 170 4) (fun T' => RT (st 170 35) T' s7)) ∧ (v = 1 → BO (s7 170 8) (RDr s7 t n) (fun T' q => bHe t n T e T' q 14 100) (s7 170 4) (fun T' => RT (st 170 35) T' s7)) from (by
            refine ⟨(fun _ => ?_), (fun z => by exfalso; omega)⟩
            refine Or.inl ⟨by omega, fun hx => ?_⟩
            obtain ⟨T', q, hb⟩ := hx
            obtain ⟨m, h1, h2, h3⟩ := (show bHe t n T e T' q 13 40 from hb)
            have hz := tk_num h1
            exact l7 ⟨m, q, (by rw [ee6]; exact h1), by omega, h2⟩))⟩
      · exfalso; omega
    · refine ⟨rfl, ⟨gs6, (show s6 170 8 = 0 → RDr s6 t n from (fun _ => rd6))⟩, fun r8 s8 q8 => ?_⟩
      obtain ⟨gs8, fs8, v8, o8⟩ := q8
      change -2147483648 ≤ r8 ∧ r8 ≤ 2147483647 at v8
      change (s8 170 8 = 0 ∧ s6 170 8 = 0 ∧ (0) ≤ r8 ∧ r8 ≤ (100) ∧ tk t n (s6 170 4) 2 r8 (s8 170 4) ∧ RDr s8 t n) ∨ (0 < s8 170 8 ∧ s6 170 8 = 0 ∧ ¬ ∃ v e : Int, tk t n (s6 170 4) 2 v e ∧ (0) ≤ v ∧ v ≤ (100)) ∨ (0 < s8 170 8 ∧ 0 < s6 170 8) at o8
      have g24 := g_faultKind gs8
      have g25 := g_signAt gs8
      have e26 : s8 170 35 = s6 170 35 := fs8 170 35 rfl rfl
      have g27 := g_lexAt gs8
      have e28 : s8 170 34 = s6 170 34 := fs8 170 34 rfl rfl
      rcases o8 with ⟨y8, z8, a8, b8, t8, rd8⟩ | ⟨y8, z8, l8⟩ | ⟨y8, z8⟩
      · refine ⟨fun h29 => ?_, fun h29 => (by exfalso; omega)⟩
        refine ⟨fun h30 => (by exfalso; omega), fun h30 => ?_⟩
        refine ⟨by omega, ?_⟩
        exact hQ _ ⟨(gInv_up gs8 (p_hotTold (by omega))), (fr_a (fr_tr (fr_tr (fr_rf _ _) fs6 rfl) fs8 rfl) rfl), (show (v = 0 → BO (s8 170 8) (RDr (zup s8 185 (s8 170 35 : Int).toNat r8) t n) (fun T' q => bHe t n T e T' q 13 40) (s8 170 4) (fun T' => RT (st 170 35) T' (zup s8 185 (s8 170 35 : Int).toNat r8))) ∧ (v = 1 → BO (s8 170 8) (RDr (zup s8 185 (s8 170 35 : Int).toNat r8) t n) (fun T' q => bHe t n T e T' q 14 100) (s8 170 4) (fun T' => RT (st 170 35) T' (zup s8 185 (s8 170 35 : Int).toNat r8))) from (by
            refine ⟨(fun z => by exfalso; omega), (fun _ => ?_)⟩
            refine Or.inr ⟨by omega, (show RDr (zup s8 185 (s8 170 35 : Int).toNat r8) t n from rd8), ⟨_, r8, (show tk t n e 2 r8 (s8 170 4) from by rw [← ee6]; exact t8), by omega, rfl⟩, fun T' q hb => ?_⟩
            obtain ⟨m, h1, h2, h3⟩ := (show bHe t n T e T' q 14 100 from hb)
            obtain ⟨-, rfl, rfl⟩ := tk_u (show tk t n e 2 r8 (s8 170 4) from by rw [← ee6]; exact t8) h1
            subst h3
            exact ⟨rfl, RT_h4 rt (fun i => ((show ∀ i : Nat, (zup s8 185 (s8 170 35 : Int).toNat r8) 185 i = (up1 (st 185) (s8 170 35 : Int).toNat r8) i from fun i => by show up1 (s8 185) (s8 170 35 : Int).toNat r8 i = up1 (st 185) (s8 170 35 : Int).toNat r8 i; rw [show s8 185 = (st 185) from funext (show ∀ i : Nat, s8 185 i = (st 185) i from fun i => (fs8 185 i rfl rfl).trans ((show ∀ i : Nat, s6 185 i = (st 185) i from fun i => (fs6 185 i rfl rfl).trans ((fun _ => rfl) i)) i))]) i).trans (by show (up1 (st 185) (s8 170 35 : Int).toNat r8) i = (up1 (st 185) (st 170 35 : Int).toNat r8) i; simp only [show s8 170 35 = st 170 35 from by omega])) (by
              exact fun c i h1 h2 y0 => by
                rcases (show c = 172 ∨ c = 173 ∨ c = 174 ∨ c = 175 ∨ c = 176 ∨ c = 177 ∨ c = 178 ∨ c = 179 ∨ c = 180 ∨ c = 181 ∨ c = 182 ∨ c = 183 ∨ c = 184 ∨ c = 186 ∨ c = 187 ∨ c = 188 ∨ c = 189 ∨ c = 190 ∨ c = 191 from by omega) with rfl | rfl | rfl | rfl | rfl | rfl | rfl | rfl | rfl | rfl | rfl | rfl | rfl | rfl | rfl | rfl | rfl | rfl | rfl
                · exact (fun i => (fs8 172 i rfl rfl).trans ((fun i => (fs6 172 i rfl rfl).trans ((fun _ => rfl) i)) i)) i
                · exact (fun i => (fs8 173 i rfl rfl).trans ((fun i => (fs6 173 i rfl rfl).trans ((fun _ => rfl) i)) i)) i
                · exact (fun i => (fs8 174 i rfl rfl).trans ((fun i => (fs6 174 i rfl rfl).trans ((fun _ => rfl) i)) i)) i
                · exact (fun i => (fs8 175 i rfl rfl).trans ((fun i => (fs6 175 i rfl rfl).trans ((fun _ => rfl) i)) i)) i
                · exact (fun i => (fs8 176 i rfl rfl).trans ((fun i => (fs6 176 i rfl rfl).trans ((fun _ => rfl) i)) i)) i
                · exact (fun i => (fs8 177 i rfl rfl).trans ((fun i => (fs6 177 i rfl rfl).trans ((fun _ => rfl) i)) i)) i
                · exact (fun i => (fs8 178 i rfl rfl).trans ((fun i => (fs6 178 i rfl rfl).trans ((fun _ => rfl) i)) i)) i
                · exact (fun i => (fs8 179 i rfl rfl).trans ((fun i => (fs6 179 i rfl rfl).trans ((fun _ => rfl) i)) i)) i
                · exact (fun i => (fs8 180 i rfl rfl).trans ((fun i => (fs6 180 i rfl rfl).trans ((fun _ => rfl) i)) i)) i
                · exact (fun i => (fs8 181 i rfl rfl).trans ((fun i => (fs6 181 i rfl rfl).trans ((fun _ => rfl) i)) i)) i
                · exact (fun i => (fs8 182 i rfl rfl).trans ((fun i => (fs6 182 i rfl rfl).trans ((fun _ => rfl) i)) i)) i
                · exact (fun i => (fs8 183 i rfl rfl).trans ((fun i => (fs6 183 i rfl rfl).trans ((fun _ => rfl) i)) i)) i
                · exact (fun i => (fs8 184 i rfl rfl).trans ((fun i => (fs6 184 i rfl rfl).trans ((fun _ => rfl) i)) i)) i
                · exact (fun i => (fs8 186 i rfl rfl).trans ((fun i => (fs6 186 i rfl rfl).trans ((fun _ => rfl) i)) i)) i
                · exact (fun i => (fs8 187 i rfl rfl).trans ((fun i => (fs6 187 i rfl rfl).trans ((fun _ => rfl) i)) i)) i
                · exact (fun i => (fs8 188 i rfl rfl).trans ((fun i => (fs6 188 i rfl rfl).trans ((fun _ => rfl) i)) i)) i
                · exact (fun i => (fs8 189 i rfl rfl).trans ((fun i => (fs6 189 i rfl rfl).trans ((fun _ => rfl) i)) i)) i
                · exact (fun i => (fs8 190 i rfl rfl).trans ((fun i => (fs6 190 i rfl rfl).trans ((fun _ => rfl) i)) i)) i
                · exact (fun i => (fs8 191 i rfl rfl).trans ((fun i => (fs6 191 i rfl rfl).trans ((fun _ => rfl) i)) i)) i)⟩))⟩
      · refine ⟨fun h31 => (by exfalso; omega), fun h31 => ?_⟩
        exact hQ _ ⟨gs8, (fr_tr (fr_tr (fr_rf _ _) fs6 rfl) fs8 rfl), (show (v = 0 → BO (s8 170 8) (RDr s8 t n) (fun T' q => bHe t n T e T' q 13 40) (s8 170 4) (fun T' => RT (st 170 35) T' s8)) ∧ (v = 1 → BO (s8 170 8) (RDr s8 t n) (fun T' q => bHe t n T e T' q 14 100) (s8 170 4) (fun T' => RT (st 170 35) T' s8)) from (by
            refine ⟨(fun z => by exfalso; omega), (fun _ => ?_)⟩
            refine Or.inl ⟨by omega, fun hx => ?_⟩
            obtain ⟨T', q, hb⟩ := hx
            obtain ⟨m, h1, h2, h3⟩ := (show bHe t n T e T' q 14 100 from hb)
            have hz := tk_num h1
            exact l8 ⟨m, q, (by rw [ee6]; exact h1), by omega, h2⟩))⟩
      · exfalso; omega
  · exfalso; omega
  · exfalso; omega
theorem k_rHeating_m (hTb : aTb zSh rx_tb cl) {t : Int → Int} {n : Int} {T : zS} {wv e : Int} {D : Nat} (hD : 4 ≤ D) : ∀ as st (Q Q' : zQ), (∀ r st', Q r st' → Q' r st') → (k_rHeating t n T wv e) 209 as st Q → cl D 209 as st Q' := by
  intro as st Q Q' hQ h
  unfold k_rHeating at h
  split at h
  · obtain ⟨rfl, h⟩ := h
    exact c_rHeating hTb hD (ct_rHeating_m hQ h)
  · exact h.elim
set_option maxHeartbeats 4000000 in
set_option maxRecDepth 100000 in
theorem c_rStepping (hTb : aTb zSh rx_tb cl) {t : Int → Int} {n : Int} {T : zS} {wv e : Int} {D : Nat} (hD : 4 ≤ D) {st : zS} {Q : zQ} (h : ct_rStepping t n T wv e st Q) : cl D 206 [.inr (.inr (.inl 170))] st Q := by
  obtain ⟨d, rfl⟩ : ∃ d, D = d + 1 := ⟨D - 1, by omega⟩
  refine hTb d 206 (rx_m206, 4, 0, 0, 0) rfl _ _ _ (Nat.le_of_ble_eq_true rfl) (fun K hcl hsf hsl => ?_)
  have hcm : zmo (wcL [(199, k_rCounts t n), (0, k_between), (203, k_rKnown t n T), (200, k_rMustJ t n), (188, k_rNumber t n)]) (cl d) := (wcL_m (wm_cons (k_rCounts_m hTb (by omega)) (wm_cons (k_between_m hTb (by omega)) (wm_cons (k_rKnown_m hTb (by omega)) (wm_cons (k_rMustJ_m hTb (by omega)) (wm_cons (k_rNumber_m hTb (by omega)) wm_nil))))))
  obtain ⟨hR, hQ⟩ := h
  obtain ⟨hG, rd, rt, q, th⟩ := hR
  change RDr st t n at rd
  change RT (st 170 35) T st at rt
  change st 170 8 = 0 ∧ st 170 12 = -1 at q
  change tk t n (st 170 4) 1 wv e at th
  have g1 := g_in hG
  have g2 := g_faultKind hG
  have g3 := g_lexAt hG
  have g4 := g_signAt hG
  obtain ⟨f0, lx⟩ := q
  have rn1 := rt.1.1
  have rn2 := rt.1.2.1
  have rt1 := rt.2.1.1
  have rt2 := rt.2.1.2.1
  have rs1 := rt.2.2.1.1
  have rs2 := rt.2.2.1.2.1
  have rp1 := rt.2.2.2.1.1
  have rp2 := rt.2.2.2.1.2.1
  have g5 := g_codes hG
  refine yr1_ok (Rt := Q) (wc := (wcL [(199, k_rCounts t n), (0, k_between), (203, k_rKnown t n T), (200, k_rMustJ t n), (188, k_rNumber t n)])) (stp := [49]) hcm hcl [] 111 ?_
  show ((0 ≤ st 170 35 ∧ st 170 35 < 2) ∧ ((¬ st 178 (st 170 35 : Int).toNat = (20 : Int) → (170 = 170 ∧ (rq_rCounts t n (0) st ∧ (∀ (r6 : Int) (s6 : zS), en_rCounts t n (0) st r6 s6 → ((¬ r6 = (0 : Int) → ((-2147483648 ≤ (20 : Int) * (s6 170 35) ∧ (20 : Int) * (s6 170 35) ≤ 2147483647) ∧ ((0 ≤ s6 170 35 ∧ s6 170 35 < 2) ∧ ((-2147483648 ≤ ((20 : Int) * (s6 170 35)) + (s6 178 (s6 170 35 : Int).toNat) ∧ ((20 : Int) * (s6 170 35)) + (s6 178 (s6 170 35 : Int).toNat) ≤ 2147483647) ∧ K (rx_find rx_m206 49) [(3, .inl 0), (2, .inl 0), (1, .inl (((20 : Int) * (s6 170 35)) + (s6 178 (s6 170 35 : Int).toNat))), (0, .inr (.inr (.inl 170)))] [] s6)))) ∧ (¬ (¬ r6 = (0 : Int)) → Q none s6)))))) ∧ (¬ (¬ st 178 (st 170 35 : Int).toNat = (20 : Int)) → (170 = 170 ∧ (rq_rCounts t n (1) st ∧ (∀ (r7 : Int) (s7 : zS), en_rCounts t n (1) st r7 s7 → ((¬ r7 = (0 : Int) → ((-2147483648 ≤ (20 : Int) * (s7 170 35) ∧ (20 : Int) * (s7 170 35) ≤ 2147483647) ∧ ((0 ≤ s7 170 35 ∧ s7 170 35 < 2) ∧ ((-2147483648 ≤ ((20 : Int) * (s7 170 35)) + (s7 178 (s7 170 35 : Int).toNat) ∧ ((20 : Int) * (s7 170 35)) + (s7 178 (s7 170 35 : Int).toNat) ≤ 2147483647) ∧ K (rx_find rx_m206 49) [(3, .inl 0), (2, .inl 0), (1, .inl (((20 : Int) * (s7 170 35)) + (s7 178 (s7 170 35 : Int).toNat))), (0, .inr (.inr (.inl 170)))] [] s7)))) ∧ (¬ (¬ r7 = (0 : Int)) → Q none s7))))))))
  have g8 := g_steps hG (st 170 35 : Int).toNat
  refine ⟨by omega, ?_⟩
  refine ⟨fun h9 => ?_, fun h9 => ?_⟩
  · refine ⟨rfl, ⟨hG, (show RDr st t n from rd), (show st 170 8 = 0 ∧ st 170 12 = -1 ∧ ((0) = 0 ∨ (0) = 1) from by omega)⟩, fun r6 s6 q6 => ?_⟩
    obtain ⟨gs6, fs6, o6⟩ := q6
    change (s6 170 8 = 0 ∧ st 170 8 = 0 ∧ r6 = 1 ∧ (0) = 0 ∧ RDr s6 t n ∧ NXr st s6 t n) ∨ (0 < s6 170 8 ∧ st 170 8 = 0 ∧ r6 = 0 ∧ (0) = 1) ∨ (0 < s6 170 8 ∧ 0 < st 170 8) at o6
    have g10 := g_faultKind gs6
    have e11 : s6 170 35 = st 170 35 := fs6 170 35 rfl rfl
    have g12 := g_signAt gs6
    have g13 := g_lexAt gs6
    have e14 : s6 170 34 = st 170 34 := fs6 170 34 rfl rfl
    rcases o6 with ⟨y6, z6, k6, f6, rd6, nx6⟩ | ⟨y6, z6, k6, f6⟩ | ⟨y6, z6⟩
    · have ee6 : s6 170 4 = e := NXr_e nx6 th (by omega)
      refine ⟨fun h15 => ?_, fun h15 => (by exfalso; omega)⟩
      refine ⟨by omega, ?_⟩
      have e16 : s6 178 (s6 170 35 : Int).toNat = st 178 (st 170 35 : Int).toNat := (fs6 178 (s6 170 35 : Int).toNat rfl rfl).trans (by rw [e11] <;> rfl)
      refine ⟨by omega, ?_⟩
      refine ⟨by omega, ?_⟩
      have lp : ∀ (u : Nat) (c : Int) (bt : Int), (0 ≤ c ∧ c ≤ 8) ∧ (0 ≤ bt ∧ bt < 256) ∧ (MKp (st 177) (st 170 35) (st 179 (20 * st 170 35 + T 9 2 - 1 : Int).toNat) c (T 9 2) bt) → (8 - c).toNat = u → K (rx_find rx_m206 49) [(3, .inl c), (2, .inl bt), (1, .inl (((20 : Int) * (s6 170 35)) + (s6 178 (s6 170 35 : Int).toNat))), (0, .inr (.inr (.inl 170)))] [] s6 := by
        intro u_lp
        induction u_lp using Nat.strongRecOn with
        | _ u_lp ih_lp =>
          intro c bt hi hu_lp
          obtain ⟨i_lp, b_lp, mk_lp⟩ := hi
          refine yr1_ok (Rt := Q) (wc := (wcL [(199, k_rCounts t n), (0, k_between), (203, k_rKnown t n T), (200, k_rMustJ t n), (188, k_rNumber t n)])) (stp := [49]) hcm hcl [] 111 ?_
          show (((8 : Int) ≤ c → (170 = 170 ∧ (rq_rKnown t n T bt s6 ∧ (∀ (r17 : Int) (s17 : zS), en_rKnown t n T bt s6 r17 s17 → ((0 ≤ ((20 : Int) * (s6 170 35)) + (s6 178 (s6 170 35 : Int).toNat) ∧ ((20 : Int) * (s6 170 35)) + (s6 178 (s6 170 35 : Int).toNat) < 40) ∧ (170 = 170 ∧ (rq_rMustJ t n (6713202) (zup s17 179 (((20 : Int) * (s6 170 35)) + (s6 178 (s6 170 35 : Int).toNat) : Int).toNat r17) ∧ (∀ (s18 : zS), en_rMustJ t n (6713202) (zup s17 179 (((20 : Int) * (s6 170 35)) + (s6 178 (s6 170 35 : Int).toNat) : Int).toNat r17) s18 → (170 = 170 ∧ (rq_rNumber t n (0) (30) s18 ∧ (∀ (r19 : Int) (s19 : zS), en_rNumber t n (0) (30) s18 r19 s19 → ((0 ≤ ((20 : Int) * (s6 170 35)) + (s6 178 (s6 170 35 : Int).toNat) ∧ ((20 : Int) * (s6 170 35)) + (s6 178 (s6 170 35 : Int).toNat) < 40) ∧ ((¬ s19 170 8 = (0 : Int) → Q none (zup s19 180 (((20 : Int) * (s6 170 35)) + (s6 178 (s6 170 35 : Int).toNat) : Int).toNat r19)) ∧ (¬ (¬ s19 170 8 = (0 : Int)) → ((0 ≤ s19 170 35 ∧ s19 170 35 < 2) ∧ ((-2147483648 ≤ (s19 178 (s19 170 35 : Int).toNat) + 1 ∧ (s19 178 (s19 170 35 : Int).toNat) + 1 ≤ 2147483647) ∧ ((0 ≤ s19 170 35 ∧ s19 170 35 < 2) ∧ Q none (zup (zup s19 180 (((20 : Int) * (s6 170 35)) + (s6 178 (s6 170 35 : Int).toNat) : Int).toNat r19) 178 (s19 170 35 : Int).toNat ((s19 178 (s19 170 35 : Int).toNat) + 1))))))))))))))))))) ∧ (¬ ((8 : Int) ≤ c) → ((0 ≤ s6 170 35 ∧ s6 170 35 < 2) ∧ ((s6 178 (s6 170 35 : Int).toNat ≤ (0 : Int) → ((-2147483648 ≤ c + 1 ∧ c + 1 ≤ 2147483647) ∧ K (rx_find rx_m206 49) [(3, .inl (c + 1)), (2, .inl (zd (Nat.lor (zi bt) (zi 0)))), (1, .inl (((20 : Int) * (s6 170 35)) + (s6 178 (s6 170 35 : Int).toNat))), (0, .inr (.inr (.inl 170)))] [] s6)) ∧ (¬ (s6 178 (s6 170 35 : Int).toNat ≤ (0 : Int)) → ((-2147483648 ≤ (((20 : Int) * (s6 170 35)) + (s6 178 (s6 170 35 : Int).toNat)) - 1 ∧ (((20 : Int) * (s6 170 35)) + (s6 178 (s6 170 35 : Int).toNat)) - 1 ≤ 2147483647) ∧ ((0 ≤ (((20 : Int) * (s6 170 35)) + (s6 178 (s6 170 35 : Int).toNat)) - 1 ∧ (((20 : Int) * (s6 170 35)) + (s6 178 (s6 170 35 : Int).toNat)) - 1 < 40) ∧ (170 = 170 ∧ (rq_between (s6 170 35) (s6 179 ((((20 : Int) * (s6 170 35)) + (s6 178 (s6 170 35 : Int).toNat)) - 1 : Int).toNat) c s6 ∧ (∀ (r20 : Int), en_between (s6 170 35) (s6 179 ((((20 : Int) * (s6 170 35)) + (s6 178 (s6 170 35 : Int).toNat)) - 1 : Int).toNat) c s6 r20 → ((¬ r20 = (0 : Int) → ((-2147483648 ≤ c + 1 ∧ c + 1 ≤ 2147483647) ∧ K (rx_find rx_m206 49) [(3, .inl (c + 1)), (2, .inl (zd (Nat.lor (zi bt) (zi 0)))), (1, .inl (((20 : Int) * (s6 170 35)) + (s6 178 (s6 170 35 : Int).toNat))), (0, .inr (.inr (.inl 170)))] [] s6)) ∧ (¬ (¬ r20 = (0 : Int)) → ((-2147483648 ≤ c + 1 ∧ c + 1 ≤ 2147483647) ∧ K (rx_find rx_m206 49) [(3, .inl (c + 1)), (2, .inl (zd (Nat.lor (zi bt) (zi (zd ((zi 1 * 2 ^ (zi c % 32)) % 4294967296)))))), (1, .inl (((20 : Int) * (s6 170 35)) + (s6 178 (s6 170 35 : Int).toNat))), (0, .inr (.inr (.inl 170)))] [] s6)))))))))))))
          refine ⟨fun h21 => ?_, fun h21 => ?_⟩
          · have g22 := g_faultKind gs6
            have g24 := g_in hG
            have e23 : s6 170 35 = st 170 35 := fs6 170 35 rfl rfl
            refine ⟨rfl, ⟨gs6, (show s6 170 8 = 0 → RDr s6 t n from (fun _ => rd6)), (show RTn (s6 170 35) T s6 from (RTn_e (T := T) (st := st) (by omega) (fun i => (fs6 172 i rfl rfl).trans ((fun _ => rfl) i)) (fun i => (fs6 190 i rfl rfl).trans ((fun _ => rfl) i)) rt.1))⟩, fun r17 s17 q17 => ?_⟩
            obtain ⟨gs17, fs17, v17, o17⟩ := q17
            change 0 ≤ r17 ∧ r17 ≤ 7 at v17
            change (s17 170 8 = 0 ∧ s6 170 8 = 0 ∧ ∃ v : Int, tk t n (s6 170 4) 1 v (s17 170 4) ∧ KnP T v r17 ∧ hb bt r17 = 0 ∧ RDr s17 t n) ∨ (0 < s17 170 8 ∧ s6 170 8 = 0 ∧ ¬ ∃ v a e : Int, tk t n (s6 170 4) 1 v e ∧ KnP T v a ∧ hb bt a = 0) ∨ (0 < s17 170 8 ∧ 0 < s6 170 8) at o17
            have g25 := g_faultKind gs17
            have g26 := g_signAt gs6
            have g27 := g_signAt gs17
            have e28 : s17 170 35 = s6 170 35 := fs17 170 35 rfl rfl
            have g29 := g_lexAt gs17
            have g32 := g_codes hG
            have e31 : s6 170 34 = st 170 34 := fs6 170 34 rfl rfl
            have e30 : s17 170 34 = s6 170 34 := fs17 170 34 rfl rfl
            rcases o17 with ⟨y17, z17, v17, t17, kn17, hz17, rd17⟩ | ⟨y17, z17, l17⟩ | ⟨y17, z17⟩
            · refine ⟨by omega, ?_⟩
              refine ⟨rfl, ⟨(gInv_up gs17 (p_stepTold (by omega))), (show s17 170 8 = 0 → RDr (zup s17 179 (((20 : Int) * (s6 170 35)) + (s6 178 (s6 170 35 : Int).toNat) : Int).toNat r17) t n from (fun _ => (show RDr (zup s17 179 (((20 : Int) * (s6 170 35)) + (s6 178 (s6 170 35 : Int).toNat) : Int).toNat r17) t n from rd17)))⟩, fun s18 q18 => ?_⟩
              obtain ⟨gs18, fs18, o18⟩ := q18
              change (s18 170 8 = 0 ∧ s17 170 8 = 0 ∧ tk t n (s17 170 4) 1 (6713202) (s18 170 4) ∧ RDr s18 t n) ∨ (0 < s18 170 8 ∧ s17 170 8 = 0 ∧ ¬ ∃ e : Int, tk t n (s17 170 4) 1 (6713202) e) ∨ (0 < s18 170 8 ∧ 0 < s17 170 8) at o18
              have g33 := g_faultKind gs18
              have g34 := g_signAt gs18
              have e35 : s18 170 35 = s17 170 35 := fs18 170 35 rfl rfl
              have g36 := g_lexAt gs18
              have e37 : s18 170 34 = s17 170 34 := fs18 170 34 rfl rfl
              rcases o18 with ⟨y18, z18, t18, rd18⟩ | ⟨y18, z18, l18⟩ | ⟨y18, z18⟩
              · refine ⟨rfl, ⟨gs18, (show s18 170 8 = 0 → RDr s18 t n from (fun _ => rd18))⟩, fun r19 s19 q19 => ?_⟩
                obtain ⟨gs19, fs19, v19, o19⟩ := q19
                change -2147483648 ≤ r19 ∧ r19 ≤ 2147483647 at v19
                change (s19 170 8 = 0 ∧ s18 170 8 = 0 ∧ (0) ≤ r19 ∧ r19 ≤ (30) ∧ tk t n (s18 170 4) 2 r19 (s19 170 4) ∧ RDr s19 t n) ∨ (0 < s19 170 8 ∧ s18 170 8 = 0 ∧ ¬ ∃ v e : Int, tk t n (s18 170 4) 2 v e ∧ (0) ≤ v ∧ v ≤ (30)) ∨ (0 < s19 170 8 ∧ 0 < s18 170 8) at o19
                have g38 := g_faultKind gs19
                have g39 := g_signAt gs19
                have e40 : s19 170 35 = s18 170 35 := fs19 170 35 rfl rfl
                have g41 := g_lexAt gs19
                have e42 : s19 170 34 = s18 170 34 := fs19 170 34 rfl rfl
                rcases o19 with ⟨y19, z19, a19, b19, t19, rd19⟩ | ⟨y19, z19, l19⟩ | ⟨y19, z19⟩
                · refine ⟨by omega, ?_⟩
                  refine ⟨fun h43 => (by exfalso; omega), fun h43 => ?_⟩
                  have g48 := g_steps hG (st 170 35 : Int).toNat
                  have e47 : s6 178 (st 170 35 : Int).toNat = st 178 (st 170 35 : Int).toNat := fs6 178 (st 170 35 : Int).toNat rfl rfl
                  have e46 : s17 178 (st 170 35 : Int).toNat = s6 178 (st 170 35 : Int).toNat := fs17 178 (st 170 35 : Int).toNat rfl rfl
                  have e45 : s18 178 (st 170 35 : Int).toNat = s17 178 (st 170 35 : Int).toNat := fs18 178 (st 170 35 : Int).toNat rfl rfl
                  have e44 : s19 178 (s19 170 35 : Int).toNat = s18 178 (st 170 35 : Int).toNat := (fs19 178 (s19 170 35 : Int).toNat rfl rfl).trans (by rw [e40, e35, e28, e23] <;> rfl)
                  refine ⟨by omega, ?_⟩
                  refine ⟨by omega, ?_⟩
                  refine ⟨by omega, ?_⟩
                  exact hQ _ ⟨(gInv_up (gInv_up gs19 (p_minutesTold (by omega))) (p_steps (by omega))), (fr_a (fr_a (fr_tr (fr_tr (fr_a (fr_tr (fr_tr (fr_rf _ _) fs6 rfl) fs17 rfl) rfl) fs18 rfl) fs19 rfl) rfl) rfl), (show BO (s19 170 8) (RDr (zup (zup s19 180 (((20 : Int) * (s6 170 35)) + (s6 178 (s6 170 35 : Int).toNat) : Int).toNat r19) 178 (s19 170 35 : Int).toNat ((s19 178 (s19 170 35 : Int).toNat) + 1)) t n) (fun T' q => bSp t n T e T' q) (s19 170 4) (fun T' => RT (st 170 35) T' (zup (zup s19 180 (((20 : Int) * (s6 170 35)) + (s6 178 (s6 170 35 : Int).toNat) : Int).toNat r19) 178 (s19 170 35 : Int).toNat ((s19 178 (s19 170 35 : Int).toNat) + 1))) from (by
            rw [show c = 8 from by omega] at mk_lp
            have tp : 0 < T 9 2 → (st 179 (20 * st 170 35 + T 9 2 - 1 : Int).toNat) = T 10 (T 9 2 - 1).toNat := fun z => by
              have y := (rt.2.2.2.1.2.2 (T 9 2 - 1) (by omega) (by omega)).1
              rw [show (20 * st 170 35 + T 9 2 - 1 : Int).toNat = (20 * st 170 35 + (T 9 2 - 1)).toNat by omega]
              exact y
            have gp := g_stepTold hG (20 * st 170 35 + T 9 2 - 1 : Int).toNat
            have kb := KnP_b kn17
            have hc : T 9 2 = 0 ∨ ¬ lnk T (T 10 (T 9 2 - 1).toNat) r17 = -1 := by
              have y := MKp_z mk_lp (by omega) hz17
              by_cases z : T 9 2 = 0
              · exact Or.inl z
              · rw [RTs_l (a := (st 179 (20 * st 170 35 + T 9 2 - 1 : Int).toNat)) (c := r17) rt.2.2.1 (by omega) (by omega), tp (by omega)] at y
                exact Or.inr (fun z2 => y ⟨by omega, by omega⟩)
            refine Or.inr ⟨by omega, (show RDr (zup (zup s19 180 (((20 : Int) * (s6 170 35)) + (s6 178 (s6 170 35 : Int).toNat) : Int).toNat r19) 178 (s19 170 35 : Int).toNat ((s19 178 (s19 170 35 : Int).toNat) + 1)) t n from rd19), ⟨_, show T 9 2 < 20 from by omega, v17, r17, _, _, r19, (show tk t n e 1 v17 (s17 170 4) from by rw [← ee6]; exact t17), kn17, hc, t18, t19, by omega, rfl⟩, fun T' q hb => ?_⟩
            obtain ⟨h0, v, a, e1, e2, m, h1, h2, h3, h4, h5, h6, h7⟩ := (show bSp t n T e T' q from hb)
            obtain ⟨-, rfl, rfl⟩ := tk_u (show tk t n e 1 v17 (s17 170 4) from by rw [← ee6]; exact t17) h1
            have ea17 := KnP_u kn17 h2
            subst ea17
            obtain ⟨-, -, rfl⟩ := tk_u t18 h4
            obtain ⟨-, rfl, rfl⟩ := tk_u t19 h5
            subst h7
            exact ⟨rfl, RT_sp (by omega) rt h0 (fun i => ((show ∀ i : Nat, (zup (zup s19 180 (((20 : Int) * (s6 170 35)) + (s6 178 (s6 170 35 : Int).toNat) : Int).toNat r19) 178 (s19 170 35 : Int).toNat ((s19 178 (s19 170 35 : Int).toNat) + 1)) 178 i = (up1 (st 178) (s19 170 35 : Int).toNat ((s19 178 (s19 170 35 : Int).toNat) + 1)) i from fun i => by show up1 ((zup s19 180 (((20 : Int) * (s6 170 35)) + (s6 178 (s6 170 35 : Int).toNat) : Int).toNat r19) 178) (s19 170 35 : Int).toNat ((s19 178 (s19 170 35 : Int).toNat) + 1) i = up1 (st 178) (s19 170 35 : Int).toNat ((s19 178 (s19 170 35 : Int).toNat) + 1) i; rw [show (zup s19 180 (((20 : Int) * (s6 170 35)) + (s6 178 (s6 170 35 : Int).toNat) : Int).toNat r19) 178 = (st 178) from funext (show ∀ i : Nat, (zup s19 180 (((20 : Int) * (s6 170 35)) + (s6 178 (s6 170 35 : Int).toNat) : Int).toNat r19) 178 i = (st 178) i from (show ∀ i : Nat, s19 178 i = (st 178) i from fun i => (fs19 178 i rfl rfl).trans ((show ∀ i : Nat, s18 178 i = (st 178) i from fun i => (fs18 178 i rfl rfl).trans ((show ∀ i : Nat, (zup s17 179 (((20 : Int) * (s6 170 35)) + (s6 178 (s6 170 35 : Int).toNat) : Int).toNat r17) 178 i = (st 178) i from (show ∀ i : Nat, s17 178 i = (st 178) i from fun i => (fs17 178 i rfl rfl).trans ((show ∀ i : Nat, s6 178 i = (st 178) i from fun i => (fs6 178 i rfl rfl).trans ((fun _ => rfl) i)) i))) i)) i)))]) i).trans (by show (up1 (st 178) (s19 170 35 : Int).toNat ((s19 178 (s19 170 35 : Int).toNat) + 1)) i = (up1 (st 178) (st 170 35 : Int).toNat (T 9 2 + 1)) i; simp only [show s19 170 35 = st 170 35 from by omega, show s19 178 = (st 178) from funext (show ∀ i : Nat, s19 178 i = (st 178) i from fun i => (fs19 178 i rfl rfl).trans ((show ∀ i : Nat, s18 178 i = (st 178) i from fun i => (fs18 178 i rfl rfl).trans ((show ∀ i : Nat, (zup s17 179 (((20 : Int) * (s6 170 35)) + (s6 178 (s6 170 35 : Int).toNat) : Int).toNat r17) 178 i = (st 178) i from (show ∀ i : Nat, s17 178 i = (st 178) i from fun i => (fs17 178 i rfl rfl).trans ((show ∀ i : Nat, s6 178 i = (st 178) i from fun i => (fs6 178 i rfl rfl).trans ((fun _ => rfl) i)) i))) i)) i)), rp1])) (fun i => ((show ∀ i : Nat, (zup (zup s19 180 (((20 : Int) * (s6 170 35)) + (s6 178 (s6 170 35 : Int).toNat) : Int).toNat r19) 178 (s19 170 35 : Int).toNat ((s19 178 (s19 170 35 : Int).toNat) + 1)) 179 i = (up1 (st 179) (((20 : Int) * (s6 170 35)) + (s6 178 (s6 170 35 : Int).toNat) : Int).toNat r17) i from (show ∀ i : Nat, s19 179 i = (up1 (st 179) (((20 : Int) * (s6 170 35)) + (s6 178 (s6 170 35 : Int).toNat) : Int).toNat r17) i from fun i => (fs19 179 i rfl rfl).trans ((show ∀ i : Nat, s18 179 i = (up1 (st 179) (((20 : Int) * (s6 170 35)) + (s6 178 (s6 170 35 : Int).toNat) : Int).toNat r17) i from fun i => (fs18 179 i rfl rfl).trans ((show ∀ i : Nat, (zup s17 179 (((20 : Int) * (s6 170 35)) + (s6 178 (s6 170 35 : Int).toNat) : Int).toNat r17) 179 i = (up1 (st 179) (((20 : Int) * (s6 170 35)) + (s6 178 (s6 170 35 : Int).toNat) : Int).toNat r17) i from fun i => by show up1 (s17 179) (((20 : Int) * (s6 170 35)) + (s6 178 (s6 170 35 : Int).toNat) : Int).toNat r17 i = up1 (st 179) (((20 : Int) * (s6 170 35)) + (s6 178 (s6 170 35 : Int).toNat) : Int).toNat r17 i; rw [show s17 179 = (st 179) from funext (show ∀ i : Nat, s17 179 i = (st 179) i from fun i => (fs17 179 i rfl rfl).trans ((show ∀ i : Nat, s6 179 i = (st 179) i from fun i => (fs6 179 i rfl rfl).trans ((fun _ => rfl) i)) i))]) i)) i))) i).trans (by show (up1 (st 179) (((20 : Int) * (s6 170 35)) + (s6 178 (s6 170 35 : Int).toNat) : Int).toNat r17) i = (up1 (st 179) (20 * st 170 35 + T 9 2 : Int).toNat r17) i; simp only [show s6 170 35 = st 170 35 from by omega, show s6 178 = (st 178) from funext (show ∀ i : Nat, s6 178 i = (st 178) i from fun i => (fs6 178 i rfl rfl).trans ((fun _ => rfl) i)), rp1])) (fun i => ((show ∀ i : Nat, (zup (zup s19 180 (((20 : Int) * (s6 170 35)) + (s6 178 (s6 170 35 : Int).toNat) : Int).toNat r19) 178 (s19 170 35 : Int).toNat ((s19 178 (s19 170 35 : Int).toNat) + 1)) 180 i = (up1 (st 180) (((20 : Int) * (s6 170 35)) + (s6 178 (s6 170 35 : Int).toNat) : Int).toNat r19) i from fun i => by show up1 (s19 180) (((20 : Int) * (s6 170 35)) + (s6 178 (s6 170 35 : Int).toNat) : Int).toNat r19 i = up1 (st 180) (((20 : Int) * (s6 170 35)) + (s6 178 (s6 170 35 : Int).toNat) : Int).toNat r19 i; rw [show s19 180 = (st 180) from funext (show ∀ i : Nat, s19 180 i = (st 180) i from fun i => (fs19 180 i rfl rfl).trans ((show ∀ i : Nat, s18 180 i = (st 180) i from fun i => (fs18 180 i rfl rfl).trans ((show ∀ i : Nat, (zup s17 179 (((20 : Int) * (s6 170 35)) + (s6 178 (s6 170 35 : Int).toNat) : Int).toNat r17) 180 i = (st 180) i from (show ∀ i : Nat, s17 180 i = (st 180) i from fun i => (fs17 180 i rfl rfl).trans ((show ∀ i : Nat, s6 180 i = (st 180) i from fun i => (fs6 180 i rfl rfl).trans ((fun _ => rfl) i)) i))) i)) i))]) i).trans (by show (up1 (st 180) (((20 : Int) * (s6 170 35)) + (s6 178 (s6 170 35 : Int).toNat) : Int).toNat r19) i = (up1 (st 180) (20 * st 170 35 + T 9 2 : Int).toNat r19) i; simp only [show s6 170 35 = st 170 35 from by omega, show s6 178 = (st 178) from funext (show ∀ i : Nat, s6 178 i = (st 178) i from fun i => (fs6 178 i rfl rfl).trans ((fun _ => rfl) i)), rp1])) (by
              exact fun c i h1 h2 y0 y1 y2 => by
                rcases (show c = 172 ∨ c = 173 ∨ c = 174 ∨ c = 175 ∨ c = 176 ∨ c = 177 ∨ c = 181 ∨ c = 182 ∨ c = 183 ∨ c = 184 ∨ c = 185 ∨ c = 186 ∨ c = 187 ∨ c = 188 ∨ c = 189 ∨ c = 190 ∨ c = 191 from by omega) with rfl | rfl | rfl | rfl | rfl | rfl | rfl | rfl | rfl | rfl | rfl | rfl | rfl | rfl | rfl | rfl | rfl
                · exact (fun i => (fs19 172 i rfl rfl).trans ((fun i => (fs18 172 i rfl rfl).trans ((fun i => (fs17 172 i rfl rfl).trans ((fun i => (fs6 172 i rfl rfl).trans ((fun _ => rfl) i)) i)) i)) i)) i
                · exact (fun i => (fs19 173 i rfl rfl).trans ((fun i => (fs18 173 i rfl rfl).trans ((fun i => (fs17 173 i rfl rfl).trans ((fun i => (fs6 173 i rfl rfl).trans ((fun _ => rfl) i)) i)) i)) i)) i
                · exact (fun i => (fs19 174 i rfl rfl).trans ((fun i => (fs18 174 i rfl rfl).trans ((fun i => (fs17 174 i rfl rfl).trans ((fun i => (fs6 174 i rfl rfl).trans ((fun _ => rfl) i)) i)) i)) i)) i
                · exact (fun i => (fs19 175 i rfl rfl).trans ((fun i => (fs18 175 i rfl rfl).trans ((fun i => (fs17 175 i rfl rfl).trans ((fun i => (fs6 175 i rfl rfl).trans ((fun _ => rfl) i)) i)) i)) i)) i
                · exact (fun i => (fs19 176 i rfl rfl).trans ((fun i => (fs18 176 i rfl rfl).trans ((fun i => (fs17 176 i rfl rfl).trans ((fun i => (fs6 176 i rfl rfl).trans ((fun _ => rfl) i)) i)) i)) i)) i
                · exact (fun i => (fs19 177 i rfl rfl).trans ((fun i => (fs18 177 i rfl rfl).trans ((fun i => (fs17 177 i rfl rfl).trans ((fun i => (fs6 177 i rfl rfl).trans ((fun _ => rfl) i)) i)) i)) i)) i
                · exact (fun i => (fs19 181 i rfl rfl).trans ((fun i => (fs18 181 i rfl rfl).trans ((fun i => (fs17 181 i rfl rfl).trans ((fun i => (fs6 181 i rfl rfl).trans ((fun _ => rfl) i)) i)) i)) i)) i
                · exact (fun i => (fs19 182 i rfl rfl).trans ((fun i => (fs18 182 i rfl rfl).trans ((fun i => (fs17 182 i rfl rfl).trans ((fun i => (fs6 182 i rfl rfl).trans ((fun _ => rfl) i)) i)) i)) i)) i
                · exact (fun i => (fs19 183 i rfl rfl).trans ((fun i => (fs18 183 i rfl rfl).trans ((fun i => (fs17 183 i rfl rfl).trans ((fun i => (fs6 183 i rfl rfl).trans ((fun _ => rfl) i)) i)) i)) i)) i
                · exact (fun i => (fs19 184 i rfl rfl).trans ((fun i => (fs18 184 i rfl rfl).trans ((fun i => (fs17 184 i rfl rfl).trans ((fun i => (fs6 184 i rfl rfl).trans ((fun _ => rfl) i)) i)) i)) i)) i
                · exact (fun i => (fs19 185 i rfl rfl).trans ((fun i => (fs18 185 i rfl rfl).trans ((fun i => (fs17 185 i rfl rfl).trans ((fun i => (fs6 185 i rfl rfl).trans ((fun _ => rfl) i)) i)) i)) i)) i
                · exact (fun i => (fs19 186 i rfl rfl).trans ((fun i => (fs18 186 i rfl rfl).trans ((fun i => (fs17 186 i rfl rfl).trans ((fun i => (fs6 186 i rfl rfl).trans ((fun _ => rfl) i)) i)) i)) i)) i
                · exact (fun i => (fs19 187 i rfl rfl).trans ((fun i => (fs18 187 i rfl rfl).trans ((fun i => (fs17 187 i rfl rfl).trans ((fun i => (fs6 187 i rfl rfl).trans ((fun _ => rfl) i)) i)) i)) i)) i
                · exact (fun i => (fs19 188 i rfl rfl).trans ((fun i => (fs18 188 i rfl rfl).trans ((fun i => (fs17 188 i rfl rfl).trans ((fun i => (fs6 188 i rfl rfl).trans ((fun _ => rfl) i)) i)) i)) i)) i
                · exact (fun i => (fs19 189 i rfl rfl).trans ((fun i => (fs18 189 i rfl rfl).trans ((fun i => (fs17 189 i rfl rfl).trans ((fun i => (fs6 189 i rfl rfl).trans ((fun _ => rfl) i)) i)) i)) i)) i
                · exact (fun i => (fs19 190 i rfl rfl).trans ((fun i => (fs18 190 i rfl rfl).trans ((fun i => (fs17 190 i rfl rfl).trans ((fun i => (fs6 190 i rfl rfl).trans ((fun _ => rfl) i)) i)) i)) i)) i
                · exact (fun i => (fs19 191 i rfl rfl).trans ((fun i => (fs18 191 i rfl rfl).trans ((fun i => (fs17 191 i rfl rfl).trans ((fun i => (fs6 191 i rfl rfl).trans ((fun _ => rfl) i)) i)) i)) i)) i)⟩))⟩
                · refine ⟨by omega, ?_⟩
                  refine ⟨fun h49 => ?_, fun h49 => (by exfalso; omega)⟩
                  exact hQ _ ⟨(gInv_up gs19 (p_minutesTold (by omega))), (fr_a (fr_tr (fr_tr (fr_a (fr_tr (fr_tr (fr_rf _ _) fs6 rfl) fs17 rfl) rfl) fs18 rfl) fs19 rfl) rfl), (show BO (s19 170 8) (RDr (zup s19 180 (((20 : Int) * (s6 170 35)) + (s6 178 (s6 170 35 : Int).toNat) : Int).toNat r19) t n) (fun T' q => bSp t n T e T' q) (s19 170 4) (fun T' => RT (st 170 35) T' (zup s19 180 (((20 : Int) * (s6 170 35)) + (s6 178 (s6 170 35 : Int).toNat) : Int).toNat r19)) from (by
            refine Or.inl ⟨by omega, fun hx => ?_⟩
            obtain ⟨T', q, hb⟩ := hx
            obtain ⟨h0, v, a, e1, e2, m, h1, h2, h3, h4, h5, h6, h7⟩ := (show bSp t n T e T' q from hb)
            obtain ⟨-, rfl, rfl⟩ := tk_u (show tk t n e 1 v17 (s17 170 4) from by rw [← ee6]; exact t17) h1
            have ea17 := KnP_u kn17 h2
            subst ea17
            obtain ⟨-, -, rfl⟩ := tk_u t18 h4
            have hz := tk_num h5
            exact l19 ⟨m, q, h5, by omega, h6⟩))⟩
                · exfalso; omega
              · refine ⟨rfl, ⟨gs18, (show s18 170 8 = 0 → RDr s18 t n from (fun z => absurd z (by omega)))⟩, fun r19 s19 q19 => ?_⟩
                obtain ⟨gs19, fs19, v19, o19⟩ := q19
                change -2147483648 ≤ r19 ∧ r19 ≤ 2147483647 at v19
                change (s19 170 8 = 0 ∧ s18 170 8 = 0 ∧ (0) ≤ r19 ∧ r19 ≤ (30) ∧ tk t n (s18 170 4) 2 r19 (s19 170 4) ∧ RDr s19 t n) ∨ (0 < s19 170 8 ∧ s18 170 8 = 0 ∧ ¬ ∃ v e : Int, tk t n (s18 170 4) 2 v e ∧ (0) ≤ v ∧ v ≤ (30)) ∨ (0 < s19 170 8 ∧ 0 < s18 170 8) at o19
                have g50 := g_faultKind gs19
                have g51 := g_signAt gs19
                have e52 : s19 170 35 = s18 170 35 := fs19 170 35 rfl rfl
                have g53 := g_lexAt gs19
                have e54 : s19 170 34 = s18 170 34 := fs19 170 34 rfl rfl
                rcases o19 with ⟨y19, z19, a19, b19, t19, rd19⟩ | ⟨y19, z19, l19⟩ | ⟨y19, z19⟩
                · exfalso; omega
                · exfalso; omega
                · refine ⟨by omega, ?_⟩
                  refine ⟨fun h55 => ?_, fun h55 => (by exfalso; omega)⟩
                  exact hQ _ ⟨(gInv_up gs19 (p_minutesTold (by omega))), (fr_a (fr_tr (fr_tr (fr_a (fr_tr (fr_tr (fr_rf _ _) fs6 rfl) fs17 rfl) rfl) fs18 rfl) fs19 rfl) rfl), (show BO (s19 170 8) (RDr (zup s19 180 (((20 : Int) * (s6 170 35)) + (s6 178 (s6 170 35 : Int).toNat) : Int).toNat r19) t n) (fun T' q => bSp t n T e T' q) (s19 170 4) (fun T' => RT (st 170 35) T' (zup s19 180 (((20 : Int) * (s6 170 35)) + (s6 178 (s6 170 35 : Int).toNat) : Int).toNat r19)) from (by
            refine Or.inl ⟨by omega, fun hx => ?_⟩
            obtain ⟨T', q, hb⟩ := hx
            obtain ⟨h0, v, a, e1, e2, m, h1, h2, h3, h4, h5, h6, h7⟩ := (show bSp t n T e T' q from hb)
            obtain ⟨-, rfl, rfl⟩ := tk_u (show tk t n e 1 v17 (s17 170 4) from by rw [← ee6]; exact t17) h1
            have ea17 := KnP_u kn17 h2
            subst ea17
            exact l18 ⟨e2, h4⟩))⟩
              · exfalso; omega
            · refine ⟨by omega, ?_⟩
              refine ⟨rfl, ⟨(gInv_up gs17 (p_stepTold (by omega))), (show s17 170 8 = 0 → RDr (zup s17 179 (((20 : Int) * (s6 170 35)) + (s6 178 (s6 170 35 : Int).toNat) : Int).toNat r17) t n from (fun z => absurd z (by omega)))⟩, fun s18 q18 => ?_⟩
              obtain ⟨gs18, fs18, o18⟩ := q18
              change (s18 170 8 = 0 ∧ s17 170 8 = 0 ∧ tk t n (s17 170 4) 1 (6713202) (s18 170 4) ∧ RDr s18 t n) ∨ (0 < s18 170 8 ∧ s17 170 8 = 0 ∧ ¬ ∃ e : Int, tk t n (s17 170 4) 1 (6713202) e) ∨ (0 < s18 170 8 ∧ 0 < s17 170 8) at o18
              have g56 := g_faultKind gs18
              have g57 := g_signAt gs18
              have e58 : s18 170 35 = s17 170 35 := fs18 170 35 rfl rfl
              have g59 := g_lexAt gs18
              have e60 : s18 170 34 = s17 170 34 := fs18 170 34 rfl rfl
              rcases o18 with ⟨y18, z18, t18, rd18⟩ | ⟨y18, z18, l18⟩ | ⟨y18, z18⟩
              · exfalso; omega
              · exfalso; omega
              · refine ⟨rfl, ⟨gs18, (show s18 170 8 = 0 → RDr s18 t n from (fun z => absurd z (by omega)))⟩, fun r19 s19 q19 => ?_⟩
                obtain ⟨gs19, fs19, v19, o19⟩ := q19
                change -2147483648 ≤ r19 ∧ r19 ≤ 2147483647 at v19
                change (s19 170 8 = 0 ∧ s18 170 8 = 0 ∧ (0) ≤ r19 ∧ r19 ≤ (30) ∧ tk t n (s18 170 4) 2 r19 (s19 170 4) ∧ RDr s19 t n) ∨ (0 < s19 170 8 ∧ s18 170 8 = 0 ∧ ¬ ∃ v e : Int, tk t n (s18 170 4) 2 v e ∧ (0) ≤ v ∧ v ≤ (30)) ∨ (0 < s19 170 8 ∧ 0 < s18 170 8) at o19
                have g61 := g_faultKind gs19
                have g62 := g_signAt gs19
                have e63 : s19 170 35 = s18 170 35 := fs19 170 35 rfl rfl
                have g64 := g_lexAt gs19
                have e65 : s19 170 34 = s18 170 34 := fs19 170 34 rfl rfl
                rcases o19 with ⟨y19, z19, a19, b19, t19, rd19⟩ | ⟨y19, z19, l19⟩ | ⟨y19, z19⟩
                · exfalso; omega
                · exfalso; omega
                · refine ⟨by omega, ?_⟩
                  refine ⟨fun h66 => ?_, fun h66 => (by exfalso; omega)⟩
                  exact hQ _ ⟨(gInv_up gs19 (p_minutesTold (by omega))), (fr_a (fr_tr (fr_tr (fr_a (fr_tr (fr_tr (fr_rf _ _) fs6 rfl) fs17 rfl) rfl) fs18 rfl) fs19 rfl) rfl), (show BO (s19 170 8) (RDr (zup s19 180 (((20 : Int) * (s6 170 35)) + (s6 178 (s6 170 35 : Int).toNat) : Int).toNat r19) t n) (fun T' q => bSp t n T e T' q) (s19 170 4) (fun T' => RT (st 170 35) T' (zup s19 180 (((20 : Int) * (s6 170 35)) + (s6 178 (s6 170 35 : Int).toNat) : Int).toNat r19)) from (by
            refine Or.inl ⟨by omega, fun hx => ?_⟩
            obtain ⟨T', q, hb⟩ := hx
            obtain ⟨h0, v, a, e1, e2, m, h1, h2, h3, h4, h5, h6, h7⟩ := (show bSp t n T e T' q from hb)
            rw [show c = 8 from by omega] at mk_lp
            have tp : 0 < T 9 2 → (st 179 (20 * st 170 35 + T 9 2 - 1 : Int).toNat) = T 10 (T 9 2 - 1).toNat := fun z => by
              have y := (rt.2.2.2.1.2.2 (T 9 2 - 1) (by omega) (by omega)).1
              rw [show (20 * st 170 35 + T 9 2 - 1 : Int).toNat = (20 * st 170 35 + (T 9 2 - 1)).toNat by omega]
              exact y
            have gp := g_stepTold hG (20 * st 170 35 + T 9 2 - 1 : Int).toNat
            have kb := KnP_b h2
            refine l17 ⟨v, a, e1, (by rw [ee6]; exact h1), h2, MKp_y mk_lp (by omega) (fun z => ?_)⟩
            rw [RTs_l (a := (st 179 (20 * st 170 35 + T 9 2 - 1 : Int).toNat)) (c := a) rt.2.2.1 (by omega) (by omega), tp z.1] at z
            rcases h3 with y | y
            · omega
            · exact y (by have z2 := z.2; omega)))⟩
            · exfalso; omega
          · have g68 := g_in hG
            have e67 : s6 170 35 = st 170 35 := fs6 170 35 rfl rfl
            have g70 := g_steps hG (st 170 35 : Int).toNat
            have e69 : s6 178 (s6 170 35 : Int).toNat = st 178 (st 170 35 : Int).toNat := (fs6 178 (s6 170 35 : Int).toNat rfl rfl).trans (by rw [e67] <;> rfl)
            refine ⟨by omega, ?_⟩
            refine ⟨fun h71 => ?_, fun h71 => ?_⟩
            · refine ⟨by omega, ?_⟩
              exact ih_lp _ (show (8 - (c + 1) : Int).toNat < u_lp from by omega) (c + 1) (zd (Nat.lor (zi bt) (zi 0))) ⟨(show 0 ≤ (c + 1) ∧ (c + 1) ≤ 8 from by omega), (show 0 ≤ (zd (Nat.lor (zi bt) (zi 0))) ∧ (zd (Nat.lor (zi bt) (zi 0))) < 256 from by rw [lor_z (by omega)]; omega), (show MKp (st 177) (st 170 35) (st 179 (20 * st 170 35 + T 9 2 - 1 : Int).toNat) (c + 1) (T 9 2) (zd (Nat.lor (zi bt) (zi 0))) from (MKp_n mk_lp (by omega) (fun z => by omega)))⟩ rfl
            · refine ⟨by omega, ?_⟩
              have g73 := g_stepTold hG ((((20 : Int) * (st 170 35)) + (s6 178 (st 170 35 : Int).toNat)) - 1 : Int).toNat
              have e72 : s6 179 ((((20 : Int) * (s6 170 35)) + (s6 178 (s6 170 35 : Int).toNat)) - 1 : Int).toNat = st 179 ((((20 : Int) * (st 170 35)) + (s6 178 (st 170 35 : Int).toNat)) - 1 : Int).toNat := (fs6 179 ((((20 : Int) * (s6 170 35)) + (s6 178 (s6 170 35 : Int).toNat)) - 1 : Int).toNat rfl rfl).trans (by rw [e67] <;> rfl)
              refine ⟨by omega, ?_⟩
              refine ⟨rfl, (show 0 ≤ (s6 170 35) ∧ (s6 170 35) ≤ 1 ∧ 0 ≤ (s6 179 ((((20 : Int) * (s6 170 35)) + (s6 178 (s6 170 35 : Int).toNat)) - 1 : Int).toNat) ∧ (s6 179 ((((20 : Int) * (s6 170 35)) + (s6 178 (s6 170 35 : Int).toNat)) - 1 : Int).toNat) < 8 ∧ 0 ≤ c ∧ c < 8 from by omega), fun r20 q20 => ?_⟩
              have e20 := q20
              change r20 = s6 177 (64 * (s6 170 35) + 8 * (s6 179 ((((20 : Int) * (s6 170 35)) + (s6 178 (s6 170 35 : Int).toNat)) - 1 : Int).toNat) + c : Int).toNat at e20
              have eb20 : r20 = st 177 (64 * st 170 35 + 8 * (st 179 (20 * st 170 35 + T 9 2 - 1 : Int).toNat) + c : Int).toNat := by rw [e20, show s6 177 = st 177 from funext (fun i => (fs6 177 i rfl rfl).trans ((fun _ => rfl) i)), show s6 170 35 = st 170 35 from by omega, show s6 179 = st 179 from funext (fun i => (fs6 179 i rfl rfl).trans ((fun _ => rfl) i)), show s6 178 = st 178 from funext (fun i => (fs6 178 i rfl rfl).trans ((fun _ => rfl) i)), show st 178 (st 170 35 : Int).toNat = T 9 2 from rp1]
              have g75 := g_streetAt hG (64 * (st 170 35) + 8 * (s6 179 ((((20 : Int) * (st 170 35)) + (s6 178 (st 170 35 : Int).toNat)) - 1 : Int).toNat) + c : Int).toNat
              have e74 : s6 177 (64 * (s6 170 35) + 8 * (s6 179 ((((20 : Int) * (s6 170 35)) + (s6 178 (s6 170 35 : Int).toNat)) - 1 : Int).toNat) + c : Int).toNat = st 177 (64 * (st 170 35) + 8 * (s6 179 ((((20 : Int) * (st 170 35)) + (s6 178 (st 170 35 : Int).toNat)) - 1 : Int).toNat) + c : Int).toNat := (fs6 177 (64 * (s6 170 35) + 8 * (s6 179 ((((20 : Int) * (s6 170 35)) + (s6 178 (s6 170 35 : Int).toNat)) - 1 : Int).toNat) + c : Int).toNat rfl rfl).trans (by rw [e67] <;> rfl)
              refine ⟨fun h76 => ?_, fun h76 => ?_⟩
              · refine ⟨by omega, ?_⟩
                exact ih_lp _ (show (8 - (c + 1) : Int).toNat < u_lp from by omega) (c + 1) (zd (Nat.lor (zi bt) (zi 0))) ⟨(show 0 ≤ (c + 1) ∧ (c + 1) ≤ 8 from by omega), (show 0 ≤ (zd (Nat.lor (zi bt) (zi 0))) ∧ (zd (Nat.lor (zi bt) (zi 0))) < 256 from by rw [lor_z (by omega)]; omega), (show MKp (st 177) (st 170 35) (st 179 (20 * st 170 35 + T 9 2 - 1 : Int).toNat) (c + 1) (T 9 2) (zd (Nat.lor (zi bt) (zi 0))) from (MKp_n mk_lp (by omega) (fun z => by have z2 := z.2; rw [← eb20] at z2; omega)))⟩ rfl
              · refine ⟨by omega, ?_⟩
                exact ih_lp _ (show (8 - (c + 1) : Int).toNat < u_lp from by omega) (c + 1) (zd (Nat.lor (zi bt) (zi (zd ((zi 1 * 2 ^ (zi c % 32)) % 4294967296))))) ⟨(show 0 ≤ (c + 1) ∧ (c + 1) ≤ 8 from by omega), (show 0 ≤ (zd (Nat.lor (zi bt) (zi (zd ((zi 1 * 2 ^ (zi c % 32)) % 4294967296))))) ∧ (zd (Nat.lor (zi bt) (zi (zd ((zi 1 * 2 ^ (zi c % 32)) % 4294967296))))) < 256 from (lor_bit (s := bt) (c := c) (j := 0) (by omega) (by omega) (by omega)).1), (show MKp (st 177) (st 170 35) (st 179 (20 * st 170 35 + T 9 2 - 1 : Int).toNat) (c + 1) (T 9 2) (zd (Nat.lor (zi bt) (zi (zd ((zi 1 * 2 ^ (zi c % 32)) % 4294967296))))) from (MKp_1 mk_lp (by omega) (by omega) (by omega) (by rw [← eb20]; omega)))⟩ rfl
      exact lp _ 0 0 ⟨(show 0 ≤ (0 : Int) ∧ (0 : Int) ≤ 8 from by omega), (show 0 ≤ (0 : Int) ∧ (0 : Int) < 256 from by omega), (show MKp (st 177) (st 170 35) (st 179 (20 * st 170 35 + T 9 2 - 1 : Int).toNat) (0 : Int) (T 9 2) (0 : Int) from MKp_0)⟩ rfl
    · exfalso; omega
    · exfalso; omega
  · refine ⟨rfl, ⟨hG, (show RDr st t n from rd), (show st 170 8 = 0 ∧ st 170 12 = -1 ∧ ((1) = 0 ∨ (1) = 1) from by omega)⟩, fun r7 s7 q7 => ?_⟩
    obtain ⟨gs7, fs7, o7⟩ := q7
    change (s7 170 8 = 0 ∧ st 170 8 = 0 ∧ r7 = 1 ∧ (1) = 0 ∧ RDr s7 t n ∧ NXr st s7 t n) ∨ (0 < s7 170 8 ∧ st 170 8 = 0 ∧ r7 = 0 ∧ (1) = 1) ∨ (0 < s7 170 8 ∧ 0 < st 170 8) at o7
    have g77 := g_faultKind gs7
    have e78 : s7 170 35 = st 170 35 := fs7 170 35 rfl rfl
    have g79 := g_signAt gs7
    have g80 := g_lexAt gs7
    have e81 : s7 170 34 = st 170 34 := fs7 170 34 rfl rfl
    rcases o7 with ⟨y7, z7, k7, f7, rd7, nx7⟩ | ⟨y7, z7, k7, f7⟩ | ⟨y7, z7⟩
    · exfalso; omega
    · refine ⟨fun h82 => (by exfalso; omega), fun h82 => ?_⟩
      exact hQ _ ⟨gs7, (fr_tr (fr_rf _ _) fs7 rfl), (show BO (s7 170 8) (RDr s7 t n) (fun T' q => bSp t n T e T' q) (s7 170 4) (fun T' => RT (st 170 35) T' s7) from (by
            refine Or.inl ⟨by omega, fun hx => ?_⟩
            obtain ⟨T', q, hb⟩ := hx
            obtain ⟨h0, v, a, e1, e2, m, h1, h2, h3, h4, h5, h6, h7⟩ := (show bSp t n T e T' q from hb)
            omega))⟩
    · exfalso; omega
theorem k_rStepping_m (hTb : aTb zSh rx_tb cl) {t : Int → Int} {n : Int} {T : zS} {wv e : Int} {D : Nat} (hD : 4 ≤ D) : ∀ as st (Q Q' : zQ), (∀ r st', Q r st' → Q' r st') → (k_rStepping t n T wv e) 206 as st Q → cl D 206 as st Q' := by
  intro as st Q Q' hQ h
  unfold k_rStepping at h
  split at h
  · obtain ⟨rfl, h⟩ := h
    exact c_rStepping hTb hD (ct_rStepping_m hQ h)
  · exact h.elim
set_option maxHeartbeats 4000000 in
set_option maxRecDepth 100000 in
theorem c_rStreeting (hTb : aTb zSh rx_tb cl) {t : Int → Int} {n : Int} {T : zS} {wv e : Int} {D : Nat} (hD : 4 ≤ D) {st : zS} {Q : zQ} (h : ct_rStreeting t n T wv e st Q) : cl D 205 [.inr (.inr (.inl 170))] st Q := by
  obtain ⟨d, rfl⟩ : ∃ d, D = d + 1 := ⟨D - 1, by omega⟩
  refine hTb d 205 (rx_m205, 6, 0, 0, 0) rfl _ _ _ (Nat.le_of_ble_eq_true rfl) (fun K hcl hsf hsl => ?_)
  have hcm : zmo (wcL [(199, k_rCounts t n), (203, k_rKnown t n T), (200, k_rMustJ t n), (0, k_between), (188, k_rNumber t n)]) (cl d) := (wcL_m (wm_cons (k_rCounts_m hTb (by omega)) (wm_cons (k_rKnown_m hTb (by omega)) (wm_cons (k_rMustJ_m hTb (by omega)) (wm_cons (k_between_m hTb (by omega)) (wm_cons (k_rNumber_m hTb (by omega)) wm_nil))))))
  obtain ⟨hR, hQ⟩ := h
  obtain ⟨hG, rd, rt, q, th⟩ := hR
  change RDr st t n at rd
  change RT (st 170 35) T st at rt
  change st 170 8 = 0 ∧ st 170 12 = -1 at q
  change tk t n (st 170 4) 1 wv e at th
  have g1 := g_in hG
  have g2 := g_faultKind hG
  have g3 := g_lexAt hG
  have g4 := g_signAt hG
  obtain ⟨f0, lx⟩ := q
  have rn1 := rt.1.1
  have rn2 := rt.1.2.1
  have rt1 := rt.2.1.1
  have rt2 := rt.2.1.2.1
  have rs1 := rt.2.2.1.1
  have rs2 := rt.2.2.1.2.1
  have rp1 := rt.2.2.2.1.1
  have rp2 := rt.2.2.2.1.2.1
  have g5 := g_codes hG
  refine yr1_ok (Rt := Q) (wc := (wcL [(199, k_rCounts t n), (203, k_rKnown t n T), (200, k_rMustJ t n), (0, k_between), (188, k_rNumber t n)])) (stp := [46]) hcm hcl [] 155 ?_
  show ((0 ≤ st 170 35 ∧ st 170 35 < 2) ∧ ((¬ st 173 (st 170 35 : Int).toNat = (14 : Int) → (170 = 170 ∧ (rq_rCounts t n (0) st ∧ (∀ (r6 : Int) (s6 : zS), en_rCounts t n (0) st r6 s6 → ((¬ r6 = (0 : Int) → (170 = 170 ∧ (rq_rKnown t n T (0) s6 ∧ (∀ (r7 : Int) (s7 : zS), en_rKnown t n T (0) s6 r7 s7 → (170 = 170 ∧ (rq_rMustJ t n (29807) s7 ∧ (∀ (s8 : zS), en_rMustJ t n (29807) s7 s8 → K (rx_find rx_m205 46) [(3, .inl 0), (2, .inl (zd ((zi 1 * 2 ^ (zi r7 % 32)) % 4294967296))), (1, .inl r7), (0, .inr (.inr (.inl 170)))] [] s8))))))) ∧ (¬ (¬ r6 = (0 : Int)) → Q none s6)))))) ∧ (¬ (¬ st 173 (st 170 35 : Int).toNat = (14 : Int)) → (170 = 170 ∧ (rq_rCounts t n (1) st ∧ (∀ (r9 : Int) (s9 : zS), en_rCounts t n (1) st r9 s9 → ((¬ r9 = (0 : Int) → (170 = 170 ∧ (rq_rKnown t n T (0) s9 ∧ (∀ (r10 : Int) (s10 : zS), en_rKnown t n T (0) s9 r10 s10 → (170 = 170 ∧ (rq_rMustJ t n (29807) s10 ∧ (∀ (s11 : zS), en_rMustJ t n (29807) s10 s11 → K (rx_find rx_m205 46) [(3, .inl 0), (2, .inl (zd ((zi 1 * 2 ^ (zi r10 % 32)) % 4294967296))), (1, .inl r10), (0, .inr (.inr (.inl 170)))] [] s11))))))) ∧ (¬ (¬ r9 = (0 : Int)) → Q none s9))))))))
  have g12 := g_streets hG (st 170 35 : Int).toNat
  refine ⟨by omega, ?_⟩
  refine ⟨fun h13 => ?_, fun h13 => ?_⟩
  · refine ⟨rfl, ⟨hG, (show RDr st t n from rd), (show st 170 8 = 0 ∧ st 170 12 = -1 ∧ ((0) = 0 ∨ (0) = 1) from by omega)⟩, fun r6 s6 q6 => ?_⟩
    obtain ⟨gs6, fs6, o6⟩ := q6
    change (s6 170 8 = 0 ∧ st 170 8 = 0 ∧ r6 = 1 ∧ (0) = 0 ∧ RDr s6 t n ∧ NXr st s6 t n) ∨ (0 < s6 170 8 ∧ st 170 8 = 0 ∧ r6 = 0 ∧ (0) = 1) ∨ (0 < s6 170 8 ∧ 0 < st 170 8) at o6
    have g14 := g_faultKind gs6
    have e15 : s6 170 35 = st 170 35 := fs6 170 35 rfl rfl
    have g16 := g_signAt gs6
    have g17 := g_lexAt gs6
    have e18 : s6 170 34 = st 170 34 := fs6 170 34 rfl rfl
    rcases o6 with ⟨y6, z6, k6, f6, rd6, nx6⟩ | ⟨y6, z6, k6, f6⟩ | ⟨y6, z6⟩
    · have ee6 : s6 170 4 = e := NXr_e nx6 th (by omega)
      refine ⟨fun h19 => ?_, fun h19 => (by exfalso; omega)⟩
      refine ⟨rfl, ⟨gs6, (show s6 170 8 = 0 → RDr s6 t n from (fun _ => rd6)), (show RTn (s6 170 35) T s6 from (RTn_e (T := T) (st := st) (by omega) (fun i => (fs6 172 i rfl rfl).trans ((fun _ => rfl) i)) (fun i => (fs6 190 i rfl rfl).trans ((fun _ => rfl) i)) rt.1))⟩, fun r7 s7 q7 => ?_⟩
      obtain ⟨gs7, fs7, v7, o7⟩ := q7
      change 0 ≤ r7 ∧ r7 ≤ 7 at v7
      change (s7 170 8 = 0 ∧ s6 170 8 = 0 ∧ ∃ v : Int, tk t n (s6 170 4) 1 v (s7 170 4) ∧ KnP T v r7 ∧ hb (0) r7 = 0 ∧ RDr s7 t n) ∨ (0 < s7 170 8 ∧ s6 170 8 = 0 ∧ ¬ ∃ v a e : Int, tk t n (s6 170 4) 1 v e ∧ KnP T v a ∧ hb (0) a = 0) ∨ (0 < s7 170 8 ∧ 0 < s6 170 8) at o7
      have g20 := g_faultKind gs7
      have g21 := g_signAt gs7
      have e22 : s7 170 35 = s6 170 35 := fs7 170 35 rfl rfl
      have g23 := g_lexAt gs7
      have e24 : s7 170 34 = s6 170 34 := fs7 170 34 rfl rfl
      rcases o7 with ⟨y7, z7, v7, t7, kn7, hz7, rd7⟩ | ⟨y7, z7, l7⟩ | ⟨y7, z7⟩
      · refine ⟨rfl, ⟨gs7, (show s7 170 8 = 0 → RDr s7 t n from (fun _ => rd7))⟩, fun s8 q8 => ?_⟩
        obtain ⟨gs8, fs8, o8⟩ := q8
        change (s8 170 8 = 0 ∧ s7 170 8 = 0 ∧ tk t n (s7 170 4) 1 (29807) (s8 170 4) ∧ RDr s8 t n) ∨ (0 < s8 170 8 ∧ s7 170 8 = 0 ∧ ¬ ∃ e : Int, tk t n (s7 170 4) 1 (29807) e) ∨ (0 < s8 170 8 ∧ 0 < s7 170 8) at o8
        have g25 := g_faultKind gs8
        have g26 := g_signAt gs8
        have e27 : s8 170 35 = s7 170 35 := fs8 170 35 rfl rfl
        have g28 := g_lexAt gs8
        have e29 : s8 170 34 = s7 170 34 := fs8 170 34 rfl rfl
        rcases o8 with ⟨y8, z8, t8, rd8⟩ | ⟨y8, z8, l8⟩ | ⟨y8, z8⟩
        · have lp : ∀ (u : Nat) (c : Int) (bt : Int), (0 ≤ c ∧ c ≤ 8) ∧ (0 ≤ bt ∧ bt < 256) ∧ (MKs (st 177) (st 170 35) r7 c bt) → (8 - c).toNat = u → K (rx_find rx_m205 46) [(3, .inl c), (2, .inl bt), (1, .inl r7), (0, .inr (.inr (.inl 170)))] [] s8 := by
            intro u_lp
            induction u_lp using Nat.strongRecOn with
            | _ u_lp ih_lp =>
              intro c bt hi hu_lp
              obtain ⟨i_lp, b_lp, mk_lp⟩ := hi
              refine yr1_ok (Rt := Q) (wc := (wcL [(199, k_rCounts t n), (203, k_rKnown t n T), (200, k_rMustJ t n), (0, k_between), (188, k_rNumber t n)])) (stp := [46]) hcm hcl [] 155 ?_
              show (((8 : Int) ≤ c → (170 = 170 ∧ (rq_rKnown t n T bt s8 ∧ (∀ (r30 : Int) (s30 : zS), en_rKnown t n T bt s8 r30 s30 → (170 = 170 ∧ (rq_rMustJ t n (482670241139) s30 ∧ (∀ (s31 : zS), en_rMustJ t n (482670241139) s30 s31 → (170 = 170 ∧ (rq_rNumber t n (1) (99) s31 ∧ (∀ (r32 : Int) (s32 : zS), en_rNumber t n (1) (99) s31 r32 s32 → ((s32 170 8 ≤ (0 : Int) → ((-2147483648 ≤ (14 : Int) * (s32 170 35) ∧ (14 : Int) * (s32 170 35) ≤ 2147483647) ∧ ((0 ≤ s32 170 35 ∧ s32 170 35 < 2) ∧ ((-2147483648 ≤ ((14 : Int) * (s32 170 35)) + (s32 173 (s32 170 35 : Int).toNat) ∧ ((14 : Int) * (s32 170 35)) + (s32 173 (s32 170 35 : Int).toNat) ≤ 2147483647) ∧ ((0 ≤ ((14 : Int) * (s32 170 35)) + (s32 173 (s32 170 35 : Int).toNat) ∧ ((14 : Int) * (s32 170 35)) + (s32 173 (s32 170 35 : Int).toNat) < 28) ∧ ((0 ≤ ((14 : Int) * (s32 170 35)) + (s32 173 (s32 170 35 : Int).toNat) ∧ ((14 : Int) * (s32 170 35)) + (s32 173 (s32 170 35 : Int).toNat) < 28) ∧ ((0 ≤ ((14 : Int) * (s32 170 35)) + (s32 173 (s32 170 35 : Int).toNat) ∧ ((14 : Int) * (s32 170 35)) + (s32 173 (s32 170 35 : Int).toNat) < 28) ∧ ((0 ≤ s32 170 35 ∧ s32 170 35 < 2) ∧ ((-2147483648 ≤ (s32 173 (s32 170 35 : Int).toNat) + 1 ∧ (s32 173 (s32 170 35 : Int).toNat) + 1 ≤ 2147483647) ∧ ((0 ≤ s32 170 35 ∧ s32 170 35 < 2) ∧ ((-2147483648 ≤ (64 : Int) * (s32 170 35) ∧ (64 : Int) * (s32 170 35) ≤ 2147483647) ∧ ((-2147483648 ≤ (8 : Int) * r7 ∧ (8 : Int) * r7 ≤ 2147483647) ∧ ((-2147483648 ≤ ((64 : Int) * (s32 170 35)) + ((8 : Int) * r7) ∧ ((64 : Int) * (s32 170 35)) + ((8 : Int) * r7) ≤ 2147483647) ∧ ((-2147483648 ≤ (((64 : Int) * (s32 170 35)) + ((8 : Int) * r7)) + r30 ∧ (((64 : Int) * (s32 170 35)) + ((8 : Int) * r7)) + r30 ≤ 2147483647) ∧ ((0 ≤ s32 170 35 ∧ s32 170 35 < 2) ∧ ((0 ≤ (((64 : Int) * (s32 170 35)) + ((8 : Int) * r7)) + r30 ∧ (((64 : Int) * (s32 170 35)) + ((8 : Int) * r7)) + r30 < 128) ∧ ((-2147483648 ≤ (64 : Int) * (s32 170 35) ∧ (64 : Int) * (s32 170 35) ≤ 2147483647) ∧ ((-2147483648 ≤ (8 : Int) * r30 ∧ (8 : Int) * r30 ≤ 2147483647) ∧ ((-2147483648 ≤ ((64 : Int) * (s32 170 35)) + ((8 : Int) * r30) ∧ ((64 : Int) * (s32 170 35)) + ((8 : Int) * r30) ≤ 2147483647) ∧ ((-2147483648 ≤ (((64 : Int) * (s32 170 35)) + ((8 : Int) * r30)) + r7 ∧ (((64 : Int) * (s32 170 35)) + ((8 : Int) * r30)) + r7 ≤ 2147483647) ∧ ((0 ≤ s32 170 35 ∧ s32 170 35 < 2) ∧ ((0 ≤ (((64 : Int) * (s32 170 35)) + ((8 : Int) * r30)) + r7 ∧ (((64 : Int) * (s32 170 35)) + ((8 : Int) * r30)) + r7 < 128) ∧ Q none (zup (zup (zup (zup (zup (zup s32 174 (((14 : Int) * (s32 170 35)) + (s32 173 (s32 170 35 : Int).toNat) : Int).toNat r7) 175 (((14 : Int) * (s32 170 35)) + (s32 173 (s32 170 35 : Int).toNat) : Int).toNat r30) 176 (((14 : Int) * (s32 170 35)) + (s32 173 (s32 170 35 : Int).toNat) : Int).toNat r32) 173 (s32 170 35 : Int).toNat ((s32 173 (s32 170 35 : Int).toNat) + 1)) 177 ((((64 : Int) * (s32 170 35)) + ((8 : Int) * r7)) + r30 : Int).toNat ((zup (zup (zup (zup s32 174 (((14 : Int) * (s32 170 35)) + (s32 173 (s32 170 35 : Int).toNat) : Int).toNat r7) 175 (((14 : Int) * (s32 170 35)) + (s32 173 (s32 170 35 : Int).toNat) : Int).toNat r30) 176 (((14 : Int) * (s32 170 35)) + (s32 173 (s32 170 35 : Int).toNat) : Int).toNat r32) 173 (s32 170 35 : Int).toNat ((s32 173 (s32 170 35 : Int).toNat) + 1)) 173 (s32 170 35 : Int).toNat)) 177 ((((64 : Int) * (s32 170 35)) + ((8 : Int) * r30)) + r7 : Int).toNat ((zup (zup (zup (zup s32 174 (((14 : Int) * (s32 170 35)) + (s32 173 (s32 170 35 : Int).toNat) : Int).toNat r7) 175 (((14 : Int) * (s32 170 35)) + (s32 173 (s32 170 35 : Int).toNat) : Int).toNat r30) 176 (((14 : Int) * (s32 170 35)) + (s32 173 (s32 170 35 : Int).toNat) : Int).toNat r32) 173 (s32 170 35 : Int).toNat ((s32 173 (s32 170 35 : Int).toNat) + 1)) 173 (s32 170 35 : Int).toNat)))))))))))))))))))))))) ∧ (¬ (s32 170 8 ≤ (0 : Int)) → Q none s32)))))))))))) ∧ (¬ ((8 : Int) ≤ c) → (170 = 170 ∧ (rq_between (s8 170 35) r7 c s8 ∧ (∀ (r33 : Int), en_between (s8 170 35) r7 c s8 r33 → ((r33 ≤ (0 : Int) → ((-2147483648 ≤ c + 1 ∧ c + 1 ≤ 2147483647) ∧ K (rx_find rx_m205 46) [(3, .inl (c + 1)), (2, .inl (zd (Nat.lor (zi bt) (zi 0)))), (1, .inl r7), (0, .inr (.inr (.inl 170)))] [] s8)) ∧ (¬ (r33 ≤ (0 : Int)) → ((-2147483648 ≤ c + 1 ∧ c + 1 ≤ 2147483647) ∧ K (rx_find rx_m205 46) [(3, .inl (c + 1)), (2, .inl (zd (Nat.lor (zi bt) (zi (zd ((zi 1 * 2 ^ (zi c % 32)) % 4294967296)))))), (1, .inl r7), (0, .inr (.inr (.inl 170)))] [] s8))))))))
              refine ⟨fun h34 => ?_, fun h34 => ?_⟩
              · have g35 := g_faultKind gs8
                have g39 := g_in hG
                have e38 : s6 170 35 = st 170 35 := fs6 170 35 rfl rfl
                have e37 : s7 170 35 = s6 170 35 := fs7 170 35 rfl rfl
                have e36 : s8 170 35 = s7 170 35 := fs8 170 35 rfl rfl
                refine ⟨rfl, ⟨gs8, (show s8 170 8 = 0 → RDr s8 t n from (fun _ => rd8)), (show RTn (s8 170 35) T s8 from (RTn_e (T := T) (st := st) (by omega) (fun i => (fs8 172 i rfl rfl).trans ((fun i => (fs7 172 i rfl rfl).trans ((fun i => (fs6 172 i rfl rfl).trans ((fun _ => rfl) i)) i)) i)) (fun i => (fs8 190 i rfl rfl).trans ((fun i => (fs7 190 i rfl rfl).trans ((fun i => (fs6 190 i rfl rfl).trans ((fun _ => rfl) i)) i)) i)) rt.1))⟩, fun r30 s30 q30 => ?_⟩
                obtain ⟨gs30, fs30, v30, o30⟩ := q30
                change 0 ≤ r30 ∧ r30 ≤ 7 at v30
                change (s30 170 8 = 0 ∧ s8 170 8 = 0 ∧ ∃ v : Int, tk t n (s8 170 4) 1 v (s30 170 4) ∧ KnP T v r30 ∧ hb bt r30 = 0 ∧ RDr s30 t n) ∨ (0 < s30 170 8 ∧ s8 170 8 = 0 ∧ ¬ ∃ v a e : Int, tk t n (s8 170 4) 1 v e ∧ KnP T v a ∧ hb bt a = 0) ∨ (0 < s30 170 8 ∧ 0 < s8 170 8) at o30
                have g40 := g_faultKind gs30
                have g41 := g_signAt gs8
                have g42 := g_signAt gs30
                have e43 : s30 170 35 = s8 170 35 := fs30 170 35 rfl rfl
                have g44 := g_lexAt gs30
                have g49 := g_codes hG
                have e48 : s6 170 34 = st 170 34 := fs6 170 34 rfl rfl
                have e47 : s7 170 34 = s6 170 34 := fs7 170 34 rfl rfl
                have e46 : s8 170 34 = s7 170 34 := fs8 170 34 rfl rfl
                have e45 : s30 170 34 = s8 170 34 := fs30 170 34 rfl rfl
                rcases o30 with ⟨y30, z30, v30, t30, kn30, hz30, rd30⟩ | ⟨y30, z30, l30⟩ | ⟨y30, z30⟩
                · refine ⟨rfl, ⟨gs30, (show s30 170 8 = 0 → RDr s30 t n from (fun _ => rd30))⟩, fun s31 q31 => ?_⟩
                  obtain ⟨gs31, fs31, o31⟩ := q31
                  change (s31 170 8 = 0 ∧ s30 170 8 = 0 ∧ tk t n (s30 170 4) 1 (482670241139) (s31 170 4) ∧ RDr s31 t n) ∨ (0 < s31 170 8 ∧ s30 170 8 = 0 ∧ ¬ ∃ e : Int, tk t n (s30 170 4) 1 (482670241139) e) ∨ (0 < s31 170 8 ∧ 0 < s30 170 8) at o31
                  have g50 := g_faultKind gs31
                  have g51 := g_signAt gs31
                  have e52 : s31 170 35 = s30 170 35 := fs31 170 35 rfl rfl
                  have g53 := g_lexAt gs31
                  have e54 : s31 170 34 = s30 170 34 := fs31 170 34 rfl rfl
                  rcases o31 with ⟨y31, z31, t31, rd31⟩ | ⟨y31, z31, l31⟩ | ⟨y31, z31⟩
                  · refine ⟨rfl, ⟨gs31, (show s31 170 8 = 0 → RDr s31 t n from (fun _ => rd31))⟩, fun r32 s32 q32 => ?_⟩
                    obtain ⟨gs32, fs32, v32, o32⟩ := q32
                    change -2147483648 ≤ r32 ∧ r32 ≤ 2147483647 at v32
                    change (s32 170 8 = 0 ∧ s31 170 8 = 0 ∧ (1) ≤ r32 ∧ r32 ≤ (99) ∧ tk t n (s31 170 4) 2 r32 (s32 170 4) ∧ RDr s32 t n) ∨ (0 < s32 170 8 ∧ s31 170 8 = 0 ∧ ¬ ∃ v e : Int, tk t n (s31 170 4) 2 v e ∧ (1) ≤ v ∧ v ≤ (99)) ∨ (0 < s32 170 8 ∧ 0 < s31 170 8) at o32
                    have g55 := g_faultKind gs32
                    have g56 := g_signAt gs32
                    have e57 : s32 170 35 = s31 170 35 := fs32 170 35 rfl rfl
                    have g58 := g_lexAt gs32
                    have e59 : s32 170 34 = s31 170 34 := fs32 170 34 rfl rfl
                    rcases o32 with ⟨y32, z32, a32, b32, t32, rd32⟩ | ⟨y32, z32, l32⟩ | ⟨y32, z32⟩
                    · refine ⟨fun h60 => ?_, fun h60 => (by exfalso; omega)⟩
                      refine ⟨by omega, ?_⟩
                      have g67 := g_streets hG (st 170 35 : Int).toNat
                      have e66 : s6 173 (st 170 35 : Int).toNat = st 173 (st 170 35 : Int).toNat := fs6 173 (st 170 35 : Int).toNat rfl rfl
                      have e65 : s7 173 (st 170 35 : Int).toNat = s6 173 (st 170 35 : Int).toNat := fs7 173 (st 170 35 : Int).toNat rfl rfl
                      have e64 : s8 173 (st 170 35 : Int).toNat = s7 173 (st 170 35 : Int).toNat := fs8 173 (st 170 35 : Int).toNat rfl rfl
                      have e63 : s30 173 (st 170 35 : Int).toNat = s8 173 (st 170 35 : Int).toNat := fs30 173 (st 170 35 : Int).toNat rfl rfl
                      have e62 : s31 173 (st 170 35 : Int).toNat = s30 173 (st 170 35 : Int).toNat := fs31 173 (st 170 35 : Int).toNat rfl rfl
                      have e61 : s32 173 (s32 170 35 : Int).toNat = s31 173 (st 170 35 : Int).toNat := (fs32 173 (s32 170 35 : Int).toNat rfl rfl).trans (by rw [e57, e52, e43, e36, e37, e38] <;> rfl)
                      refine ⟨by omega, ?_⟩
                      refine ⟨by omega, ?_⟩
                      refine ⟨by omega, ?_⟩
                      refine ⟨by omega, ?_⟩
                      refine ⟨by omega, ?_⟩
                      refine ⟨by omega, ?_⟩
                      refine ⟨by omega, ?_⟩
                      refine ⟨by omega, ?_⟩
                      refine ⟨by omega, ?_⟩
                      refine ⟨by omega, ?_⟩
                      refine ⟨by omega, ?_⟩
                      refine ⟨by omega, ?_⟩
                      have u68 : (zup (zup (zup (zup s32 174 (((14 : Int) * (s32 170 35)) + (s32 173 (s32 170 35 : Int).toNat) : Int).toNat r7) 175 (((14 : Int) * (s32 170 35)) + (s32 173 (s32 170 35 : Int).toNat) : Int).toNat r30) 176 (((14 : Int) * (s32 170 35)) + (s32 173 (s32 170 35 : Int).toNat) : Int).toNat r32) 173 (s32 170 35 : Int).toNat ((s32 173 (s32 170 35 : Int).toNat) + 1)) 173 (s32 170 35 : Int).toNat = ((s32 173 (s32 170 35 : Int).toNat) + 1) := zup_eq _ _ _ _
                      refine ⟨by omega, ?_⟩
                      refine ⟨by omega, ?_⟩
                      refine ⟨by omega, ?_⟩
                      refine ⟨by omega, ?_⟩
                      refine ⟨by omega, ?_⟩
                      refine ⟨by omega, ?_⟩
                      refine ⟨by omega, ?_⟩
                      refine ⟨by omega, ?_⟩
                      exact hQ _ ⟨(gInv_up (gInv_up (gInv_up (gInv_up (gInv_up (gInv_up gs32 (p_fromOf (by omega))) (p_toOf (by omega))) (p_pacesOf (by omega))) (p_streets (by omega))) (p_streetAt (by omega))) (p_streetAt (by omega))), (fr_a (fr_a (fr_a (fr_a (fr_a (fr_a (fr_tr (fr_tr (fr_tr (fr_tr (fr_tr (fr_tr (fr_rf _ _) fs6 rfl) fs7 rfl) fs8 rfl) fs30 rfl) fs31 rfl) fs32 rfl) rfl) rfl) rfl) rfl) rfl) rfl), (show BO (s32 170 8) (RDr (zup (zup (zup (zup (zup (zup s32 174 (((14 : Int) * (s32 170 35)) + (s32 173 (s32 170 35 : Int).toNat) : Int).toNat r7) 175 (((14 : Int) * (s32 170 35)) + (s32 173 (s32 170 35 : Int).toNat) : Int).toNat r30) 176 (((14 : Int) * (s32 170 35)) + (s32 173 (s32 170 35 : Int).toNat) : Int).toNat r32) 173 (s32 170 35 : Int).toNat ((s32 173 (s32 170 35 : Int).toNat) + 1)) 177 ((((64 : Int) * (s32 170 35)) + ((8 : Int) * r7)) + r30 : Int).toNat ((zup (zup (zup (zup s32 174 (((14 : Int) * (s32 170 35)) + (s32 173 (s32 170 35 : Int).toNat) : Int).toNat r7) 175 (((14 : Int) * (s32 170 35)) + (s32 173 (s32 170 35 : Int).toNat) : Int).toNat r30) 176 (((14 : Int) * (s32 170 35)) + (s32 173 (s32 170 35 : Int).toNat) : Int).toNat r32) 173 (s32 170 35 : Int).toNat ((s32 173 (s32 170 35 : Int).toNat) + 1)) 173 (s32 170 35 : Int).toNat)) 177 ((((64 : Int) * (s32 170 35)) + ((8 : Int) * r30)) + r7 : Int).toNat ((zup (zup (zup (zup s32 174 (((14 : Int) * (s32 170 35)) + (s32 173 (s32 170 35 : Int).toNat) : Int).toNat r7) 175 (((14 : Int) * (s32 170 35)) + (s32 173 (s32 170 35 : Int).toNat) : Int).toNat r30) 176 (((14 : Int) * (s32 170 35)) + (s32 173 (s32 170 35 : Int).toNat) : Int).toNat r32) 173 (s32 170 35 : Int).toNat ((s32 173 (s32 170 35 : Int).toNat) + 1)) 173 (s32 170 35 : Int).toNat)) t n) (fun T' q => bSt t n T e T' q) (s32 170 4) (fun T' => RT (st 170 35) T' (zup (zup (zup (zup (zup (zup s32 174 (((14 : Int) * (s32 170 35)) + (s32 173 (s32 170 35 : Int).toNat) : Int).toNat r7) 175 (((14 : Int) * (s32 170 35)) + (s32 173 (s32 170 35 : Int).toNat) : Int).toNat r30) 176 (((14 : Int) * (s32 170 35)) + (s32 173 (s32 170 35 : Int).toNat) : Int).toNat r32) 173 (s32 170 35 : Int).toNat ((s32 173 (s32 170 35 : Int).toNat) + 1)) 177 ((((64 : Int) * (s32 170 35)) + ((8 : Int) * r7)) + r30 : Int).toNat ((zup (zup (zup (zup s32 174 (((14 : Int) * (s32 170 35)) + (s32 173 (s32 170 35 : Int).toNat) : Int).toNat r7) 175 (((14 : Int) * (s32 170 35)) + (s32 173 (s32 170 35 : Int).toNat) : Int).toNat r30) 176 (((14 : Int) * (s32 170 35)) + (s32 173 (s32 170 35 : Int).toNat) : Int).toNat r32) 173 (s32 170 35 : Int).toNat ((s32 173 (s32 170 35 : Int).toNat) + 1)) 173 (s32 170 35 : Int).toNat)) 177 ((((64 : Int) * (s32 170 35)) + ((8 : Int) * r30)) + r7 : Int).toNat ((zup (zup (zup (zup s32 174 (((14 : Int) * (s32 170 35)) + (s32 173 (s32 170 35 : Int).toNat) : Int).toNat r7) 175 (((14 : Int) * (s32 170 35)) + (s32 173 (s32 170 35 : Int).toNat) : Int).toNat r30) 176 (((14 : Int) * (s32 170 35)) + (s32 173 (s32 170 35 : Int).toNat) : Int).toNat r32) 173 (s32 170 35 : Int).toNat ((s32 173 (s32 170 35 : Int).toNat) + 1)) 173 (s32 170 35 : Int).toNat))) from (by
            rw [show c = 8 from by omega] at mk_lp
            have kb := KnP_b kn30
            have kb2 := KnP_b kn7
            have ym := MKs_z mk_lp (by omega) hz30
            rw [RTs_l (a := r7) (c := r30) rt.2.2.1 (by omega) (by omega)] at ym
            have gs := g_streetAt hG (64 * st 170 35 + 8 * r7 + r30 : Int).toNat
            rw [RTs_l (a := r7) (c := r30) rt.2.2.1 (by omega) (by omega)] at gs
            have hl : lnk T r7 r30 = -1 := by omega
            refine Or.inr ⟨by omega, (show RDr (zup (zup (zup (zup (zup (zup s32 174 (((14 : Int) * (s32 170 35)) + (s32 173 (s32 170 35 : Int).toNat) : Int).toNat r7) 175 (((14 : Int) * (s32 170 35)) + (s32 173 (s32 170 35 : Int).toNat) : Int).toNat r30) 176 (((14 : Int) * (s32 170 35)) + (s32 173 (s32 170 35 : Int).toNat) : Int).toNat r32) 173 (s32 170 35 : Int).toNat ((s32 173 (s32 170 35 : Int).toNat) + 1)) 177 ((((64 : Int) * (s32 170 35)) + ((8 : Int) * r7)) + r30 : Int).toNat ((zup (zup (zup (zup s32 174 (((14 : Int) * (s32 170 35)) + (s32 173 (s32 170 35 : Int).toNat) : Int).toNat r7) 175 (((14 : Int) * (s32 170 35)) + (s32 173 (s32 170 35 : Int).toNat) : Int).toNat r30) 176 (((14 : Int) * (s32 170 35)) + (s32 173 (s32 170 35 : Int).toNat) : Int).toNat r32) 173 (s32 170 35 : Int).toNat ((s32 173 (s32 170 35 : Int).toNat) + 1)) 173 (s32 170 35 : Int).toNat)) 177 ((((64 : Int) * (s32 170 35)) + ((8 : Int) * r30)) + r7 : Int).toNat ((zup (zup (zup (zup s32 174 (((14 : Int) * (s32 170 35)) + (s32 173 (s32 170 35 : Int).toNat) : Int).toNat r7) 175 (((14 : Int) * (s32 170 35)) + (s32 173 (s32 170 35 : Int).toNat) : Int).toNat r30) 176 (((14 : Int) * (s32 170 35)) + (s32 173 (s32 170 35 : Int).toNat) : Int).toNat r32) 173 (s32 170 35 : Int).toNat ((s32 173 (s32 170 35 : Int).toNat) + 1)) 173 (s32 170 35 : Int).toNat)) t n from rd32), ⟨_, show T 0 3 < 14 from by omega, v7, r7, _, _, v30, r30, _, _, r32, (show tk t n e 1 v7 (s7 170 4) from by rw [← ee6]; exact t7), kn7, t8, t30, kn30, ym.1, hl, t31, t32, by omega, by omega, rfl⟩, fun T' q hb => ?_⟩
            obtain ⟨h0, v, a, e1, e2, u, y, e3, e4, m, h1, h2, h3, h4, h5, h6, h7, h8, h9, h10, h11, h12⟩ := (show bSt t n T e T' q from hb)
            obtain ⟨-, rfl, rfl⟩ := tk_u (show tk t n e 1 v7 (s7 170 4) from by rw [← ee6]; exact t7) h1
            have ea7 := KnP_u kn7 h2
            subst ea7
            obtain ⟨-, -, rfl⟩ := tk_u t8 h3
            obtain ⟨-, rfl, rfl⟩ := tk_u t30 h4
            have ea30 := KnP_u kn30 h5
            subst ea30
            obtain ⟨-, -, rfl⟩ := tk_u t31 h8
            obtain ⟨-, rfl, rfl⟩ := tk_u t32 h9
            subst h12
            exact ⟨rfl, RT_st (by omega) rt h0 (by omega) (by omega) (fun i => ((show ∀ i : Nat, (zup (zup (zup (zup (zup (zup s32 174 (((14 : Int) * (s32 170 35)) + (s32 173 (s32 170 35 : Int).toNat) : Int).toNat r7) 175 (((14 : Int) * (s32 170 35)) + (s32 173 (s32 170 35 : Int).toNat) : Int).toNat r30) 176 (((14 : Int) * (s32 170 35)) + (s32 173 (s32 170 35 : Int).toNat) : Int).toNat r32) 173 (s32 170 35 : Int).toNat ((s32 173 (s32 170 35 : Int).toNat) + 1)) 177 ((((64 : Int) * (s32 170 35)) + ((8 : Int) * r7)) + r30 : Int).toNat ((zup (zup (zup (zup s32 174 (((14 : Int) * (s32 170 35)) + (s32 173 (s32 170 35 : Int).toNat) : Int).toNat r7) 175 (((14 : Int) * (s32 170 35)) + (s32 173 (s32 170 35 : Int).toNat) : Int).toNat r30) 176 (((14 : Int) * (s32 170 35)) + (s32 173 (s32 170 35 : Int).toNat) : Int).toNat r32) 173 (s32 170 35 : Int).toNat ((s32 173 (s32 170 35 : Int).toNat) + 1)) 173 (s32 170 35 : Int).toNat)) 177 ((((64 : Int) * (s32 170 35)) + ((8 : Int) * r30)) + r7 : Int).toNat ((zup (zup (zup (zup s32 174 (((14 : Int) * (s32 170 35)) + (s32 173 (s32 170 35 : Int).toNat) : Int).toNat r7) 175 (((14 : Int) * (s32 170 35)) + (s32 173 (s32 170 35 : Int).toNat) : Int).toNat r30) 176 (((14 : Int) * (s32 170 35)) + (s32 173 (s32 170 35 : Int).toNat) : Int).toNat r32) 173 (s32 170 35 : Int).toNat ((s32 173 (s32 170 35 : Int).toNat) + 1)) 173 (s32 170 35 : Int).toNat)) 173 i = (up1 (st 173) (s32 170 35 : Int).toNat ((s32 173 (s32 170 35 : Int).toNat) + 1)) i from fun i => by show up1 ((zup (zup (zup s32 174 (((14 : Int) * (s32 170 35)) + (s32 173 (s32 170 35 : Int).toNat) : Int).toNat r7) 175 (((14 : Int) * (s32 170 35)) + (s32 173 (s32 170 35 : Int).toNat) : Int).toNat r30) 176 (((14 : Int) * (s32 170 35)) + (s32 173 (s32 170 35 : Int).toNat) : Int).toNat r32) 173) (s32 170 35 : Int).toNat ((s32 173 (s32 170 35 : Int).toNat) + 1) i = up1 (st 173) (s32 170 35 : Int).toNat ((s32 173 (s32 170 35 : Int).toNat) + 1) i; rw [show (zup (zup (zup s32 174 (((14 : Int) * (s32 170 35)) + (s32 173 (s32 170 35 : Int).toNat) : Int).toNat r7) 175 (((14 : Int) * (s32 170 35)) + (s32 173 (s32 170 35 : Int).toNat) : Int).toNat r30) 176 (((14 : Int) * (s32 170 35)) + (s32 173 (s32 170 35 : Int).toNat) : Int).toNat r32) 173 = (st 173) from funext (show ∀ i : Nat, (zup (zup (zup s32 174 (((14 : Int) * (s32 170 35)) + (s32 173 (s32 170 35 : Int).toNat) : Int).toNat r7) 175 (((14 : Int) * (s32 170 35)) + (s32 173 (s32 170 35 : Int).toNat) : Int).toNat r30) 176 (((14 : Int) * (s32 170 35)) + (s32 173 (s32 170 35 : Int).toNat) : Int).toNat r32) 173 i = (st 173) i from (show ∀ i : Nat, s32 173 i = (st 173) i from fun i => (fs32 173 i rfl rfl).trans ((show ∀ i : Nat, s31 173 i = (st 173) i from fun i => (fs31 173 i rfl rfl).trans ((show ∀ i : Nat, s30 173 i = (st 173) i from fun i => (fs30 173 i rfl rfl).trans ((show ∀ i : Nat, s8 173 i = (st 173) i from fun i => (fs8 173 i rfl rfl).trans ((show ∀ i : Nat, s7 173 i = (st 173) i from fun i => (fs7 173 i rfl rfl).trans ((show ∀ i : Nat, s6 173 i = (st 173) i from fun i => (fs6 173 i rfl rfl).trans ((fun _ => rfl) i)) i)) i)) i)) i)) i)))]) i).trans (by show (up1 (st 173) (s32 170 35 : Int).toNat ((s32 173 (s32 170 35 : Int).toNat) + 1)) i = (up1 (st 173) (st 170 35 : Int).toNat (T 0 3 + 1)) i; simp only [show s32 170 35 = st 170 35 from by omega, show s32 173 = (st 173) from funext (show ∀ i : Nat, s32 173 i = (st 173) i from fun i => (fs32 173 i rfl rfl).trans ((show ∀ i : Nat, s31 173 i = (st 173) i from fun i => (fs31 173 i rfl rfl).trans ((show ∀ i : Nat, s30 173 i = (st 173) i from fun i => (fs30 173 i rfl rfl).trans ((show ∀ i : Nat, s8 173 i = (st 173) i from fun i => (fs8 173 i rfl rfl).trans ((show ∀ i : Nat, s7 173 i = (st 173) i from fun i => (fs7 173 i rfl rfl).trans ((show ∀ i : Nat, s6 173 i = (st 173) i from fun i => (fs6 173 i rfl rfl).trans ((fun _ => rfl) i)) i)) i)) i)) i)) i)), rs1])) (fun i => ((show ∀ i : Nat, (zup (zup (zup (zup (zup (zup s32 174 (((14 : Int) * (s32 170 35)) + (s32 173 (s32 170 35 : Int).toNat) : Int).toNat r7) 175 (((14 : Int) * (s32 170 35)) + (s32 173 (s32 170 35 : Int).toNat) : Int).toNat r30) 176 (((14 : Int) * (s32 170 35)) + (s32 173 (s32 170 35 : Int).toNat) : Int).toNat r32) 173 (s32 170 35 : Int).toNat ((s32 173 (s32 170 35 : Int).toNat) + 1)) 177 ((((64 : Int) * (s32 170 35)) + ((8 : Int) * r7)) + r30 : Int).toNat ((zup (zup (zup (zup s32 174 (((14 : Int) * (s32 170 35)) + (s32 173 (s32 170 35 : Int).toNat) : Int).toNat r7) 175 (((14 : Int) * (s32 170 35)) + (s32 173 (s32 170 35 : Int).toNat) : Int).toNat r30) 176 (((14 : Int) * (s32 170 35)) + (s32 173 (s32 170 35 : Int).toNat) : Int).toNat r32) 173 (s32 170 35 : Int).toNat ((s32 173 (s32 170 35 : Int).toNat) + 1)) 173 (s32 170 35 : Int).toNat)) 177 ((((64 : Int) * (s32 170 35)) + ((8 : Int) * r30)) + r7 : Int).toNat ((zup (zup (zup (zup s32 174 (((14 : Int) * (s32 170 35)) + (s32 173 (s32 170 35 : Int).toNat) : Int).toNat r7) 175 (((14 : Int) * (s32 170 35)) + (s32 173 (s32 170 35 : Int).toNat) : Int).toNat r30) 176 (((14 : Int) * (s32 170 35)) + (s32 173 (s32 170 35 : Int).toNat) : Int).toNat r32) 173 (s32 170 35 : Int).toNat ((s32 173 (s32 170 35 : Int).toNat) + 1)) 173 (s32 170 35 : Int).toNat)) 174 i = (up1 (st 174) (((14 : Int) * (s32 170 35)) + (s32 173 (s32 170 35 : Int).toNat) : Int).toNat r7) i from fun i => by show up1 (s32 174) (((14 : Int) * (s32 170 35)) + (s32 173 (s32 170 35 : Int).toNat) : Int).toNat r7 i = up1 (st 174) (((14 : Int) * (s32 170 35)) + (s32 173 (s32 170 35 : Int).toNat) : Int).toNat r7 i; rw [show s32 174 = (st 174) from funext (show ∀ i : Nat, s32 174 i = (st 174) i from fun i => (fs32 174 i rfl rfl).trans ((show ∀ i : Nat, s31 174 i = (st 174) i from fun i => (fs31 174 i rfl rfl).trans ((show ∀ i : Nat, s30 174 i = (st 174) i from fun i => (fs30 174 i rfl rfl).trans ((show ∀ i : Nat, s8 174 i = (st 174) i from fun i => (fs8 174 i rfl rfl).trans ((show ∀ i : Nat, s7 174 i = (st 174) i from fun i => (fs7 174 i rfl rfl).trans ((show ∀ i : Nat, s6 174 i = (st 174) i from fun i => (fs6 174 i rfl rfl).trans ((fun _ => rfl) i)) i)) i)) i)) i)) i))]) i).trans (by show (up1 (st 174) (((14 : Int) * (s32 170 35)) + (s32 173 (s32 170 35 : Int).toNat) : Int).toNat r7) i = (up1 (st 174) (14 * st 170 35 + T 0 3 : Int).toNat r7) i; simp only [show s32 170 35 = st 170 35 from by omega, show s32 173 = (st 173) from funext (show ∀ i : Nat, s32 173 i = (st 173) i from fun i => (fs32 173 i rfl rfl).trans ((show ∀ i : Nat, s31 173 i = (st 173) i from fun i => (fs31 173 i rfl rfl).trans ((show ∀ i : Nat, s30 173 i = (st 173) i from fun i => (fs30 173 i rfl rfl).trans ((show ∀ i : Nat, s8 173 i = (st 173) i from fun i => (fs8 173 i rfl rfl).trans ((show ∀ i : Nat, s7 173 i = (st 173) i from fun i => (fs7 173 i rfl rfl).trans ((show ∀ i : Nat, s6 173 i = (st 173) i from fun i => (fs6 173 i rfl rfl).trans ((fun _ => rfl) i)) i)) i)) i)) i)) i)), rs1])) (fun i => ((show ∀ i : Nat, (zup (zup (zup (zup (zup (zup s32 174 (((14 : Int) * (s32 170 35)) + (s32 173 (s32 170 35 : Int).toNat) : Int).toNat r7) 175 (((14 : Int) * (s32 170 35)) + (s32 173 (s32 170 35 : Int).toNat) : Int).toNat r30) 176 (((14 : Int) * (s32 170 35)) + (s32 173 (s32 170 35 : Int).toNat) : Int).toNat r32) 173 (s32 170 35 : Int).toNat ((s32 173 (s32 170 35 : Int).toNat) + 1)) 177 ((((64 : Int) * (s32 170 35)) + ((8 : Int) * r7)) + r30 : Int).toNat ((zup (zup (zup (zup s32 174 (((14 : Int) * (s32 170 35)) + (s32 173 (s32 170 35 : Int).toNat) : Int).toNat r7) 175 (((14 : Int) * (s32 170 35)) + (s32 173 (s32 170 35 : Int).toNat) : Int).toNat r30) 176 (((14 : Int) * (s32 170 35)) + (s32 173 (s32 170 35 : Int).toNat) : Int).toNat r32) 173 (s32 170 35 : Int).toNat ((s32 173 (s32 170 35 : Int).toNat) + 1)) 173 (s32 170 35 : Int).toNat)) 177 ((((64 : Int) * (s32 170 35)) + ((8 : Int) * r30)) + r7 : Int).toNat ((zup (zup (zup (zup s32 174 (((14 : Int) * (s32 170 35)) + (s32 173 (s32 170 35 : Int).toNat) : Int).toNat r7) 175 (((14 : Int) * (s32 170 35)) + (s32 173 (s32 170 35 : Int).toNat) : Int).toNat r30) 176 (((14 : Int) * (s32 170 35)) + (s32 173 (s32 170 35 : Int).toNat) : Int).toNat r32) 173 (s32 170 35 : Int).toNat ((s32 173 (s32 170 35 : Int).toNat) + 1)) 173 (s32 170 35 : Int).toNat)) 175 i = (up1 (st 175) (((14 : Int) * (s32 170 35)) + (s32 173 (s32 170 35 : Int).toNat) : Int).toNat r30) i from fun i => by show up1 ((zup s32 174 (((14 : Int) * (s32 170 35)) + (s32 173 (s32 170 35 : Int).toNat) : Int).toNat r7) 175) (((14 : Int) * (s32 170 35)) + (s32 173 (s32 170 35 : Int).toNat) : Int).toNat r30 i = up1 (st 175) (((14 : Int) * (s32 170 35)) + (s32 173 (s32 170 35 : Int).toNat) : Int).toNat r30 i; rw [show (zup s32 174 (((14 : Int) * (s32 170 35)) + (s32 173 (s32 170 35 : Int).toNat) : Int).toNat r7) 175 = (st 175) from funext (show ∀ i : Nat, (zup s32 174 (((14 : Int) * (s32 170 35)) + (s32 173 (s32 170 35 : Int).toNat) : Int).toNat r7) 175 i = (st 175) i from (show ∀ i : Nat, s32 175 i = (st 175) i from fun i => (fs32 175 i rfl rfl).trans ((show ∀ i : Nat, s31 175 i = (st 175) i from fun i => (fs31 175 i rfl rfl).trans ((show ∀ i : Nat, s30 175 i = (st 175) i from fun i => (fs30 175 i rfl rfl).trans ((show ∀ i : Nat, s8 175 i = (st 175) i from fun i => (fs8 175 i rfl rfl).trans ((show ∀ i : Nat, s7 175 i = (st 175) i from fun i => (fs7 175 i rfl rfl).trans ((show ∀ i : Nat, s6 175 i = (st 175) i from fun i => (fs6 175 i rfl rfl).trans ((fun _ => rfl) i)) i)) i)) i)) i)) i)))]) i).trans (by show (up1 (st 175) (((14 : Int) * (s32 170 35)) + (s32 173 (s32 170 35 : Int).toNat) : Int).toNat r30) i = (up1 (st 175) (14 * st 170 35 + T 0 3 : Int).toNat r30) i; simp only [show s32 170 35 = st 170 35 from by omega, show s32 173 = (st 173) from funext (show ∀ i : Nat, s32 173 i = (st 173) i from fun i => (fs32 173 i rfl rfl).trans ((show ∀ i : Nat, s31 173 i = (st 173) i from fun i => (fs31 173 i rfl rfl).trans ((show ∀ i : Nat, s30 173 i = (st 173) i from fun i => (fs30 173 i rfl rfl).trans ((show ∀ i : Nat, s8 173 i = (st 173) i from fun i => (fs8 173 i rfl rfl).trans ((show ∀ i : Nat, s7 173 i = (st 173) i from fun i => (fs7 173 i rfl rfl).trans ((show ∀ i : Nat, s6 173 i = (st 173) i from fun i => (fs6 173 i rfl rfl).trans ((fun _ => rfl) i)) i)) i)) i)) i)) i)), rs1])) (fun i => ((show ∀ i : Nat, (zup (zup (zup (zup (zup (zup s32 174 (((14 : Int) * (s32 170 35)) + (s32 173 (s32 170 35 : Int).toNat) : Int).toNat r7) 175 (((14 : Int) * (s32 170 35)) + (s32 173 (s32 170 35 : Int).toNat) : Int).toNat r30) 176 (((14 : Int) * (s32 170 35)) + (s32 173 (s32 170 35 : Int).toNat) : Int).toNat r32) 173 (s32 170 35 : Int).toNat ((s32 173 (s32 170 35 : Int).toNat) + 1)) 177 ((((64 : Int) * (s32 170 35)) + ((8 : Int) * r7)) + r30 : Int).toNat ((zup (zup (zup (zup s32 174 (((14 : Int) * (s32 170 35)) + (s32 173 (s32 170 35 : Int).toNat) : Int).toNat r7) 175 (((14 : Int) * (s32 170 35)) + (s32 173 (s32 170 35 : Int).toNat) : Int).toNat r30) 176 (((14 : Int) * (s32 170 35)) + (s32 173 (s32 170 35 : Int).toNat) : Int).toNat r32) 173 (s32 170 35 : Int).toNat ((s32 173 (s32 170 35 : Int).toNat) + 1)) 173 (s32 170 35 : Int).toNat)) 177 ((((64 : Int) * (s32 170 35)) + ((8 : Int) * r30)) + r7 : Int).toNat ((zup (zup (zup (zup s32 174 (((14 : Int) * (s32 170 35)) + (s32 173 (s32 170 35 : Int).toNat) : Int).toNat r7) 175 (((14 : Int) * (s32 170 35)) + (s32 173 (s32 170 35 : Int).toNat) : Int).toNat r30) 176 (((14 : Int) * (s32 170 35)) + (s32 173 (s32 170 35 : Int).toNat) : Int).toNat r32) 173 (s32 170 35 : Int).toNat ((s32 173 (s32 170 35 : Int).toNat) + 1)) 173 (s32 170 35 : Int).toNat)) 176 i = (up1 (st 176) (((14 : Int) * (s32 170 35)) + (s32 173 (s32 170 35 : Int).toNat) : Int).toNat r32) i from fun i => by show up1 ((zup (zup s32 174 (((14 : Int) * (s32 170 35)) + (s32 173 (s32 170 35 : Int).toNat) : Int).toNat r7) 175 (((14 : Int) * (s32 170 35)) + (s32 173 (s32 170 35 : Int).toNat) : Int).toNat r30) 176) (((14 : Int) * (s32 170 35)) + (s32 173 (s32 170 35 : Int).toNat) : Int).toNat r32 i = up1 (st 176) (((14 : Int) * (s32 170 35)) + (s32 173 (s32 170 35 : Int).toNat) : Int).toNat r32 i; rw [show (zup (zup s32 174 (((14 : Int) * (s32 170 35)) + (s32 173 (s32 170 35 : Int).toNat) : Int).toNat r7) 175 (((14 : Int) * (s32 170 35)) + (s32 173 (s32 170 35 : Int).toNat) : Int).toNat r30) 176 = (st 176) from funext (show ∀ i : Nat, (zup (zup s32 174 (((14 : Int) * (s32 170 35)) + (s32 173 (s32 170 35 : Int).toNat) : Int).toNat r7) 175 (((14 : Int) * (s32 170 35)) + (s32 173 (s32 170 35 : Int).toNat) : Int).toNat r30) 176 i = (st 176) i from (show ∀ i : Nat, s32 176 i = (st 176) i from fun i => (fs32 176 i rfl rfl).trans ((show ∀ i : Nat, s31 176 i = (st 176) i from fun i => (fs31 176 i rfl rfl).trans ((show ∀ i : Nat, s30 176 i = (st 176) i from fun i => (fs30 176 i rfl rfl).trans ((show ∀ i : Nat, s8 176 i = (st 176) i from fun i => (fs8 176 i rfl rfl).trans ((show ∀ i : Nat, s7 176 i = (st 176) i from fun i => (fs7 176 i rfl rfl).trans ((show ∀ i : Nat, s6 176 i = (st 176) i from fun i => (fs6 176 i rfl rfl).trans ((fun _ => rfl) i)) i)) i)) i)) i)) i)))]) i).trans (by show (up1 (st 176) (((14 : Int) * (s32 170 35)) + (s32 173 (s32 170 35 : Int).toNat) : Int).toNat r32) i = (up1 (st 176) (14 * st 170 35 + T 0 3 : Int).toNat r32) i; simp only [show s32 170 35 = st 170 35 from by omega, show s32 173 = (st 173) from funext (show ∀ i : Nat, s32 173 i = (st 173) i from fun i => (fs32 173 i rfl rfl).trans ((show ∀ i : Nat, s31 173 i = (st 173) i from fun i => (fs31 173 i rfl rfl).trans ((show ∀ i : Nat, s30 173 i = (st 173) i from fun i => (fs30 173 i rfl rfl).trans ((show ∀ i : Nat, s8 173 i = (st 173) i from fun i => (fs8 173 i rfl rfl).trans ((show ∀ i : Nat, s7 173 i = (st 173) i from fun i => (fs7 173 i rfl rfl).trans ((show ∀ i : Nat, s6 173 i = (st 173) i from fun i => (fs6 173 i rfl rfl).trans ((fun _ => rfl) i)) i)) i)) i)) i)) i)), rs1])) (fun i => ((show ∀ i : Nat, (zup (zup (zup (zup (zup (zup s32 174 (((14 : Int) * (s32 170 35)) + (s32 173 (s32 170 35 : Int).toNat) : Int).toNat r7) 175 (((14 : Int) * (s32 170 35)) + (s32 173 (s32 170 35 : Int).toNat) : Int).toNat r30) 176 (((14 : Int) * (s32 170 35)) + (s32 173 (s32 170 35 : Int).toNat) : Int).toNat r32) 173 (s32 170 35 : Int).toNat ((s32 173 (s32 170 35 : Int).toNat) + 1)) 177 ((((64 : Int) * (s32 170 35)) + ((8 : Int) * r7)) + r30 : Int).toNat ((zup (zup (zup (zup s32 174 (((14 : Int) * (s32 170 35)) + (s32 173 (s32 170 35 : Int).toNat) : Int).toNat r7) 175 (((14 : Int) * (s32 170 35)) + (s32 173 (s32 170 35 : Int).toNat) : Int).toNat r30) 176 (((14 : Int) * (s32 170 35)) + (s32 173 (s32 170 35 : Int).toNat) : Int).toNat r32) 173 (s32 170 35 : Int).toNat ((s32 173 (s32 170 35 : Int).toNat) + 1)) 173 (s32 170 35 : Int).toNat)) 177 ((((64 : Int) * (s32 170 35)) + ((8 : Int) * r30)) + r7 : Int).toNat ((zup (zup (zup (zup s32 174 (((14 : Int) * (s32 170 35)) + (s32 173 (s32 170 35 : Int).toNat) : Int).toNat r7) 175 (((14 : Int) * (s32 170 35)) + (s32 173 (s32 170 35 : Int).toNat) : Int).toNat r30) 176 (((14 : Int) * (s32 170 35)) + (s32 173 (s32 170 35 : Int).toNat) : Int).toNat r32) 173 (s32 170 35 : Int).toNat ((s32 173 (s32 170 35 : Int).toNat) + 1)) 173 (s32 170 35 : Int).toNat)) 177 i = (up1 (up1 (st 177) ((((64 : Int) * (s32 170 35)) + ((8 : Int) * r7)) + r30 : Int).toNat ((zup (zup (zup (zup s32 174 (((14 : Int) * (s32 170 35)) + (s32 173 (s32 170 35 : Int).toNat) : Int).toNat r7) 175 (((14 : Int) * (s32 170 35)) + (s32 173 (s32 170 35 : Int).toNat) : Int).toNat r30) 176 (((14 : Int) * (s32 170 35)) + (s32 173 (s32 170 35 : Int).toNat) : Int).toNat r32) 173 (s32 170 35 : Int).toNat ((s32 173 (s32 170 35 : Int).toNat) + 1)) 173 (s32 170 35 : Int).toNat)) ((((64 : Int) * (s32 170 35)) + ((8 : Int) * r30)) + r7 : Int).toNat ((zup (zup (zup (zup s32 174 (((14 : Int) * (s32 170 35)) + (s32 173 (s32 170 35 : Int).toNat) : Int).toNat r7) 175 (((14 : Int) * (s32 170 35)) + (s32 173 (s32 170 35 : Int).toNat) : Int).toNat r30) 176 (((14 : Int) * (s32 170 35)) + (s32 173 (s32 170 35 : Int).toNat) : Int).toNat r32) 173 (s32 170 35 : Int).toNat ((s32 173 (s32 170 35 : Int).toNat) + 1)) 173 (s32 170 35 : Int).toNat)) i from fun i => by show up1 ((zup (zup (zup (zup (zup s32 174 (((14 : Int) * (s32 170 35)) + (s32 173 (s32 170 35 : Int).toNat) : Int).toNat r7) 175 (((14 : Int) * (s32 170 35)) + (s32 173 (s32 170 35 : Int).toNat) : Int).toNat r30) 176 (((14 : Int) * (s32 170 35)) + (s32 173 (s32 170 35 : Int).toNat) : Int).toNat r32) 173 (s32 170 35 : Int).toNat ((s32 173 (s32 170 35 : Int).toNat) + 1)) 177 ((((64 : Int) * (s32 170 35)) + ((8 : Int) * r7)) + r30 : Int).toNat ((zup (zup (zup (zup s32 174 (((14 : Int) * (s32 170 35)) + (s32 173 (s32 170 35 : Int).toNat) : Int).toNat r7) 175 (((14 : Int) * (s32 170 35)) + (s32 173 (s32 170 35 : Int).toNat) : Int).toNat r30) 176 (((14 : Int) * (s32 170 35)) + (s32 173 (s32 170 35 : Int).toNat) : Int).toNat r32) 173 (s32 170 35 : Int).toNat ((s32 173 (s32 170 35 : Int).toNat) + 1)) 173 (s32 170 35 : Int).toNat)) 177) ((((64 : Int) * (s32 170 35)) + ((8 : Int) * r30)) + r7 : Int).toNat ((zup (zup (zup (zup s32 174 (((14 : Int) * (s32 170 35)) + (s32 173 (s32 170 35 : Int).toNat) : Int).toNat r7) 175 (((14 : Int) * (s32 170 35)) + (s32 173 (s32 170 35 : Int).toNat) : Int).toNat r30) 176 (((14 : Int) * (s32 170 35)) + (s32 173 (s32 170 35 : Int).toNat) : Int).toNat r32) 173 (s32 170 35 : Int).toNat ((s32 173 (s32 170 35 : Int).toNat) + 1)) 173 (s32 170 35 : Int).toNat) i = up1 (up1 (st 177) ((((64 : Int) * (s32 170 35)) + ((8 : Int) * r7)) + r30 : Int).toNat ((zup (zup (zup (zup s32 174 (((14 : Int) * (s32 170 35)) + (s32 173 (s32 170 35 : Int).toNat) : Int).toNat r7) 175 (((14 : Int) * (s32 170 35)) + (s32 173 (s32 170 35 : Int).toNat) : Int).toNat r30) 176 (((14 : Int) * (s32 170 35)) + (s32 173 (s32 170 35 : Int).toNat) : Int).toNat r32) 173 (s32 170 35 : Int).toNat ((s32 173 (s32 170 35 : Int).toNat) + 1)) 173 (s32 170 35 : Int).toNat)) ((((64 : Int) * (s32 170 35)) + ((8 : Int) * r30)) + r7 : Int).toNat ((zup (zup (zup (zup s32 174 (((14 : Int) * (s32 170 35)) + (s32 173 (s32 170 35 : Int).toNat) : Int).toNat r7) 175 (((14 : Int) * (s32 170 35)) + (s32 173 (s32 170 35 : Int).toNat) : Int).toNat r30) 176 (((14 : Int) * (s32 170 35)) + (s32 173 (s32 170 35 : Int).toNat) : Int).toNat r32) 173 (s32 170 35 : Int).toNat ((s32 173 (s32 170 35 : Int).toNat) + 1)) 173 (s32 170 35 : Int).toNat) i; rw [show (zup (zup (zup (zup (zup s32 174 (((14 : Int) * (s32 170 35)) + (s32 173 (s32 170 35 : Int).toNat) : Int).toNat r7) 175 (((14 : Int) * (s32 170 35)) + (s32 173 (s32 170 35 : Int).toNat) : Int).toNat r30) 176 (((14 : Int) * (s32 170 35)) + (s32 173 (s32 170 35 : Int).toNat) : Int).toNat r32) 173 (s32 170 35 : Int).toNat ((s32 173 (s32 170 35 : Int).toNat) + 1)) 177 ((((64 : Int) * (s32 170 35)) + ((8 : Int) * r7)) + r30 : Int).toNat ((zup (zup (zup (zup s32 174 (((14 : Int) * (s32 170 35)) + (s32 173 (s32 170 35 : Int).toNat) : Int).toNat r7) 175 (((14 : Int) * (s32 170 35)) + (s32 173 (s32 170 35 : Int).toNat) : Int).toNat r30) 176 (((14 : Int) * (s32 170 35)) + (s32 173 (s32 170 35 : Int).toNat) : Int).toNat r32) 173 (s32 170 35 : Int).toNat ((s32 173 (s32 170 35 : Int).toNat) + 1)) 173 (s32 170 35 : Int).toNat)) 177 = (up1 (st 177) ((((64 : Int) * (s32 170 35)) + ((8 : Int) * r7)) + r30 : Int).toNat ((zup (zup (zup (zup s32 174 (((14 : Int) * (s32 170 35)) + (s32 173 (s32 170 35 : Int).toNat) : Int).toNat r7) 175 (((14 : Int) * (s32 170 35)) + (s32 173 (s32 170 35 : Int).toNat) : Int).toNat r30) 176 (((14 : Int) * (s32 170 35)) + (s32 173 (s32 170 35 : Int).toNat) : Int).toNat r32) 173 (s32 170 35 : Int).toNat ((s32 173 (s32 170 35 : Int).toNat) + 1)) 173 (s32 170 35 : Int).toNat)) from funext (show ∀ i : Nat, (zup (zup (zup (zup (zup s32 174 (((14 : Int) * (s32 170 35)) + (s32 173 (s32 170 35 : Int).toNat) : Int).toNat r7) 175 (((14 : Int) * (s32 170 35)) + (s32 173 (s32 170 35 : Int).toNat) : Int).toNat r30) 176 (((14 : Int) * (s32 170 35)) + (s32 173 (s32 170 35 : Int).toNat) : Int).toNat r32) 173 (s32 170 35 : Int).toNat ((s32 173 (s32 170 35 : Int).toNat) + 1)) 177 ((((64 : Int) * (s32 170 35)) + ((8 : Int) * r7)) + r30 : Int).toNat ((zup (zup (zup (zup s32 174 (((14 : Int) * (s32 170 35)) + (s32 173 (s32 170 35 : Int).toNat) : Int).toNat r7) 175 (((14 : Int) * (s32 170 35)) + (s32 173 (s32 170 35 : Int).toNat) : Int).toNat r30) 176 (((14 : Int) * (s32 170 35)) + (s32 173 (s32 170 35 : Int).toNat) : Int).toNat r32) 173 (s32 170 35 : Int).toNat ((s32 173 (s32 170 35 : Int).toNat) + 1)) 173 (s32 170 35 : Int).toNat)) 177 i = (up1 (st 177) ((((64 : Int) * (s32 170 35)) + ((8 : Int) * r7)) + r30 : Int).toNat ((zup (zup (zup (zup s32 174 (((14 : Int) * (s32 170 35)) + (s32 173 (s32 170 35 : Int).toNat) : Int).toNat r7) 175 (((14 : Int) * (s32 170 35)) + (s32 173 (s32 170 35 : Int).toNat) : Int).toNat r30) 176 (((14 : Int) * (s32 170 35)) + (s32 173 (s32 170 35 : Int).toNat) : Int).toNat r32) 173 (s32 170 35 : Int).toNat ((s32 173 (s32 170 35 : Int).toNat) + 1)) 173 (s32 170 35 : Int).toNat)) i from fun i => by show up1 ((zup (zup (zup (zup s32 174 (((14 : Int) * (s32 170 35)) + (s32 173 (s32 170 35 : Int).toNat) : Int).toNat r7) 175 (((14 : Int) * (s32 170 35)) + (s32 173 (s32 170 35 : Int).toNat) : Int).toNat r30) 176 (((14 : Int) * (s32 170 35)) + (s32 173 (s32 170 35 : Int).toNat) : Int).toNat r32) 173 (s32 170 35 : Int).toNat ((s32 173 (s32 170 35 : Int).toNat) + 1)) 177) ((((64 : Int) * (s32 170 35)) + ((8 : Int) * r7)) + r30 : Int).toNat ((zup (zup (zup (zup s32 174 (((14 : Int) * (s32 170 35)) + (s32 173 (s32 170 35 : Int).toNat) : Int).toNat r7) 175 (((14 : Int) * (s32 170 35)) + (s32 173 (s32 170 35 : Int).toNat) : Int).toNat r30) 176 (((14 : Int) * (s32 170 35)) + (s32 173 (s32 170 35 : Int).toNat) : Int).toNat r32) 173 (s32 170 35 : Int).toNat ((s32 173 (s32 170 35 : Int).toNat) + 1)) 173 (s32 170 35 : Int).toNat) i = up1 (st 177) ((((64 : Int) * (s32 170 35)) + ((8 : Int) * r7)) + r30 : Int).toNat ((zup (zup (zup (zup s32 174 (((14 : Int) * (s32 170 35)) + (s32 173 (s32 170 35 : Int).toNat) : Int).toNat r7) 175 (((14 : Int) * (s32 170 35)) + (s32 173 (s32 170 35 : Int).toNat) : Int).toNat r30) 176 (((14 : Int) * (s32 170 35)) + (s32 173 (s32 170 35 : Int).toNat) : Int).toNat r32) 173 (s32 170 35 : Int).toNat ((s32 173 (s32 170 35 : Int).toNat) + 1)) 173 (s32 170 35 : Int).toNat) i; rw [show (zup (zup (zup (zup s32 174 (((14 : Int) * (s32 170 35)) + (s32 173 (s32 170 35 : Int).toNat) : Int).toNat r7) 175 (((14 : Int) * (s32 170 35)) + (s32 173 (s32 170 35 : Int).toNat) : Int).toNat r30) 176 (((14 : Int) * (s32 170 35)) + (s32 173 (s32 170 35 : Int).toNat) : Int).toNat r32) 173 (s32 170 35 : Int).toNat ((s32 173 (s32 170 35 : Int).toNat) + 1)) 177 = (st 177) from funext (show ∀ i : Nat, (zup (zup (zup (zup s32 174 (((14 : Int) * (s32 170 35)) + (s32 173 (s32 170 35 : Int).toNat) : Int).toNat r7) 175 (((14 : Int) * (s32 170 35)) + (s32 173 (s32 170 35 : Int).toNat) : Int).toNat r30) 176 (((14 : Int) * (s32 170 35)) + (s32 173 (s32 170 35 : Int).toNat) : Int).toNat r32) 173 (s32 170 35 : Int).toNat ((s32 173 (s32 170 35 : Int).toNat) + 1)) 177 i = (st 177) i from (show ∀ i : Nat, s32 177 i = (st 177) i from fun i => (fs32 177 i rfl rfl).trans ((show ∀ i : Nat, s31 177 i = (st 177) i from fun i => (fs31 177 i rfl rfl).trans ((show ∀ i : Nat, s30 177 i = (st 177) i from fun i => (fs30 177 i rfl rfl).trans ((show ∀ i : Nat, s8 177 i = (st 177) i from fun i => (fs8 177 i rfl rfl).trans ((show ∀ i : Nat, s7 177 i = (st 177) i from fun i => (fs7 177 i rfl rfl).trans ((show ∀ i : Nat, s6 177 i = (st 177) i from fun i => (fs6 177 i rfl rfl).trans ((fun _ => rfl) i)) i)) i)) i)) i)) i)))])]) i).trans (by show (up1 (up1 (st 177) ((((64 : Int) * (s32 170 35)) + ((8 : Int) * r7)) + r30 : Int).toNat ((zup (zup (zup (zup s32 174 (((14 : Int) * (s32 170 35)) + (s32 173 (s32 170 35 : Int).toNat) : Int).toNat r7) 175 (((14 : Int) * (s32 170 35)) + (s32 173 (s32 170 35 : Int).toNat) : Int).toNat r30) 176 (((14 : Int) * (s32 170 35)) + (s32 173 (s32 170 35 : Int).toNat) : Int).toNat r32) 173 (s32 170 35 : Int).toNat ((s32 173 (s32 170 35 : Int).toNat) + 1)) 173 (s32 170 35 : Int).toNat)) ((((64 : Int) * (s32 170 35)) + ((8 : Int) * r30)) + r7 : Int).toNat ((zup (zup (zup (zup s32 174 (((14 : Int) * (s32 170 35)) + (s32 173 (s32 170 35 : Int).toNat) : Int).toNat r7) 175 (((14 : Int) * (s32 170 35)) + (s32 173 (s32 170 35 : Int).toNat) : Int).toNat r30) 176 (((14 : Int) * (s32 170 35)) + (s32 173 (s32 170 35 : Int).toNat) : Int).toNat r32) 173 (s32 170 35 : Int).toNat ((s32 173 (s32 170 35 : Int).toNat) + 1)) 173 (s32 170 35 : Int).toNat)) i = (up1 (up1 (st 177) (64 * st 170 35 + 8 * r7 + r30 : Int).toNat (T 0 3 + 1)) (64 * st 170 35 + 8 * r30 + r7 : Int).toNat (T 0 3 + 1)) i; simp only [show s32 170 35 = st 170 35 from by omega, show s32 173 = (st 173) from funext (show ∀ i : Nat, s32 173 i = (st 173) i from fun i => (fs32 173 i rfl rfl).trans ((show ∀ i : Nat, s31 173 i = (st 173) i from fun i => (fs31 173 i rfl rfl).trans ((show ∀ i : Nat, s30 173 i = (st 173) i from fun i => (fs30 173 i rfl rfl).trans ((show ∀ i : Nat, s8 173 i = (st 173) i from fun i => (fs8 173 i rfl rfl).trans ((show ∀ i : Nat, s7 173 i = (st 173) i from fun i => (fs7 173 i rfl rfl).trans ((show ∀ i : Nat, s6 173 i = (st 173) i from fun i => (fs6 173 i rfl rfl).trans ((fun _ => rfl) i)) i)) i)) i)) i)) i)), show s32 174 = (st 174) from funext (show ∀ i : Nat, s32 174 i = (st 174) i from fun i => (fs32 174 i rfl rfl).trans ((show ∀ i : Nat, s31 174 i = (st 174) i from fun i => (fs31 174 i rfl rfl).trans ((show ∀ i : Nat, s30 174 i = (st 174) i from fun i => (fs30 174 i rfl rfl).trans ((show ∀ i : Nat, s8 174 i = (st 174) i from fun i => (fs8 174 i rfl rfl).trans ((show ∀ i : Nat, s7 174 i = (st 174) i from fun i => (fs7 174 i rfl rfl).trans ((show ∀ i : Nat, s6 174 i = (st 174) i from fun i => (fs6 174 i rfl rfl).trans ((fun _ => rfl) i)) i)) i)) i)) i)) i)), rs1, zup_eq])) (by
              exact fun c i h1 h2 y0 y1 y2 y3 y4 => by
                rcases (show c = 172 ∨ c = 178 ∨ c = 179 ∨ c = 180 ∨ c = 181 ∨ c = 182 ∨ c = 183 ∨ c = 184 ∨ c = 185 ∨ c = 186 ∨ c = 187 ∨ c = 188 ∨ c = 189 ∨ c = 190 ∨ c = 191 from by omega) with rfl | rfl | rfl | rfl | rfl | rfl | rfl | rfl | rfl | rfl | rfl | rfl | rfl | rfl | rfl
                · exact (fun i => (fs32 172 i rfl rfl).trans ((fun i => (fs31 172 i rfl rfl).trans ((fun i => (fs30 172 i rfl rfl).trans ((fun i => (fs8 172 i rfl rfl).trans ((fun i => (fs7 172 i rfl rfl).trans ((fun i => (fs6 172 i rfl rfl).trans ((fun _ => rfl) i)) i)) i)) i)) i)) i)) i
                · exact (fun i => (fs32 178 i rfl rfl).trans ((fun i => (fs31 178 i rfl rfl).trans ((fun i => (fs30 178 i rfl rfl).trans ((fun i => (fs8 178 i rfl rfl).trans ((fun i => (fs7 178 i rfl rfl).trans ((fun i => (fs6 178 i rfl rfl).trans ((fun _ => rfl) i)) i)) i)) i)) i)) i)) i
                · exact (fun i => (fs32 179 i rfl rfl).trans ((fun i => (fs31 179 i rfl rfl).trans ((fun i => (fs30 179 i rfl rfl).trans ((fun i => (fs8 179 i rfl rfl).trans ((fun i => (fs7 179 i rfl rfl).trans ((fun i => (fs6 179 i rfl rfl).trans ((fun _ => rfl) i)) i)) i)) i)) i)) i)) i
                · exact (fun i => (fs32 180 i rfl rfl).trans ((fun i => (fs31 180 i rfl rfl).trans ((fun i => (fs30 180 i rfl rfl).trans ((fun i => (fs8 180 i rfl rfl).trans ((fun i => (fs7 180 i rfl rfl).trans ((fun i => (fs6 180 i rfl rfl).trans ((fun _ => rfl) i)) i)) i)) i)) i)) i)) i
                · exact (fun i => (fs32 181 i rfl rfl).trans ((fun i => (fs31 181 i rfl rfl).trans ((fun i => (fs30 181 i rfl rfl).trans ((fun i => (fs8 181 i rfl rfl).trans ((fun i => (fs7 181 i rfl rfl).trans ((fun i => (fs6 181 i rfl rfl).trans ((fun _ => rfl) i)) i)) i)) i)) i)) i)) i
                · exact (fun i => (fs32 182 i rfl rfl).trans ((fun i => (fs31 182 i rfl rfl).trans ((fun i => (fs30 182 i rfl rfl).trans ((fun i => (fs8 182 i rfl rfl).trans ((fun i => (fs7 182 i rfl rfl).trans ((fun i => (fs6 182 i rfl rfl).trans ((fun _ => rfl) i)) i)) i)) i)) i)) i)) i
                · exact (fun i => (fs32 183 i rfl rfl).trans ((fun i => (fs31 183 i rfl rfl).trans ((fun i => (fs30 183 i rfl rfl).trans ((fun i => (fs8 183 i rfl rfl).trans ((fun i => (fs7 183 i rfl rfl).trans ((fun i => (fs6 183 i rfl rfl).trans ((fun _ => rfl) i)) i)) i)) i)) i)) i)) i
                · exact (fun i => (fs32 184 i rfl rfl).trans ((fun i => (fs31 184 i rfl rfl).trans ((fun i => (fs30 184 i rfl rfl).trans ((fun i => (fs8 184 i rfl rfl).trans ((fun i => (fs7 184 i rfl rfl).trans ((fun i => (fs6 184 i rfl rfl).trans ((fun _ => rfl) i)) i)) i)) i)) i)) i)) i
                · exact (fun i => (fs32 185 i rfl rfl).trans ((fun i => (fs31 185 i rfl rfl).trans ((fun i => (fs30 185 i rfl rfl).trans ((fun i => (fs8 185 i rfl rfl).trans ((fun i => (fs7 185 i rfl rfl).trans ((fun i => (fs6 185 i rfl rfl).trans ((fun _ => rfl) i)) i)) i)) i)) i)) i)) i
                · exact (fun i => (fs32 186 i rfl rfl).trans ((fun i => (fs31 186 i rfl rfl).trans ((fun i => (fs30 186 i rfl rfl).trans ((fun i => (fs8 186 i rfl rfl).trans ((fun i => (fs7 186 i rfl rfl).trans ((fun i => (fs6 186 i rfl rfl).trans ((fun _ => rfl) i)) i)) i)) i)) i)) i)) i
                · exact (fun i => (fs32 187 i rfl rfl).trans ((fun i => (fs31 187 i rfl rfl).trans ((fun i => (fs30 187 i rfl rfl).trans ((fun i => (fs8 187 i rfl rfl).trans ((fun i => (fs7 187 i rfl rfl).trans ((fun i => (fs6 187 i rfl rfl).trans ((fun _ => rfl) i)) i)) i)) i)) i)) i)) i
                · exact (fun i => (fs32 188 i rfl rfl).trans ((fun i => (fs31 188 i rfl rfl).trans ((fun i => (fs30 188 i rfl rfl).trans ((fun i => (fs8 188 i rfl rfl).trans ((fun i => (fs7 188 i rfl rfl).trans ((fun i => (fs6 188 i rfl rfl).trans ((fun _ => rfl) i)) i)) i)) i)) i)) i)) i
                · exact (fun i => (fs32 189 i rfl rfl).trans ((fun i => (fs31 189 i rfl rfl).trans ((fun i => (fs30 189 i rfl rfl).trans ((fun i => (fs8 189 i rfl rfl).trans ((fun i => (fs7 189 i rfl rfl).trans ((fun i => (fs6 189 i rfl rfl).trans ((fun _ => rfl) i)) i)) i)) i)) i)) i)) i
                · exact (fun i => (fs32 190 i rfl rfl).trans ((fun i => (fs31 190 i rfl rfl).trans ((fun i => (fs30 190 i rfl rfl).trans ((fun i => (fs8 190 i rfl rfl).trans ((fun i => (fs7 190 i rfl rfl).trans ((fun i => (fs6 190 i rfl rfl).trans ((fun _ => rfl) i)) i)) i)) i)) i)) i)) i
                · exact (fun i => (fs32 191 i rfl rfl).trans ((fun i => (fs31 191 i rfl rfl).trans ((fun i => (fs30 191 i rfl rfl).trans ((fun i => (fs8 191 i rfl rfl).trans ((fun i => (fs7 191 i rfl rfl).trans ((fun i => (fs6 191 i rfl rfl).trans ((fun _ => rfl) i)) i)) i)) i)) i)) i)) i)⟩))⟩
                    · refine ⟨fun h69 => (by exfalso; omega), fun h69 => ?_⟩
                      exact hQ _ ⟨gs32, (fr_tr (fr_tr (fr_tr (fr_tr (fr_tr (fr_tr (fr_rf _ _) fs6 rfl) fs7 rfl) fs8 rfl) fs30 rfl) fs31 rfl) fs32 rfl), (show BO (s32 170 8) (RDr s32 t n) (fun T' q => bSt t n T e T' q) (s32 170 4) (fun T' => RT (st 170 35) T' s32) from (by
            refine Or.inl ⟨by omega, fun hx => ?_⟩
            obtain ⟨T', q, hb⟩ := hx
            obtain ⟨h0, v, a, e1, e2, u, y, e3, e4, m, h1, h2, h3, h4, h5, h6, h7, h8, h9, h10, h11, h12⟩ := (show bSt t n T e T' q from hb)
            obtain ⟨-, rfl, rfl⟩ := tk_u (show tk t n e 1 v7 (s7 170 4) from by rw [← ee6]; exact t7) h1
            have ea7 := KnP_u kn7 h2
            subst ea7
            obtain ⟨-, -, rfl⟩ := tk_u t8 h3
            obtain ⟨-, rfl, rfl⟩ := tk_u t30 h4
            have ea30 := KnP_u kn30 h5
            subst ea30
            obtain ⟨-, -, rfl⟩ := tk_u t31 h8
            exact l32 ⟨m, q, h9, h10, h11⟩))⟩
                    · exfalso; omega
                  · refine ⟨rfl, ⟨gs31, (show s31 170 8 = 0 → RDr s31 t n from (fun z => absurd z (by omega)))⟩, fun r32 s32 q32 => ?_⟩
                    obtain ⟨gs32, fs32, v32, o32⟩ := q32
                    change -2147483648 ≤ r32 ∧ r32 ≤ 2147483647 at v32
                    change (s32 170 8 = 0 ∧ s31 170 8 = 0 ∧ (1) ≤ r32 ∧ r32 ≤ (99) ∧ tk t n (s31 170 4) 2 r32 (s32 170 4) ∧ RDr s32 t n) ∨ (0 < s32 170 8 ∧ s31 170 8 = 0 ∧ ¬ ∃ v e : Int, tk t n (s31 170 4) 2 v e ∧ (1) ≤ v ∧ v ≤ (99)) ∨ (0 < s32 170 8 ∧ 0 < s31 170 8) at o32
                    have g70 := g_faultKind gs32
                    have g71 := g_signAt gs32
                    have e72 : s32 170 35 = s31 170 35 := fs32 170 35 rfl rfl
                    have g73 := g_lexAt gs32
                    have e74 : s32 170 34 = s31 170 34 := fs32 170 34 rfl rfl
                    rcases o32 with ⟨y32, z32, a32, b32, t32, rd32⟩ | ⟨y32, z32, l32⟩ | ⟨y32, z32⟩
                    · exfalso; omega
                    · exfalso; omega
                    · refine ⟨fun h75 => (by exfalso; omega), fun h75 => ?_⟩
                      exact hQ _ ⟨gs32, (fr_tr (fr_tr (fr_tr (fr_tr (fr_tr (fr_tr (fr_rf _ _) fs6 rfl) fs7 rfl) fs8 rfl) fs30 rfl) fs31 rfl) fs32 rfl), (show BO (s32 170 8) (RDr s32 t n) (fun T' q => bSt t n T e T' q) (s32 170 4) (fun T' => RT (st 170 35) T' s32) from (by
            refine Or.inl ⟨by omega, fun hx => ?_⟩
            obtain ⟨T', q, hb⟩ := hx
            obtain ⟨h0, v, a, e1, e2, u, y, e3, e4, m, h1, h2, h3, h4, h5, h6, h7, h8, h9, h10, h11, h12⟩ := (show bSt t n T e T' q from hb)
            obtain ⟨-, rfl, rfl⟩ := tk_u (show tk t n e 1 v7 (s7 170 4) from by rw [← ee6]; exact t7) h1
            have ea7 := KnP_u kn7 h2
            subst ea7
            obtain ⟨-, -, rfl⟩ := tk_u t8 h3
            obtain ⟨-, rfl, rfl⟩ := tk_u t30 h4
            have ea30 := KnP_u kn30 h5
            subst ea30
            exact l31 ⟨e4, h8⟩))⟩
                  · exfalso; omega
                · refine ⟨rfl, ⟨gs30, (show s30 170 8 = 0 → RDr s30 t n from (fun z => absurd z (by omega)))⟩, fun s31 q31 => ?_⟩
                  obtain ⟨gs31, fs31, o31⟩ := q31
                  change (s31 170 8 = 0 ∧ s30 170 8 = 0 ∧ tk t n (s30 170 4) 1 (482670241139) (s31 170 4) ∧ RDr s31 t n) ∨ (0 < s31 170 8 ∧ s30 170 8 = 0 ∧ ¬ ∃ e : Int, tk t n (s30 170 4) 1 (482670241139) e) ∨ (0 < s31 170 8 ∧ 0 < s30 170 8) at o31
                  have g76 := g_faultKind gs31
                  have g77 := g_signAt gs31
                  have e78 : s31 170 35 = s30 170 35 := fs31 170 35 rfl rfl
                  have g79 := g_lexAt gs31
                  have e80 : s31 170 34 = s30 170 34 := fs31 170 34 rfl rfl
                  rcases o31 with ⟨y31, z31, t31, rd31⟩ | ⟨y31, z31, l31⟩ | ⟨y31, z31⟩
                  · exfalso; omega
                  · exfalso; omega
                  · refine ⟨rfl, ⟨gs31, (show s31 170 8 = 0 → RDr s31 t n from (fun z => absurd z (by omega)))⟩, fun r32 s32 q32 => ?_⟩
                    obtain ⟨gs32, fs32, v32, o32⟩ := q32
                    change -2147483648 ≤ r32 ∧ r32 ≤ 2147483647 at v32
                    change (s32 170 8 = 0 ∧ s31 170 8 = 0 ∧ (1) ≤ r32 ∧ r32 ≤ (99) ∧ tk t n (s31 170 4) 2 r32 (s32 170 4) ∧ RDr s32 t n) ∨ (0 < s32 170 8 ∧ s31 170 8 = 0 ∧ ¬ ∃ v e : Int, tk t n (s31 170 4) 2 v e ∧ (1) ≤ v ∧ v ≤ (99)) ∨ (0 < s32 170 8 ∧ 0 < s31 170 8) at o32
                    have g81 := g_faultKind gs32
                    have g82 := g_signAt gs32
                    have e83 : s32 170 35 = s31 170 35 := fs32 170 35 rfl rfl
                    have g84 := g_lexAt gs32
                    have e85 : s32 170 34 = s31 170 34 := fs32 170 34 rfl rfl
                    rcases o32 with ⟨y32, z32, a32, b32, t32, rd32⟩ | ⟨y32, z32, l32⟩ | ⟨y32, z32⟩
                    · exfalso; omega
                    · exfalso; omega
                    · refine ⟨fun h86 => (by exfalso; omega), fun h86 => ?_⟩
                      exact hQ _ ⟨gs32, (fr_tr (fr_tr (fr_tr (fr_tr (fr_tr (fr_tr (fr_rf _ _) fs6 rfl) fs7 rfl) fs8 rfl) fs30 rfl) fs31 rfl) fs32 rfl), (show BO (s32 170 8) (RDr s32 t n) (fun T' q => bSt t n T e T' q) (s32 170 4) (fun T' => RT (st 170 35) T' s32) from (by
            refine Or.inl ⟨by omega, fun hx => ?_⟩
            obtain ⟨T', q, hb⟩ := hx
            obtain ⟨h0, v, a, e1, e2, u, y, e3, e4, m, h1, h2, h3, h4, h5, h6, h7, h8, h9, h10, h11, h12⟩ := (show bSt t n T e T' q from hb)
            obtain ⟨-, rfl, rfl⟩ := tk_u (show tk t n e 1 v7 (s7 170 4) from by rw [← ee6]; exact t7) h1
            have ea7 := KnP_u kn7 h2
            subst ea7
            obtain ⟨-, -, rfl⟩ := tk_u t8 h3
            rw [show c = 8 from by omega] at mk_lp
            have kb := KnP_b h5
            have kb2 := KnP_b kn7
            refine l30 ⟨u, y, e3, h4, h5, MKs_y mk_lp (by omega) h6 (fun z => ?_)⟩
            rw [RTs_l (a := r7) (c := y) rt.2.2.1 (by omega) (by omega)] at z
            omega))⟩
                · exfalso; omega
              · have g90 := g_in hG
                have e89 : s6 170 35 = st 170 35 := fs6 170 35 rfl rfl
                have e88 : s7 170 35 = s6 170 35 := fs7 170 35 rfl rfl
                have e87 : s8 170 35 = s7 170 35 := fs8 170 35 rfl rfl
                refine ⟨rfl, (show 0 ≤ (s8 170 35) ∧ (s8 170 35) ≤ 1 ∧ 0 ≤ r7 ∧ r7 < 8 ∧ 0 ≤ c ∧ c < 8 from by omega), fun r33 q33 => ?_⟩
                have e33 := q33
                change r33 = s8 177 (64 * (s8 170 35) + 8 * r7 + c : Int).toNat at e33
                have eb33 : r33 = st 177 (64 * st 170 35 + 8 * r7 + c : Int).toNat := by rw [e33, show s8 177 = st 177 from funext (fun i => (fs8 177 i rfl rfl).trans ((fun i => (fs7 177 i rfl rfl).trans ((fun i => (fs6 177 i rfl rfl).trans ((fun _ => rfl) i)) i)) i)), show s8 170 35 = st 170 35 from by omega]
                have g94 := g_streetAt hG (64 * (st 170 35) + 8 * r7 + c : Int).toNat
                have e93 : s6 177 (64 * (st 170 35) + 8 * r7 + c : Int).toNat = st 177 (64 * (st 170 35) + 8 * r7 + c : Int).toNat := fs6 177 (64 * (st 170 35) + 8 * r7 + c : Int).toNat rfl rfl
                have e92 : s7 177 (64 * (st 170 35) + 8 * r7 + c : Int).toNat = s6 177 (64 * (st 170 35) + 8 * r7 + c : Int).toNat := fs7 177 (64 * (st 170 35) + 8 * r7 + c : Int).toNat rfl rfl
                have e91 : s8 177 (64 * (s8 170 35) + 8 * r7 + c : Int).toNat = s7 177 (64 * (st 170 35) + 8 * r7 + c : Int).toNat := (fs8 177 (64 * (s8 170 35) + 8 * r7 + c : Int).toNat rfl rfl).trans (by rw [e87, e88, e89] <;> rfl)
                refine ⟨fun h95 => ?_, fun h95 => ?_⟩
                · refine ⟨by omega, ?_⟩
                  exact ih_lp _ (show (8 - (c + 1) : Int).toNat < u_lp from by omega) (c + 1) (zd (Nat.lor (zi bt) (zi 0))) ⟨(show 0 ≤ (c + 1) ∧ (c + 1) ≤ 8 from by omega), (show 0 ≤ (zd (Nat.lor (zi bt) (zi 0))) ∧ (zd (Nat.lor (zi bt) (zi 0))) < 256 from by rw [lor_z (by omega)]; omega), (show MKs (st 177) (st 170 35) r7 (c + 1) (zd (Nat.lor (zi bt) (zi 0))) from (MKs_n mk_lp (by omega) (by rw [← eb33]; omega)))⟩ rfl
                · refine ⟨by omega, ?_⟩
                  exact ih_lp _ (show (8 - (c + 1) : Int).toNat < u_lp from by omega) (c + 1) (zd (Nat.lor (zi bt) (zi (zd ((zi 1 * 2 ^ (zi c % 32)) % 4294967296))))) ⟨(show 0 ≤ (c + 1) ∧ (c + 1) ≤ 8 from by omega), (show 0 ≤ (zd (Nat.lor (zi bt) (zi (zd ((zi 1 * 2 ^ (zi c % 32)) % 4294967296))))) ∧ (zd (Nat.lor (zi bt) (zi (zd ((zi 1 * 2 ^ (zi c % 32)) % 4294967296))))) < 256 from (lor_bit (s := bt) (c := c) (j := 0) (by omega) (by omega) (by omega)).1), (show MKs (st 177) (st 170 35) r7 (c + 1) (zd (Nat.lor (zi bt) (zi (zd ((zi 1 * 2 ^ (zi c % 32)) % 4294967296))))) from (MKs_1 mk_lp (by omega) (by omega) (by rw [← eb33]; omega)))⟩ rfl
          exact lp _ 0 (zd ((zi 1 * 2 ^ (zi r7 % 32)) % 4294967296)) ⟨(show 0 ≤ (0 : Int) ∧ (0 : Int) ≤ 8 from by omega), (show 0 ≤ (zd ((zi 1 * 2 ^ (zi r7 % 32)) % 4294967296)) ∧ (zd ((zi 1 * 2 ^ (zi r7 % 32)) % 4294967296)) < 256 from (shl_bit (by omega)).1), (show MKs (st 177) (st 170 35) r7 (0 : Int) (zd ((zi 1 * 2 ^ (zi r7 % 32)) % 4294967296)) from (MKs_0 (by omega)))⟩ rfl
        · have lp : ∀ (u : Nat) (c : Int) (bt : Int), (0 ≤ c ∧ c ≤ 8) ∧ (0 ≤ bt ∧ bt < 256) ∧ (MKs (st 177) (st 170 35) r7 c bt) → (8 - c).toNat = u → K (rx_find rx_m205 46) [(3, .inl c), (2, .inl bt), (1, .inl r7), (0, .inr (.inr (.inl 170)))] [] s8 := by
            intro u_lp
            induction u_lp using Nat.strongRecOn with
            | _ u_lp ih_lp =>
              intro c bt hi hu_lp
              obtain ⟨i_lp, b_lp, mk_lp⟩ := hi
              refine yr1_ok (Rt := Q) (wc := (wcL [(199, k_rCounts t n), (203, k_rKnown t n T), (200, k_rMustJ t n), (0, k_between), (188, k_rNumber t n)])) (stp := [46]) hcm hcl [] 155 ?_
              show (((8 : Int) ≤ c → (170 = 170 ∧ (rq_rKnown t n T bt s8 ∧ (∀ (r96 : Int) (s96 : zS), en_rKnown t n T bt s8 r96 s96 → (170 = 170 ∧ (rq_rMustJ t n (482670241139) s96 ∧ (∀ (s97 : zS), en_rMustJ t n (482670241139) s96 s97 → (170 = 170 ∧ (rq_rNumber t n (1) (99) s97 ∧ (∀ (r98 : Int) (s98 : zS), en_rNumber t n (1) (99) s97 r98 s98 → ((s98 170 8 ≤ (0 : Int) → ((-2147483648 ≤ (14 : Int) * (s98 170 35) ∧ (14 : Int) * (s98 170 35) ≤ 2147483647) ∧ ((0 ≤ s98 170 35 ∧ s98 170 35 < 2) ∧ ((-2147483648 ≤ ((14 : Int) * (s98 170 35)) + (s98 173 (s98 170 35 : Int).toNat) ∧ ((14 : Int) * (s98 170 35)) + (s98 173 (s98 170 35 : Int).toNat) ≤ 2147483647) ∧ ((0 ≤ ((14 : Int) * (s98 170 35)) + (s98 173 (s98 170 35 : Int).toNat) ∧ ((14 : Int) * (s98 170 35)) + (s98 173 (s98 170 35 : Int).toNat) < 28) ∧ ((0 ≤ ((14 : Int) * (s98 170 35)) + (s98 173 (s98 170 35 : Int).toNat) ∧ ((14 : Int) * (s98 170 35)) + (s98 173 (s98 170 35 : Int).toNat) < 28) ∧ ((0 ≤ ((14 : Int) * (s98 170 35)) + (s98 173 (s98 170 35 : Int).toNat) ∧ ((14 : Int) * (s98 170 35)) + (s98 173 (s98 170 35 : Int).toNat) < 28) ∧ ((0 ≤ s98 170 35 ∧ s98 170 35 < 2) ∧ ((-2147483648 ≤ (s98 173 (s98 170 35 : Int).toNat) + 1 ∧ (s98 173 (s98 170 35 : Int).toNat) + 1 ≤ 2147483647) ∧ ((0 ≤ s98 170 35 ∧ s98 170 35 < 2) ∧ ((-2147483648 ≤ (64 : Int) * (s98 170 35) ∧ (64 : Int) * (s98 170 35) ≤ 2147483647) ∧ ((-2147483648 ≤ (8 : Int) * r7 ∧ (8 : Int) * r7 ≤ 2147483647) ∧ ((-2147483648 ≤ ((64 : Int) * (s98 170 35)) + ((8 : Int) * r7) ∧ ((64 : Int) * (s98 170 35)) + ((8 : Int) * r7) ≤ 2147483647) ∧ ((-2147483648 ≤ (((64 : Int) * (s98 170 35)) + ((8 : Int) * r7)) + r96 ∧ (((64 : Int) * (s98 170 35)) + ((8 : Int) * r7)) + r96 ≤ 2147483647) ∧ ((0 ≤ s98 170 35 ∧ s98 170 35 < 2) ∧ ((0 ≤ (((64 : Int) * (s98 170 35)) + ((8 : Int) * r7)) + r96 ∧ (((64 : Int) * (s98 170 35)) + ((8 : Int) * r7)) + r96 < 128) ∧ ((-2147483648 ≤ (64 : Int) * (s98 170 35) ∧ (64 : Int) * (s98 170 35) ≤ 2147483647) ∧ ((-2147483648 ≤ (8 : Int) * r96 ∧ (8 : Int) * r96 ≤ 2147483647) ∧ ((-2147483648 ≤ ((64 : Int) * (s98 170 35)) + ((8 : Int) * r96) ∧ ((64 : Int) * (s98 170 35)) + ((8 : Int) * r96) ≤ 2147483647) ∧ ((-2147483648 ≤ (((64 : Int) * (s98 170 35)) + ((8 : Int) * r96)) + r7 ∧ (((64 : Int) * (s98 170 35)) + ((8 : Int) * r96)) + r7 ≤ 2147483647) ∧ ((0 ≤ s98 170 35 ∧ s98 170 35 < 2) ∧ ((0 ≤ (((64 : Int) * (s98 170 35)) + ((8 : Int) * r96)) + r7 ∧ (((64 : Int) * (s98 170 35)) + ((8 : Int) * r96)) + r7 < 128) ∧ Q none (zup (zup (zup (zup (zup (zup s98 174 (((14 : Int) * (s98 170 35)) + (s98 173 (s98 170 35 : Int).toNat) : Int).toNat r7) 175 (((14 : Int) * (s98 170 35)) + (s98 173 (s98 170 35 : Int).toNat) : Int).toNat r96) 176 (((14 : Int) * (s98 170 35)) + (s98 173 (s98 170 35 : Int).toNat) : Int).toNat r98) 173 (s98 170 35 : Int).toNat ((s98 173 (s98 170 35 : Int).toNat) + 1)) 177 ((((64 : Int) * (s98 170 35)) + ((8 : Int) * r7)) + r96 : Int).toNat ((zup (zup (zup (zup s98 174 (((14 : Int) * (s98 170 35)) + (s98 173 (s98 170 35 : Int).toNat) : Int).toNat r7) 175 (((14 : Int) * (s98 170 35)) + (s98 173 (s98 170 35 : Int).toNat) : Int).toNat r96) 176 (((14 : Int) * (s98 170 35)) + (s98 173 (s98 170 35 : Int).toNat) : Int).toNat r98) 173 (s98 170 35 : Int).toNat ((s98 173 (s98 170 35 : Int).toNat) + 1)) 173 (s98 170 35 : Int).toNat)) 177 ((((64 : Int) * (s98 170 35)) + ((8 : Int) * r96)) + r7 : Int).toNat ((zup (zup (zup (zup s98 174 (((14 : Int) * (s98 170 35)) + (s98 173 (s98 170 35 : Int).toNat) : Int).toNat r7) 175 (((14 : Int) * (s98 170 35)) + (s98 173 (s98 170 35 : Int).toNat) : Int).toNat r96) 176 (((14 : Int) * (s98 170 35)) + (s98 173 (s98 170 35 : Int).toNat) : Int).toNat r98) 173 (s98 170 35 : Int).toNat ((s98 173 (s98 170 35 : Int).toNat) + 1)) 173 (s98 170 35 : Int).toNat)))))))))))))))))))))))) ∧ (¬ (s98 170 8 ≤ (0 : Int)) → Q none s98)))))))))))) ∧ (¬ ((8 : Int) ≤ c) → (170 = 170 ∧ (rq_between (s8 170 35) r7 c s8 ∧ (∀ (r99 : Int), en_between (s8 170 35) r7 c s8 r99 → ((r99 ≤ (0 : Int) → ((-2147483648 ≤ c + 1 ∧ c + 1 ≤ 2147483647) ∧ K (rx_find rx_m205 46) [(3, .inl (c + 1)), (2, .inl (zd (Nat.lor (zi bt) (zi 0)))), (1, .inl r7), (0, .inr (.inr (.inl 170)))] [] s8)) ∧ (¬ (r99 ≤ (0 : Int)) → ((-2147483648 ≤ c + 1 ∧ c + 1 ≤ 2147483647) ∧ K (rx_find rx_m205 46) [(3, .inl (c + 1)), (2, .inl (zd (Nat.lor (zi bt) (zi (zd ((zi 1 * 2 ^ (zi c % 32)) % 4294967296)))))), (1, .inl r7), (0, .inr (.inr (.inl 170)))] [] s8))))))))
              refine ⟨fun h100 => ?_, fun h100 => ?_⟩
              · have g101 := g_faultKind gs8
                have g105 := g_in hG
                have e104 : s6 170 35 = st 170 35 := fs6 170 35 rfl rfl
                have e103 : s7 170 35 = s6 170 35 := fs7 170 35 rfl rfl
                have e102 : s8 170 35 = s7 170 35 := fs8 170 35 rfl rfl
                refine ⟨rfl, ⟨gs8, (show s8 170 8 = 0 → RDr s8 t n from (fun z => absurd z (by omega))), (show RTn (s8 170 35) T s8 from (RTn_e (T := T) (st := st) (by omega) (fun i => (fs8 172 i rfl rfl).trans ((fun i => (fs7 172 i rfl rfl).trans ((fun i => (fs6 172 i rfl rfl).trans ((fun _ => rfl) i)) i)) i)) (fun i => (fs8 190 i rfl rfl).trans ((fun i => (fs7 190 i rfl rfl).trans ((fun i => (fs6 190 i rfl rfl).trans ((fun _ => rfl) i)) i)) i)) rt.1))⟩, fun r96 s96 q96 => ?_⟩
                obtain ⟨gs96, fs96, v96, o96⟩ := q96
                change 0 ≤ r96 ∧ r96 ≤ 7 at v96
                change (s96 170 8 = 0 ∧ s8 170 8 = 0 ∧ ∃ v : Int, tk t n (s8 170 4) 1 v (s96 170 4) ∧ KnP T v r96 ∧ hb bt r96 = 0 ∧ RDr s96 t n) ∨ (0 < s96 170 8 ∧ s8 170 8 = 0 ∧ ¬ ∃ v a e : Int, tk t n (s8 170 4) 1 v e ∧ KnP T v a ∧ hb bt a = 0) ∨ (0 < s96 170 8 ∧ 0 < s8 170 8) at o96
                have g106 := g_faultKind gs96
                have g107 := g_signAt gs8
                have g108 := g_signAt gs96
                have e109 : s96 170 35 = s8 170 35 := fs96 170 35 rfl rfl
                have g110 := g_lexAt gs96
                have g115 := g_codes hG
                have e114 : s6 170 34 = st 170 34 := fs6 170 34 rfl rfl
                have e113 : s7 170 34 = s6 170 34 := fs7 170 34 rfl rfl
                have e112 : s8 170 34 = s7 170 34 := fs8 170 34 rfl rfl
                have e111 : s96 170 34 = s8 170 34 := fs96 170 34 rfl rfl
                rcases o96 with ⟨y96, z96, v96, t96, kn96, hz96, rd96⟩ | ⟨y96, z96, l96⟩ | ⟨y96, z96⟩
                · exfalso; omega
                · exfalso; omega
                · refine ⟨rfl, ⟨gs96, (show s96 170 8 = 0 → RDr s96 t n from (fun z => absurd z (by omega)))⟩, fun s97 q97 => ?_⟩
                  obtain ⟨gs97, fs97, o97⟩ := q97
                  change (s97 170 8 = 0 ∧ s96 170 8 = 0 ∧ tk t n (s96 170 4) 1 (482670241139) (s97 170 4) ∧ RDr s97 t n) ∨ (0 < s97 170 8 ∧ s96 170 8 = 0 ∧ ¬ ∃ e : Int, tk t n (s96 170 4) 1 (482670241139) e) ∨ (0 < s97 170 8 ∧ 0 < s96 170 8) at o97
                  have g116 := g_faultKind gs97
                  have g117 := g_signAt gs97
                  have e118 : s97 170 35 = s96 170 35 := fs97 170 35 rfl rfl
                  have g119 := g_lexAt gs97
                  have e120 : s97 170 34 = s96 170 34 := fs97 170 34 rfl rfl
                  rcases o97 with ⟨y97, z97, t97, rd97⟩ | ⟨y97, z97, l97⟩ | ⟨y97, z97⟩
                  · exfalso; omega
                  · exfalso; omega
                  · refine ⟨rfl, ⟨gs97, (show s97 170 8 = 0 → RDr s97 t n from (fun z => absurd z (by omega)))⟩, fun r98 s98 q98 => ?_⟩
                    obtain ⟨gs98, fs98, v98, o98⟩ := q98
                    change -2147483648 ≤ r98 ∧ r98 ≤ 2147483647 at v98
                    change (s98 170 8 = 0 ∧ s97 170 8 = 0 ∧ (1) ≤ r98 ∧ r98 ≤ (99) ∧ tk t n (s97 170 4) 2 r98 (s98 170 4) ∧ RDr s98 t n) ∨ (0 < s98 170 8 ∧ s97 170 8 = 0 ∧ ¬ ∃ v e : Int, tk t n (s97 170 4) 2 v e ∧ (1) ≤ v ∧ v ≤ (99)) ∨ (0 < s98 170 8 ∧ 0 < s97 170 8) at o98
                    have g121 := g_faultKind gs98
                    have g122 := g_signAt gs98
                    have e123 : s98 170 35 = s97 170 35 := fs98 170 35 rfl rfl
                    have g124 := g_lexAt gs98
                    have e125 : s98 170 34 = s97 170 34 := fs98 170 34 rfl rfl
                    rcases o98 with ⟨y98, z98, a98, b98, t98, rd98⟩ | ⟨y98, z98, l98⟩ | ⟨y98, z98⟩
                    · exfalso; omega
                    · exfalso; omega
                    · refine ⟨fun h126 => (by exfalso; omega), fun h126 => ?_⟩
                      exact hQ _ ⟨gs98, (fr_tr (fr_tr (fr_tr (fr_tr (fr_tr (fr_tr (fr_rf _ _) fs6 rfl) fs7 rfl) fs8 rfl) fs96 rfl) fs97 rfl) fs98 rfl), (show BO (s98 170 8) (RDr s98 t n) (fun T' q => bSt t n T e T' q) (s98 170 4) (fun T' => RT (st 170 35) T' s98) from (by
            refine Or.inl ⟨by omega, fun hx => ?_⟩
            obtain ⟨T', q, hb⟩ := hx
            obtain ⟨h0, v, a, e1, e2, u, y, e3, e4, m, h1, h2, h3, h4, h5, h6, h7, h8, h9, h10, h11, h12⟩ := (show bSt t n T e T' q from hb)
            obtain ⟨-, rfl, rfl⟩ := tk_u (show tk t n e 1 v7 (s7 170 4) from by rw [← ee6]; exact t7) h1
            have ea7 := KnP_u kn7 h2
            subst ea7
            exact l8 ⟨e2, h3⟩))⟩
              · have g130 := g_in hG
                have e129 : s6 170 35 = st 170 35 := fs6 170 35 rfl rfl
                have e128 : s7 170 35 = s6 170 35 := fs7 170 35 rfl rfl
                have e127 : s8 170 35 = s7 170 35 := fs8 170 35 rfl rfl
                refine ⟨rfl, (show 0 ≤ (s8 170 35) ∧ (s8 170 35) ≤ 1 ∧ 0 ≤ r7 ∧ r7 < 8 ∧ 0 ≤ c ∧ c < 8 from by omega), fun r99 q99 => ?_⟩
                have e99 := q99
                change r99 = s8 177 (64 * (s8 170 35) + 8 * r7 + c : Int).toNat at e99
                have eb99 : r99 = st 177 (64 * st 170 35 + 8 * r7 + c : Int).toNat := by rw [e99, show s8 177 = st 177 from funext (fun i => (fs8 177 i rfl rfl).trans ((fun i => (fs7 177 i rfl rfl).trans ((fun i => (fs6 177 i rfl rfl).trans ((fun _ => rfl) i)) i)) i)), show s8 170 35 = st 170 35 from by omega]
                have g134 := g_streetAt hG (64 * (st 170 35) + 8 * r7 + c : Int).toNat
                have e133 : s6 177 (64 * (st 170 35) + 8 * r7 + c : Int).toNat = st 177 (64 * (st 170 35) + 8 * r7 + c : Int).toNat := fs6 177 (64 * (st 170 35) + 8 * r7 + c : Int).toNat rfl rfl
                have e132 : s7 177 (64 * (st 170 35) + 8 * r7 + c : Int).toNat = s6 177 (64 * (st 170 35) + 8 * r7 + c : Int).toNat := fs7 177 (64 * (st 170 35) + 8 * r7 + c : Int).toNat rfl rfl
                have e131 : s8 177 (64 * (s8 170 35) + 8 * r7 + c : Int).toNat = s7 177 (64 * (st 170 35) + 8 * r7 + c : Int).toNat := (fs8 177 (64 * (s8 170 35) + 8 * r7 + c : Int).toNat rfl rfl).trans (by rw [e127, e128, e129] <;> rfl)
                refine ⟨fun h135 => ?_, fun h135 => ?_⟩
                · refine ⟨by omega, ?_⟩
                  exact ih_lp _ (show (8 - (c + 1) : Int).toNat < u_lp from by omega) (c + 1) (zd (Nat.lor (zi bt) (zi 0))) ⟨(show 0 ≤ (c + 1) ∧ (c + 1) ≤ 8 from by omega), (show 0 ≤ (zd (Nat.lor (zi bt) (zi 0))) ∧ (zd (Nat.lor (zi bt) (zi 0))) < 256 from by rw [lor_z (by omega)]; omega), (show MKs (st 177) (st 170 35) r7 (c + 1) (zd (Nat.lor (zi bt) (zi 0))) from (MKs_n mk_lp (by omega) (by rw [← eb99]; omega)))⟩ rfl
                · refine ⟨by omega, ?_⟩
                  exact ih_lp _ (show (8 - (c + 1) : Int).toNat < u_lp from by omega) (c + 1) (zd (Nat.lor (zi bt) (zi (zd ((zi 1 * 2 ^ (zi c % 32)) % 4294967296))))) ⟨(show 0 ≤ (c + 1) ∧ (c + 1) ≤ 8 from by omega), (show 0 ≤ (zd (Nat.lor (zi bt) (zi (zd ((zi 1 * 2 ^ (zi c % 32)) % 4294967296))))) ∧ (zd (Nat.lor (zi bt) (zi (zd ((zi 1 * 2 ^ (zi c % 32)) % 4294967296))))) < 256 from (lor_bit (s := bt) (c := c) (j := 0) (by omega) (by omega) (by omega)).1), (show MKs (st 177) (st 170 35) r7 (c + 1) (zd (Nat.lor (zi bt) (zi (zd ((zi 1 * 2 ^ (zi c % 32)) % 4294967296))))) from (MKs_1 mk_lp (by omega) (by omega) (by rw [← eb99]; omega)))⟩ rfl
          exact lp _ 0 (zd ((zi 1 * 2 ^ (zi r7 % 32)) % 4294967296)) ⟨(show 0 ≤ (0 : Int) ∧ (0 : Int) ≤ 8 from by omega), (show 0 ≤ (zd ((zi 1 * 2 ^ (zi r7 % 32)) % 4294967296)) ∧ (zd ((zi 1 * 2 ^ (zi r7 % 32)) % 4294967296)) < 256 from (shl_bit (by omega)).1), (show MKs (st 177) (st 170 35) r7 (0 : Int) (zd ((zi 1 * 2 ^ (zi r7 % 32)) % 4294967296)) from (MKs_0 (by omega)))⟩ rfl
        · exfalso; omega
      · refine ⟨rfl, ⟨gs7, (show s7 170 8 = 0 → RDr s7 t n from (fun z => absurd z (by omega)))⟩, fun s8 q8 => ?_⟩
        obtain ⟨gs8, fs8, o8⟩ := q8
        change (s8 170 8 = 0 ∧ s7 170 8 = 0 ∧ tk t n (s7 170 4) 1 (29807) (s8 170 4) ∧ RDr s8 t n) ∨ (0 < s8 170 8 ∧ s7 170 8 = 0 ∧ ¬ ∃ e : Int, tk t n (s7 170 4) 1 (29807) e) ∨ (0 < s8 170 8 ∧ 0 < s7 170 8) at o8
        have g136 := g_faultKind gs8
        have g137 := g_signAt gs8
        have e138 : s8 170 35 = s7 170 35 := fs8 170 35 rfl rfl
        have g139 := g_lexAt gs8
        have e140 : s8 170 34 = s7 170 34 := fs8 170 34 rfl rfl
        rcases o8 with ⟨y8, z8, t8, rd8⟩ | ⟨y8, z8, l8⟩ | ⟨y8, z8⟩
        · exfalso; omega
        · exfalso; omega
        · have lp : ∀ (u : Nat) (c : Int) (bt : Int), (0 ≤ c ∧ c ≤ 8) ∧ (0 ≤ bt ∧ bt < 256) ∧ (MKs (st 177) (st 170 35) r7 c bt) → (8 - c).toNat = u → K (rx_find rx_m205 46) [(3, .inl c), (2, .inl bt), (1, .inl r7), (0, .inr (.inr (.inl 170)))] [] s8 := by
            intro u_lp
            induction u_lp using Nat.strongRecOn with
            | _ u_lp ih_lp =>
              intro c bt hi hu_lp
              obtain ⟨i_lp, b_lp, mk_lp⟩ := hi
              refine yr1_ok (Rt := Q) (wc := (wcL [(199, k_rCounts t n), (203, k_rKnown t n T), (200, k_rMustJ t n), (0, k_between), (188, k_rNumber t n)])) (stp := [46]) hcm hcl [] 155 ?_
              show (((8 : Int) ≤ c → (170 = 170 ∧ (rq_rKnown t n T bt s8 ∧ (∀ (r141 : Int) (s141 : zS), en_rKnown t n T bt s8 r141 s141 → (170 = 170 ∧ (rq_rMustJ t n (482670241139) s141 ∧ (∀ (s142 : zS), en_rMustJ t n (482670241139) s141 s142 → (170 = 170 ∧ (rq_rNumber t n (1) (99) s142 ∧ (∀ (r143 : Int) (s143 : zS), en_rNumber t n (1) (99) s142 r143 s143 → ((s143 170 8 ≤ (0 : Int) → ((-2147483648 ≤ (14 : Int) * (s143 170 35) ∧ (14 : Int) * (s143 170 35) ≤ 2147483647) ∧ ((0 ≤ s143 170 35 ∧ s143 170 35 < 2) ∧ ((-2147483648 ≤ ((14 : Int) * (s143 170 35)) + (s143 173 (s143 170 35 : Int).toNat) ∧ ((14 : Int) * (s143 170 35)) + (s143 173 (s143 170 35 : Int).toNat) ≤ 2147483647) ∧ ((0 ≤ ((14 : Int) * (s143 170 35)) + (s143 173 (s143 170 35 : Int).toNat) ∧ ((14 : Int) * (s143 170 35)) + (s143 173 (s143 170 35 : Int).toNat) < 28) ∧ ((0 ≤ ((14 : Int) * (s143 170 35)) + (s143 173 (s143 170 35 : Int).toNat) ∧ ((14 : Int) * (s143 170 35)) + (s143 173 (s143 170 35 : Int).toNat) < 28) ∧ ((0 ≤ ((14 : Int) * (s143 170 35)) + (s143 173 (s143 170 35 : Int).toNat) ∧ ((14 : Int) * (s143 170 35)) + (s143 173 (s143 170 35 : Int).toNat) < 28) ∧ ((0 ≤ s143 170 35 ∧ s143 170 35 < 2) ∧ ((-2147483648 ≤ (s143 173 (s143 170 35 : Int).toNat) + 1 ∧ (s143 173 (s143 170 35 : Int).toNat) + 1 ≤ 2147483647) ∧ ((0 ≤ s143 170 35 ∧ s143 170 35 < 2) ∧ ((-2147483648 ≤ (64 : Int) * (s143 170 35) ∧ (64 : Int) * (s143 170 35) ≤ 2147483647) ∧ ((-2147483648 ≤ (8 : Int) * r7 ∧ (8 : Int) * r7 ≤ 2147483647) ∧ ((-2147483648 ≤ ((64 : Int) * (s143 170 35)) + ((8 : Int) * r7) ∧ ((64 : Int) * (s143 170 35)) + ((8 : Int) * r7) ≤ 2147483647) ∧ ((-2147483648 ≤ (((64 : Int) * (s143 170 35)) + ((8 : Int) * r7)) + r141 ∧ (((64 : Int) * (s143 170 35)) + ((8 : Int) * r7)) + r141 ≤ 2147483647) ∧ ((0 ≤ s143 170 35 ∧ s143 170 35 < 2) ∧ ((0 ≤ (((64 : Int) * (s143 170 35)) + ((8 : Int) * r7)) + r141 ∧ (((64 : Int) * (s143 170 35)) + ((8 : Int) * r7)) + r141 < 128) ∧ ((-2147483648 ≤ (64 : Int) * (s143 170 35) ∧ (64 : Int) * (s143 170 35) ≤ 2147483647) ∧ ((-2147483648 ≤ (8 : Int) * r141 ∧ (8 : Int) * r141 ≤ 2147483647) ∧ ((-2147483648 ≤ ((64 : Int) * (s143 170 35)) + ((8 : Int) * r141) ∧ ((64 : Int) * (s143 170 35)) + ((8 : Int) * r141) ≤ 2147483647) ∧ ((-2147483648 ≤ (((64 : Int) * (s143 170 35)) + ((8 : Int) * r141)) + r7 ∧ (((64 : Int) * (s143 170 35)) + ((8 : Int) * r141)) + r7 ≤ 2147483647) ∧ ((0 ≤ s143 170 35 ∧ s143 170 35 < 2) ∧ ((0 ≤ (((64 : Int) * (s143 170 35)) + ((8 : Int) * r141)) + r7 ∧ (((64 : Int) * (s143 170 35)) + ((8 : Int) * r141)) + r7 < 128) ∧ Q none (zup (zup (zup (zup (zup (zup s143 174 (((14 : Int) * (s143 170 35)) + (s143 173 (s143 170 35 : Int).toNat) : Int).toNat r7) 175 (((14 : Int) * (s143 170 35)) + (s143 173 (s143 170 35 : Int).toNat) : Int).toNat r141) 176 (((14 : Int) * (s143 170 35)) + (s143 173 (s143 170 35 : Int).toNat) : Int).toNat r143) 173 (s143 170 35 : Int).toNat ((s143 173 (s143 170 35 : Int).toNat) + 1)) 177 ((((64 : Int) * (s143 170 35)) + ((8 : Int) * r7)) + r141 : Int).toNat ((zup (zup (zup (zup s143 174 (((14 : Int) * (s143 170 35)) + (s143 173 (s143 170 35 : Int).toNat) : Int).toNat r7) 175 (((14 : Int) * (s143 170 35)) + (s143 173 (s143 170 35 : Int).toNat) : Int).toNat r141) 176 (((14 : Int) * (s143 170 35)) + (s143 173 (s143 170 35 : Int).toNat) : Int).toNat r143) 173 (s143 170 35 : Int).toNat ((s143 173 (s143 170 35 : Int).toNat) + 1)) 173 (s143 170 35 : Int).toNat)) 177 ((((64 : Int) * (s143 170 35)) + ((8 : Int) * r141)) + r7 : Int).toNat ((zup (zup (zup (zup s143 174 (((14 : Int) * (s143 170 35)) + (s143 173 (s143 170 35 : Int).toNat) : Int).toNat r7) 175 (((14 : Int) * (s143 170 35)) + (s143 173 (s143 170 35 : Int).toNat) : Int).toNat r141) 176 (((14 : Int) * (s143 170 35)) + (s143 173 (s143 170 35 : Int).toNat) : Int).toNat r143) 173 (s143 170 35 : Int).toNat ((s143 173 (s143 170 35 : Int).toNat) + 1)) 173 (s143 170 35 : Int).toNat)))))))))))))))))))))))) ∧ (¬ (s143 170 8 ≤ (0 : Int)) → Q none s143)))))))))))) ∧ (¬ ((8 : Int) ≤ c) → (170 = 170 ∧ (rq_between (s8 170 35) r7 c s8 ∧ (∀ (r144 : Int), en_between (s8 170 35) r7 c s8 r144 → ((r144 ≤ (0 : Int) → ((-2147483648 ≤ c + 1 ∧ c + 1 ≤ 2147483647) ∧ K (rx_find rx_m205 46) [(3, .inl (c + 1)), (2, .inl (zd (Nat.lor (zi bt) (zi 0)))), (1, .inl r7), (0, .inr (.inr (.inl 170)))] [] s8)) ∧ (¬ (r144 ≤ (0 : Int)) → ((-2147483648 ≤ c + 1 ∧ c + 1 ≤ 2147483647) ∧ K (rx_find rx_m205 46) [(3, .inl (c + 1)), (2, .inl (zd (Nat.lor (zi bt) (zi (zd ((zi 1 * 2 ^ (zi c % 32)) % 4294967296)))))), (1, .inl r7), (0, .inr (.inr (.inl 170)))] [] s8))))))))
              refine ⟨fun h145 => ?_, fun h145 => ?_⟩
              · have g146 := g_faultKind gs8
                have g150 := g_in hG
                have e149 : s6 170 35 = st 170 35 := fs6 170 35 rfl rfl
                have e148 : s7 170 35 = s6 170 35 := fs7 170 35 rfl rfl
                have e147 : s8 170 35 = s7 170 35 := fs8 170 35 rfl rfl
                refine ⟨rfl, ⟨gs8, (show s8 170 8 = 0 → RDr s8 t n from (fun z => absurd z (by omega))), (show RTn (s8 170 35) T s8 from (RTn_e (T := T) (st := st) (by omega) (fun i => (fs8 172 i rfl rfl).trans ((fun i => (fs7 172 i rfl rfl).trans ((fun i => (fs6 172 i rfl rfl).trans ((fun _ => rfl) i)) i)) i)) (fun i => (fs8 190 i rfl rfl).trans ((fun i => (fs7 190 i rfl rfl).trans ((fun i => (fs6 190 i rfl rfl).trans ((fun _ => rfl) i)) i)) i)) rt.1))⟩, fun r141 s141 q141 => ?_⟩
                obtain ⟨gs141, fs141, v141, o141⟩ := q141
                change 0 ≤ r141 ∧ r141 ≤ 7 at v141
                change (s141 170 8 = 0 ∧ s8 170 8 = 0 ∧ ∃ v : Int, tk t n (s8 170 4) 1 v (s141 170 4) ∧ KnP T v r141 ∧ hb bt r141 = 0 ∧ RDr s141 t n) ∨ (0 < s141 170 8 ∧ s8 170 8 = 0 ∧ ¬ ∃ v a e : Int, tk t n (s8 170 4) 1 v e ∧ KnP T v a ∧ hb bt a = 0) ∨ (0 < s141 170 8 ∧ 0 < s8 170 8) at o141
                have g151 := g_faultKind gs141
                have g152 := g_signAt gs8
                have g153 := g_signAt gs141
                have e154 : s141 170 35 = s8 170 35 := fs141 170 35 rfl rfl
                have g155 := g_lexAt gs141
                have g160 := g_codes hG
                have e159 : s6 170 34 = st 170 34 := fs6 170 34 rfl rfl
                have e158 : s7 170 34 = s6 170 34 := fs7 170 34 rfl rfl
                have e157 : s8 170 34 = s7 170 34 := fs8 170 34 rfl rfl
                have e156 : s141 170 34 = s8 170 34 := fs141 170 34 rfl rfl
                rcases o141 with ⟨y141, z141, v141, t141, kn141, hz141, rd141⟩ | ⟨y141, z141, l141⟩ | ⟨y141, z141⟩
                · exfalso; omega
                · exfalso; omega
                · refine ⟨rfl, ⟨gs141, (show s141 170 8 = 0 → RDr s141 t n from (fun z => absurd z (by omega)))⟩, fun s142 q142 => ?_⟩
                  obtain ⟨gs142, fs142, o142⟩ := q142
                  change (s142 170 8 = 0 ∧ s141 170 8 = 0 ∧ tk t n (s141 170 4) 1 (482670241139) (s142 170 4) ∧ RDr s142 t n) ∨ (0 < s142 170 8 ∧ s141 170 8 = 0 ∧ ¬ ∃ e : Int, tk t n (s141 170 4) 1 (482670241139) e) ∨ (0 < s142 170 8 ∧ 0 < s141 170 8) at o142
                  have g161 := g_faultKind gs142
                  have g162 := g_signAt gs142
                  have e163 : s142 170 35 = s141 170 35 := fs142 170 35 rfl rfl
                  have g164 := g_lexAt gs142
                  have e165 : s142 170 34 = s141 170 34 := fs142 170 34 rfl rfl
                  rcases o142 with ⟨y142, z142, t142, rd142⟩ | ⟨y142, z142, l142⟩ | ⟨y142, z142⟩
                  · exfalso; omega
                  · exfalso; omega
                  · refine ⟨rfl, ⟨gs142, (show s142 170 8 = 0 → RDr s142 t n from (fun z => absurd z (by omega)))⟩, fun r143 s143 q143 => ?_⟩
                    obtain ⟨gs143, fs143, v143, o143⟩ := q143
                    change -2147483648 ≤ r143 ∧ r143 ≤ 2147483647 at v143
                    change (s143 170 8 = 0 ∧ s142 170 8 = 0 ∧ (1) ≤ r143 ∧ r143 ≤ (99) ∧ tk t n (s142 170 4) 2 r143 (s143 170 4) ∧ RDr s143 t n) ∨ (0 < s143 170 8 ∧ s142 170 8 = 0 ∧ ¬ ∃ v e : Int, tk t n (s142 170 4) 2 v e ∧ (1) ≤ v ∧ v ≤ (99)) ∨ (0 < s143 170 8 ∧ 0 < s142 170 8) at o143
                    have g166 := g_faultKind gs143
                    have g167 := g_signAt gs143
                    have e168 : s143 170 35 = s142 170 35 := fs143 170 35 rfl rfl
                    have g169 := g_lexAt gs143
                    have e170 : s143 170 34 = s142 170 34 := fs143 170 34 rfl rfl
                    rcases o143 with ⟨y143, z143, a143, b143, t143, rd143⟩ | ⟨y143, z143, l143⟩ | ⟨y143, z143⟩
                    · exfalso; omega
                    · exfalso; omega
                    · refine ⟨fun h171 => (by exfalso; omega), fun h171 => ?_⟩
                      exact hQ _ ⟨gs143, (fr_tr (fr_tr (fr_tr (fr_tr (fr_tr (fr_tr (fr_rf _ _) fs6 rfl) fs7 rfl) fs8 rfl) fs141 rfl) fs142 rfl) fs143 rfl), (show BO (s143 170 8) (RDr s143 t n) (fun T' q => bSt t n T e T' q) (s143 170 4) (fun T' => RT (st 170 35) T' s143) from (by
            refine Or.inl ⟨by omega, fun hx => ?_⟩
            obtain ⟨T', q, hb⟩ := hx
            obtain ⟨h0, v, a, e1, e2, u, y, e3, e4, m, h1, h2, h3, h4, h5, h6, h7, h8, h9, h10, h11, h12⟩ := (show bSt t n T e T' q from hb)
            have kb := KnP_b h2
            exact l7 ⟨v, a, e1, (by rw [ee6]; exact h1), h2, hb_0 (by omega)⟩))⟩
              · have g175 := g_in hG
                have e174 : s6 170 35 = st 170 35 := fs6 170 35 rfl rfl
                have e173 : s7 170 35 = s6 170 35 := fs7 170 35 rfl rfl
                have e172 : s8 170 35 = s7 170 35 := fs8 170 35 rfl rfl
                refine ⟨rfl, (show 0 ≤ (s8 170 35) ∧ (s8 170 35) ≤ 1 ∧ 0 ≤ r7 ∧ r7 < 8 ∧ 0 ≤ c ∧ c < 8 from by omega), fun r144 q144 => ?_⟩
                have e144 := q144
                change r144 = s8 177 (64 * (s8 170 35) + 8 * r7 + c : Int).toNat at e144
                have eb144 : r144 = st 177 (64 * st 170 35 + 8 * r7 + c : Int).toNat := by rw [e144, show s8 177 = st 177 from funext (fun i => (fs8 177 i rfl rfl).trans ((fun i => (fs7 177 i rfl rfl).trans ((fun i => (fs6 177 i rfl rfl).trans ((fun _ => rfl) i)) i)) i)), show s8 170 35 = st 170 35 from by omega]
                have g179 := g_streetAt hG (64 * (st 170 35) + 8 * r7 + c : Int).toNat
                have e178 : s6 177 (64 * (st 170 35) + 8 * r7 + c : Int).toNat = st 177 (64 * (st 170 35) + 8 * r7 + c : Int).toNat := fs6 177 (64 * (st 170 35) + 8 * r7 + c : Int).toNat rfl rfl
                have e177 : s7 177 (64 * (st 170 35) + 8 * r7 + c : Int).toNat = s6 177 (64 * (st 170 35) + 8 * r7 + c : Int).toNat := fs7 177 (64 * (st 170 35) + 8 * r7 + c : Int).toNat rfl rfl
                have e176 : s8 177 (64 * (s8 170 35) + 8 * r7 + c : Int).toNat = s7 177 (64 * (st 170 35) + 8 * r7 + c : Int).toNat := (fs8 177 (64 * (s8 170 35) + 8 * r7 + c : Int).toNat rfl rfl).trans (by rw [e172, e173, e174] <;> rfl)
                refine ⟨fun h180 => ?_, fun h180 => ?_⟩
                · refine ⟨by omega, ?_⟩
                  exact ih_lp _ (show (8 - (c + 1) : Int).toNat < u_lp from by omega) (c + 1) (zd (Nat.lor (zi bt) (zi 0))) ⟨(show 0 ≤ (c + 1) ∧ (c + 1) ≤ 8 from by omega), (show 0 ≤ (zd (Nat.lor (zi bt) (zi 0))) ∧ (zd (Nat.lor (zi bt) (zi 0))) < 256 from by rw [lor_z (by omega)]; omega), (show MKs (st 177) (st 170 35) r7 (c + 1) (zd (Nat.lor (zi bt) (zi 0))) from (MKs_n mk_lp (by omega) (by rw [← eb144]; omega)))⟩ rfl
                · refine ⟨by omega, ?_⟩
                  exact ih_lp _ (show (8 - (c + 1) : Int).toNat < u_lp from by omega) (c + 1) (zd (Nat.lor (zi bt) (zi (zd ((zi 1 * 2 ^ (zi c % 32)) % 4294967296))))) ⟨(show 0 ≤ (c + 1) ∧ (c + 1) ≤ 8 from by omega), (show 0 ≤ (zd (Nat.lor (zi bt) (zi (zd ((zi 1 * 2 ^ (zi c % 32)) % 4294967296))))) ∧ (zd (Nat.lor (zi bt) (zi (zd ((zi 1 * 2 ^ (zi c % 32)) % 4294967296))))) < 256 from (lor_bit (s := bt) (c := c) (j := 0) (by omega) (by omega) (by omega)).1), (show MKs (st 177) (st 170 35) r7 (c + 1) (zd (Nat.lor (zi bt) (zi (zd ((zi 1 * 2 ^ (zi c % 32)) % 4294967296))))) from (MKs_1 mk_lp (by omega) (by omega) (by rw [← eb144]; omega)))⟩ rfl
          exact lp _ 0 (zd ((zi 1 * 2 ^ (zi r7 % 32)) % 4294967296)) ⟨(show 0 ≤ (0 : Int) ∧ (0 : Int) ≤ 8 from by omega), (show 0 ≤ (zd ((zi 1 * 2 ^ (zi r7 % 32)) % 4294967296)) ∧ (zd ((zi 1 * 2 ^ (zi r7 % 32)) % 4294967296)) < 256 from (shl_bit (by omega)).1), (show MKs (st 177) (st 170 35) r7 (0 : Int) (zd ((zi 1 * 2 ^ (zi r7 % 32)) % 4294967296)) from (MKs_0 (by omega)))⟩ rfl
      · exfalso; omega
    · exfalso; omega
    · exfalso; omega
  · refine ⟨rfl, ⟨hG, (show RDr st t n from rd), (show st 170 8 = 0 ∧ st 170 12 = -1 ∧ ((1) = 0 ∨ (1) = 1) from by omega)⟩, fun r9 s9 q9 => ?_⟩
    obtain ⟨gs9, fs9, o9⟩ := q9
    change (s9 170 8 = 0 ∧ st 170 8 = 0 ∧ r9 = 1 ∧ (1) = 0 ∧ RDr s9 t n ∧ NXr st s9 t n) ∨ (0 < s9 170 8 ∧ st 170 8 = 0 ∧ r9 = 0 ∧ (1) = 1) ∨ (0 < s9 170 8 ∧ 0 < st 170 8) at o9
    have g181 := g_faultKind gs9
    have e182 : s9 170 35 = st 170 35 := fs9 170 35 rfl rfl
    have g183 := g_signAt gs9
    have g184 := g_lexAt gs9
    have e185 : s9 170 34 = st 170 34 := fs9 170 34 rfl rfl
    rcases o9 with ⟨y9, z9, k9, f9, rd9, nx9⟩ | ⟨y9, z9, k9, f9⟩ | ⟨y9, z9⟩
    · exfalso; omega
    · refine ⟨fun h186 => (by exfalso; omega), fun h186 => ?_⟩
      exact hQ _ ⟨gs9, (fr_tr (fr_rf _ _) fs9 rfl), (show BO (s9 170 8) (RDr s9 t n) (fun T' q => bSt t n T e T' q) (s9 170 4) (fun T' => RT (st 170 35) T' s9) from (by
            refine Or.inl ⟨by omega, fun hx => ?_⟩
            obtain ⟨T', q, hb⟩ := hx
            obtain ⟨h0, v, a, e1, e2, u, y, e3, e4, m, h1, h2, h3, h4, h5, h6, h7, h8, h9, h10, h11, h12⟩ := (show bSt t n T e T' q from hb)
            omega))⟩
    · exfalso; omega
theorem k_rStreeting_m (hTb : aTb zSh rx_tb cl) {t : Int → Int} {n : Int} {T : zS} {wv e : Int} {D : Nat} (hD : 4 ≤ D) : ∀ as st (Q Q' : zQ), (∀ r st', Q r st' → Q' r st') → (k_rStreeting t n T wv e) 205 as st Q → cl D 205 as st Q' := by
  intro as st Q Q' hQ h
  unfold k_rStreeting at h
  split at h
  · obtain ⟨rfl, h⟩ := h
    exact c_rStreeting hTb hD (ct_rStreeting_m hQ h)
  · exact h.elim
end Rz9
