/-! printed by wip/pw/r/q8.py: small parts of the reference's statements -/
def m_rLexX : aM := ([(170, 8), (170, 9)], [])
def rq_rLexX  (st : zS) : Prop := gInv zgt st
def en_rLexX  (st : zS) (s1 : zS) : Prop := gInv zgt s1 ∧ aFr m_rLexX st s1 ∧ ((0 < st 170 8 → 0 < s1 170 8) ∧ (st 170 8 = 0 → st 170 12 = -1 → s1 170 8 = 0) ∧ (¬ st 170 12 = -1 → 0 < s1 170 8))
def ct_rLexX  (st : zS) (Q : zQ) : Prop := rq_rLexX  st ∧ (∀ (s1 : zS), en_rLexX  st s1 → Q none s1)
theorem ct_rLexX_m {st : zS} {Q Q' : zQ} (hQ : ∀ r st', Q r st' → Q' r st') (h : ct_rLexX  st Q) : ct_rLexX  st Q' := ⟨h.1, fun x0 x1 => hQ _ _ (h.2 x0 x1)⟩
def k_rLexX : zCall := fun _ as st Q => match as with
  | [.inr (.inr (.inl z_o))] => z_o = 170 ∧ ct_rLexX  st Q
  | _ => False
def en_rIsOwn (w : Int) (st : zS) (r : Int) : Prop := ((r = 1 ∧ ¬ NOwn w) ∨ (r = 0 ∧ NOwn w))
def ct_rIsOwn (w : Int) (st : zS) (Q : zQ) : Prop := ∀ (r : Int), en_rIsOwn w st r → Q (some (.inl r)) st
theorem ct_rIsOwn_m {w : Int} {st : zS} {Q Q' : zQ} (hQ : ∀ r st', Q r st' → Q' r st') (h : ct_rIsOwn w st Q) : ct_rIsOwn w st Q' := fun x0 x1 => hQ _ _ (h x0 x1)
def k_rIsOwn : zCall := fun _ as st Q => match as with
  | [.inr (.inr (.inl z_o)), .inr (.inl w)] => z_o = 170 ∧ ct_rIsOwn w st Q
  | _ => False
def rq_rNameOf (b : Int) (k : Int) (i : Int) (st : zS) : Prop := (0 ≤ b ∧ b ≤ 1 ∧ 0 ≤ i ∧ i < 8)
def en_rNameOf (b : Int) (k : Int) (i : Int) (st : zS) (r : Int) : Prop := ((k = 0 → r = st 190 (8 * b + i : Int).toNat) ∧ (¬ k = 0 → r = st 191 (8 * b + i : Int).toNat))
def ct_rNameOf (b : Int) (k : Int) (i : Int) (st : zS) (Q : zQ) : Prop := rq_rNameOf b k i st ∧ (∀ (r : Int), en_rNameOf b k i st r → Q (some (.inr (.inl r))) st)
theorem ct_rNameOf_m {b k i : Int} {st : zS} {Q Q' : zQ} (hQ : ∀ r st', Q r st' → Q' r st') (h : ct_rNameOf b k i st Q) : ct_rNameOf b k i st Q' := ⟨h.1, fun x0 x1 => hQ _ _ (h.2 x0 x1)⟩
def k_rNameOf : zCall := fun _ as st Q => match as with
  | [.inr (.inr (.inl z_o)), .inl b, .inl k, .inl i] => z_o = 170 ∧ ct_rNameOf b k i st Q
  | _ => False
def rq_rNamed (k : Int) (w : Int) (st : zS) : Prop := gInv zgt st
def en_rNamed (k : Int) (w : Int) (st : zS) (r : Int) : Prop := (-1 ≤ r ∧ r < 8) ∧ ((k = 0 → NMD (st 170 35) (st 172 (st 170 35 : Int).toNat) w r (st 190)) ∧ (¬ k = 0 → NMD (st 170 35) (st 181 (st 170 35 : Int).toNat) w r (st 191)))
def ct_rNamed (k : Int) (w : Int) (st : zS) (Q : zQ) : Prop := rq_rNamed k w st ∧ (∀ (r : Int), en_rNamed k w st r → Q (some (.inl r)) st)
theorem ct_rNamed_m {k w : Int} {st : zS} {Q Q' : zQ} (hQ : ∀ r st', Q r st' → Q' r st') (h : ct_rNamed k w st Q) : ct_rNamed k w st Q' := ⟨h.1, fun x0 x1 => hQ _ _ (h.2 x0 x1)⟩
def k_rNamed : zCall := fun _ as st Q => match as with
  | [.inr (.inr (.inl z_o)), .inl k, .inr (.inl w)] => z_o = 170 ∧ ct_rNamed k w st Q
  | _ => False
def m_rMustI : aM := ([(170, 3), (170, 4), (170, 5), (170, 6), (170, 7), (170, 8), (170, 9), (170, 12)], [])
def rq_rMustI (t : Int → Int) (n : Int) (w : Int) (st : zS) : Prop := gInv zgt st ∧ (st 170 8 = 0 → RDr st t n)
def en_rMustI (t : Int → Int) (n : Int) (w : Int) (st : zS) (s1 : zS) : Prop := gInv zgt s1 ∧ aFr m_rMustI st s1 ∧ ((s1 170 8 = 0 ∧ st 170 8 = 0 ∧ tk t n (st 170 4) 3 w (s1 170 4) ∧ RDr s1 t n) ∨ (0 < s1 170 8 ∧ st 170 8 = 0 ∧ ¬ ∃ e : Int, tk t n (st 170 4) 3 w e) ∨ (0 < s1 170 8 ∧ 0 < st 170 8))
def ct_rMustI (t : Int → Int) (n : Int) (w : Int) (st : zS) (Q : zQ) : Prop := rq_rMustI t n w st ∧ (∀ (s1 : zS), en_rMustI t n w st s1 → Q none s1)
theorem ct_rMustI_m {t : Int → Int} {n : Int} {w : Int} {st : zS} {Q Q' : zQ} (hQ : ∀ r st', Q r st' → Q' r st') (h : ct_rMustI t n w st Q) : ct_rMustI t n w st Q' := ⟨h.1, fun x0 x1 => hQ _ _ (h.2 x0 x1)⟩
def k_rMustI (t : Int → Int) (n : Int) : zCall := fun _ as st Q => match as with
  | [.inr (.inr (.inl z_o)), .inl w] => z_o = 170 ∧ ct_rMustI t n w st Q
  | _ => False
def m_rMustJ : aM := ([(170, 3), (170, 4), (170, 5), (170, 6), (170, 7), (170, 8), (170, 9), (170, 12)], [])
def rq_rMustJ (t : Int → Int) (n : Int) (w : Int) (st : zS) : Prop := gInv zgt st ∧ (st 170 8 = 0 → RDr st t n)
def en_rMustJ (t : Int → Int) (n : Int) (w : Int) (st : zS) (s1 : zS) : Prop := gInv zgt s1 ∧ aFr m_rMustJ st s1 ∧ ((s1 170 8 = 0 ∧ st 170 8 = 0 ∧ tk t n (st 170 4) 1 w (s1 170 4) ∧ RDr s1 t n) ∨ (0 < s1 170 8 ∧ st 170 8 = 0 ∧ ¬ ∃ e : Int, tk t n (st 170 4) 1 w e) ∨ (0 < s1 170 8 ∧ 0 < st 170 8))
def ct_rMustJ (t : Int → Int) (n : Int) (w : Int) (st : zS) (Q : zQ) : Prop := rq_rMustJ t n w st ∧ (∀ (s1 : zS), en_rMustJ t n w st s1 → Q none s1)
theorem ct_rMustJ_m {t : Int → Int} {n : Int} {w : Int} {st : zS} {Q Q' : zQ} (hQ : ∀ r st', Q r st' → Q' r st') (h : ct_rMustJ t n w st Q) : ct_rMustJ t n w st Q' := ⟨h.1, fun x0 x1 => hQ _ _ (h.2 x0 x1)⟩
def k_rMustJ (t : Int → Int) (n : Int) : zCall := fun _ as st Q => match as with
  | [.inr (.inr (.inl z_o)), .inr (.inl w)] => z_o = 170 ∧ ct_rMustJ t n w st Q
  | _ => False
def m_rNumber : aM := ([(170, 3), (170, 4), (170, 5), (170, 6), (170, 7), (170, 8), (170, 9), (170, 12)], [])
def rq_rNumber (t : Int → Int) (n : Int) (a : Int) (b : Int) (st : zS) : Prop := gInv zgt st ∧ (st 170 8 = 0 → RDr st t n)
def en_rNumber (t : Int → Int) (n : Int) (a : Int) (b : Int) (st : zS) (r : Int) (s1 : zS) : Prop := gInv zgt s1 ∧ aFr m_rNumber st s1 ∧ (-2147483648 ≤ r ∧ r ≤ 2147483647) ∧ ((s1 170 8 = 0 ∧ st 170 8 = 0 ∧ a ≤ r ∧ r ≤ b ∧ tk t n (st 170 4) 2 r (s1 170 4) ∧ RDr s1 t n) ∨ (0 < s1 170 8 ∧ st 170 8 = 0 ∧ ¬ ∃ v e : Int, tk t n (st 170 4) 2 v e ∧ a ≤ v ∧ v ≤ b) ∨ (0 < s1 170 8 ∧ 0 < st 170 8))
def ct_rNumber (t : Int → Int) (n : Int) (a : Int) (b : Int) (st : zS) (Q : zQ) : Prop := rq_rNumber t n a b st ∧ (∀ (r : Int) (s1 : zS), en_rNumber t n a b st r s1 → Q (some (.inl r)) s1)
theorem ct_rNumber_m {t : Int → Int} {n : Int} {a b : Int} {st : zS} {Q Q' : zQ} (hQ : ∀ r st', Q r st' → Q' r st') (h : ct_rNumber t n a b st Q) : ct_rNumber t n a b st Q' := ⟨h.1, fun x0 x1 x2 => hQ _ _ (h.2 x0 x1 x2)⟩
def k_rNumber (t : Int → Int) (n : Int) : zCall := fun _ as st Q => match as with
  | [.inr (.inr (.inl z_o)), .inl a, .inl b] => z_o = 170 ∧ ct_rNumber t n a b st Q
  | _ => False
def m_rCounts : aM := ([(170, 3), (170, 4), (170, 5), (170, 6), (170, 7), (170, 8), (170, 9), (170, 12)], [])
def rq_rCounts (t : Int → Int) (n : Int) (f : Int) (st : zS) : Prop := gInv zgt st ∧ (RDr st t n) ∧ (st 170 8 = 0 ∧ st 170 12 = -1 ∧ (f = 0 ∨ f = 1))
def en_rCounts (t : Int → Int) (n : Int) (f : Int) (st : zS) (r : Int) (s1 : zS) : Prop := gInv zgt s1 ∧ aFr m_rCounts st s1 ∧ ((s1 170 8 = 0 ∧ st 170 8 = 0 ∧ r = 1 ∧ f = 0 ∧ RDr s1 t n ∧ NXr st s1 t n) ∨ (0 < s1 170 8 ∧ st 170 8 = 0 ∧ r = 0 ∧ f = 1) ∨ (0 < s1 170 8 ∧ 0 < st 170 8))
def ct_rCounts (t : Int → Int) (n : Int) (f : Int) (st : zS) (Q : zQ) : Prop := rq_rCounts t n f st ∧ (∀ (r : Int) (s1 : zS), en_rCounts t n f st r s1 → Q (some (.inl r)) s1)
theorem ct_rCounts_m {t : Int → Int} {n : Int} {f : Int} {st : zS} {Q Q' : zQ} (hQ : ∀ r st', Q r st' → Q' r st') (h : ct_rCounts t n f st Q) : ct_rCounts t n f st Q' := ⟨h.1, fun x0 x1 x2 => hQ _ _ (h.2 x0 x1 x2)⟩
def k_rCounts (t : Int → Int) (n : Int) : zCall := fun _ as st Q => match as with
  | [.inr (.inr (.inl z_o)), .inl f] => z_o = 170 ∧ ct_rCounts t n f st Q
  | _ => False
def m_rFresh : aM := ([(170, 3), (170, 4), (170, 5), (170, 6), (170, 7), (170, 8), (170, 9), (170, 12)], [])
def rq_rFresh (t : Int → Int) (n : Int) (T : zS) (st : zS) : Prop := gInv zgt st ∧ (st 170 8 = 0 → RDr st t n) ∧ (RTn (st 170 35) T st) ∧ (RTt (st 170 35) T st)
def en_rFresh (t : Int → Int) (n : Int) (T : zS) (st : zS) (r : Int) (s1 : zS) : Prop := gInv zgt s1 ∧ aFr m_rFresh st s1 ∧ (-9223372036854775808 ≤ r ∧ r ≤ 9223372036854775807) ∧ ((s1 170 8 = 0 ∧ st 170 8 = 0 ∧ ∃ x : Int, tk t n (st 170 4) 1 r (s1 170 4) ∧ NOwn r ∧ isN6 r x ∧ FrN T x ∧ RDr s1 t n) ∨ (0 < s1 170 8 ∧ st 170 8 = 0 ∧ ¬ ∃ v x e : Int, tk t n (st 170 4) 1 v e ∧ NOwn v ∧ isN6 v x ∧ FrN T x) ∨ (0 < s1 170 8 ∧ 0 < st 170 8))
def ct_rFresh (t : Int → Int) (n : Int) (T : zS) (st : zS) (Q : zQ) : Prop := rq_rFresh t n T st ∧ (∀ (r : Int) (s1 : zS), en_rFresh t n T st r s1 → Q (some (.inr (.inl r))) s1)
theorem ct_rFresh_m {t : Int → Int} {n : Int} {T : zS} {st : zS} {Q Q' : zQ} (hQ : ∀ r st', Q r st' → Q' r st') (h : ct_rFresh t n T st Q) : ct_rFresh t n T st Q' := ⟨h.1, fun x0 x1 x2 => hQ _ _ (h.2 x0 x1 x2)⟩
def k_rFresh (t : Int → Int) (n : Int) (T : zS) : zCall := fun _ as st Q => match as with
  | [.inr (.inr (.inl z_o))] => z_o = 170 ∧ ct_rFresh t n T st Q
  | _ => False
def m_rKnown : aM := ([(170, 3), (170, 4), (170, 5), (170, 6), (170, 7), (170, 8), (170, 9), (170, 12)], [])
def rq_rKnown (t : Int → Int) (n : Int) (T : zS) (u : Int) (st : zS) : Prop := gInv zgt st ∧ (st 170 8 = 0 → RDr st t n) ∧ (RTn (st 170 35) T st)
def en_rKnown (t : Int → Int) (n : Int) (T : zS) (u : Int) (st : zS) (r : Int) (s1 : zS) : Prop := gInv zgt s1 ∧ aFr m_rKnown st s1 ∧ (0 ≤ r ∧ r ≤ 7) ∧ ((s1 170 8 = 0 ∧ st 170 8 = 0 ∧ ∃ v : Int, tk t n (st 170 4) 1 v (s1 170 4) ∧ KnP T v r ∧ hb u r = 0 ∧ RDr s1 t n) ∨ (0 < s1 170 8 ∧ st 170 8 = 0 ∧ ¬ ∃ v a e : Int, tk t n (st 170 4) 1 v e ∧ KnP T v a ∧ hb u a = 0) ∨ (0 < s1 170 8 ∧ 0 < st 170 8))
def ct_rKnown (t : Int → Int) (n : Int) (T : zS) (u : Int) (st : zS) (Q : zQ) : Prop := rq_rKnown t n T u st ∧ (∀ (r : Int) (s1 : zS), en_rKnown t n T u st r s1 → Q (some (.inl r)) s1)
theorem ct_rKnown_m {t : Int → Int} {n : Int} {T : zS} {u : Int} {st : zS} {Q Q' : zQ} (hQ : ∀ r st', Q r st' → Q' r st') (h : ct_rKnown t n T u st Q) : ct_rKnown t n T u st Q' := ⟨h.1, fun x0 x1 x2 => hQ _ _ (h.2 x0 x1 x2)⟩
def k_rKnown (t : Int → Int) (n : Int) (T : zS) : zCall := fun _ as st Q => match as with
  | [.inr (.inr (.inl z_o)), .inl u] => z_o = 170 ∧ ct_rKnown t n T u st Q
  | _ => False
section Rz8
variable {cl : Nat → zCall}
set_option maxHeartbeats 4000000 in
set_option maxRecDepth 100000 in
theorem c_rLexX (hTb : aTb zSh rx_tb cl) {D : Nat} (hD : 2 ≤ D) {st : zS} {Q : zQ} (h : ct_rLexX  st Q) : cl D 181 [.inr (.inr (.inl 170))] st Q := by
  obtain ⟨d, rfl⟩ : ∃ d, D = d + 1 := ⟨D - 1, by omega⟩
  refine hTb d 181 (rx_m181, 1, 0, 0, 0) rfl _ _ _ (Nat.le_of_ble_eq_true rfl) (fun K hcl hsf hsl => ?_)
  have hcm : zmo (wcL [(178, k_blame)]) (cl d) := (wcL_m (wm_cons (k_blame_m hTb (by omega)) wm_nil))
  obtain ⟨hR, hQ⟩ := h
  have hG := hR
  have g1 := g_faultKind hG
  have g2 := g_lexAt hG
  refine yr1_ok (Rt := Q) (wc := (wcL [(178, k_blame)])) (stp := []) hcm hcl [] 30 ?_
  show ((st 170 12 = ((-1) : Int) → Q none st) ∧ (¬ (st 170 12 = ((-1) : Int)) → (170 = 170 ∧ (rq_blame (1) (st 170 12) st ∧ (∀ (s3 : zS), en_blame (1) (st 170 12) st s3 → Q none s3)))))
  refine ⟨fun h4 => ?_, fun h4 => ?_⟩
  · exact hQ _ ⟨hG, (fr_rf _ _), (show (0 < st 170 8 → 0 < st 170 8) ∧ (st 170 8 = 0 → st 170 12 = -1 → st 170 8 = 0) ∧ (¬ st 170 12 = -1 → 0 < st 170 8) from by omega)⟩
  · refine ⟨rfl, ⟨hG, (show 1 ≤ (1) ∧ (1) ≤ 6 from by omega), (show -2147483648 ≤ (st 170 12) ∧ (st 170 12) ≤ 2147483647 from by omega)⟩, fun s3 q3 => ?_⟩
    obtain ⟨gs3, fs3, p3⟩ := q3
    change (st 170 8 = 0 → s3 170 8 = (1)) ∧ (0 < st 170 8 → s3 170 8 = st 170 8) at p3
    have g5 := g_faultKind gs3
    exact hQ _ ⟨gs3, (fr_tr (fr_rf _ _) fs3 rfl), (show (0 < st 170 8 → 0 < s3 170 8) ∧ (st 170 8 = 0 → st 170 12 = -1 → s3 170 8 = 0) ∧ (¬ st 170 12 = -1 → 0 < s3 170 8) from by omega)⟩
theorem k_rLexX_m (hTb : aTb zSh rx_tb cl) {D : Nat} (hD : 2 ≤ D) : ∀ as st (Q Q' : zQ), (∀ r st', Q r st' → Q' r st') → k_rLexX 181 as st Q → cl D 181 as st Q' := by
  intro as st Q Q' hQ h
  unfold k_rLexX at h
  split at h
  · obtain ⟨rfl, h⟩ := h
    exact c_rLexX hTb hD (ct_rLexX_m hQ h)
  · exact h.elim
set_option maxHeartbeats 4000000 in
set_option maxRecDepth 100000 in
theorem c_rIsOwn (hTb : aTb zSh rx_tb cl) {D : Nat} (hD : 1 ≤ D) {w : Int} {st : zS} {Q : zQ} (h : ct_rIsOwn w st Q) : cl D 185 [.inr (.inr (.inl 170)), .inr (.inl w)] st Q := by
  obtain ⟨d, rfl⟩ : ∃ d, D = d + 1 := ⟨D - 1, by omega⟩
  refine hTb d 185 (rx_m185, 3, 0, 0, 2) rfl _ _ _ (Nat.le_of_ble_eq_true rfl) (fun K hcl hsf hsl => ?_)
  have hcm : zmo (zno) (cl d) := zno_m
  have hQ := h
  refine yr1_ok (Rt := Q) (wc := (zno)) (stp := []) hcm hcl [] 138 ?_
  show (∀ (w1 : Int), (w < 482854658917 ∧ w1 = -1 ∨ w = 482854658917 ∧ w1 = 0 ∨ 482854658917 < w ∧ w1 = 1) → ((w1 = (0 : Int) → ((1 = (0 : Int) ∨ 1 = (1 : Int)) ∧ Q (some (.inl 1)) st)) ∧ (¬ (w1 = (0 : Int)) → (∀ (w2 : Int), (w < 126943972648308 ∧ w2 = -1 ∨ w = 126943972648308 ∧ w2 = 0 ∨ 126943972648308 < w ∧ w2 = 1) → ((w2 = (0 : Int) → ((1 = (0 : Int) ∨ 1 = (1 : Int)) ∧ Q (some (.inl 1)) st)) ∧ (¬ (w2 = (0 : Int)) → (∀ (w3 : Int), (w < 29807 ∧ w3 = -1 ∨ w = 29807 ∧ w3 = 0 ∨ 29807 < w ∧ w3 = 1) → ((w3 = (0 : Int) → ((1 = (0 : Int) ∨ 1 = (1 : Int)) ∧ Q (some (.inl 1)) st)) ∧ (¬ (w3 = (0 : Int)) → (∀ (w4 : Int), (w < 482670241139 ∧ w4 = -1 ∨ w = 482670241139 ∧ w4 = 0 ∨ 482670241139 < w ∧ w4 = 1) → ((w4 = (0 : Int) → ((1 = (0 : Int) ∨ 1 = (1 : Int)) ∧ Q (some (.inl 1)) st)) ∧ (¬ (w4 = (0 : Int)) → (∀ (w5 : Int), (w < 1937007984 ∧ w5 = -1 ∨ w = 1937007984 ∧ w5 = 0 ∨ 1937007984 < w ∧ w5 = 1) → ((¬ w5 = (0 : Int) → (∀ (w6 : Int), (w < 6713202 ∧ w6 = -1 ∨ w = 6713202 ∧ w6 = 0 ∨ 6713202 < w ∧ w6 = 1) → ((w6 = (0 : Int) → ((1 = (0 : Int) ∨ 1 = (1 : Int)) ∧ Q (some (.inl 1)) st)) ∧ (¬ (w6 = (0 : Int)) → (∀ (w7 : Int), (w < 499967946343 ∧ w7 = -1 ∨ w = 499967946343 ∧ w7 = 0 ∨ 499967946343 < w ∧ w7 = 1) → ((w7 = (0 : Int) → ((1 = (0 : Int) ∨ 1 = (1 : Int)) ∧ Q (some (.inl 1)) st)) ∧ (¬ (w7 = (0 : Int)) → (∀ (w8 : Int), (w < 24948 ∧ w8 = -1 ∨ w = 24948 ∧ w8 = 0 ∨ 24948 < w ∧ w8 = 1) → ((w8 = (0 : Int) → ((1 = (0 : Int) ∨ 1 = (1 : Int)) ∧ Q (some (.inl 1)) st)) ∧ (¬ (w8 = (0 : Int)) → (∀ (w9 : Int), (w < 1886743660 ∧ w9 = -1 ∨ w = 1886743660 ∧ w9 = 0 ∨ 1886743660 < w ∧ w9 = 1) → ((w9 = (0 : Int) → ((1 = (0 : Int) ∨ 1 = (1 : Int)) ∧ Q (some (.inl 1)) st)) ∧ (¬ (w9 = (0 : Int)) → (∀ (w10 : Int), (w < 126943688025203 ∧ w10 = -1 ∨ w = 126943688025203 ∧ w10 = 0 ∨ 126943688025203 < w ∧ w10 = 1) → ((¬ w10 = (0 : Int) → (∀ (w11 : Int), (w < 109317209875826 ∧ w11 = -1 ∨ w = 109317209875826 ∧ w11 = 0 ∨ 109317209875826 < w ∧ w11 = 1) → ((w11 = (0 : Int) → ((1 = (0 : Int) ∨ 1 = (1 : Int)) ∧ Q (some (.inl 1)) st)) ∧ (¬ (w11 = (0 : Int)) → (∀ (w12 : Int), (w < 1751474548 ∧ w12 = -1 ∨ w = 1751474548 ∧ w12 = 0 ∨ 1751474548 < w ∧ w12 = 1) → ((w12 = (0 : Int) → ((1 = (0 : Int) ∨ 1 = (1 : Int)) ∧ Q (some (.inl 1)) st)) ∧ (¬ (w12 = (0 : Int)) → (∀ (w13 : Int), (w < 6844276 ∧ w13 = -1 ∨ w = 6844276 ∧ w13 = 0 ∨ 6844276 < w ∧ w13 = 1) → ((w13 = (0 : Int) → ((1 = (0 : Int) ∨ 1 = (1 : Int)) ∧ Q (some (.inl 1)) st)) ∧ (¬ (w13 = (0 : Int)) → (∀ (w14 : Int), (w < 2036687218 ∧ w14 = -1 ∨ w = 2036687218 ∧ w14 = 0 ∨ 2036687218 < w ∧ w14 = 1) → ((w14 = (0 : Int) → ((1 = (0 : Int) ∨ 1 = (1 : Int)) ∧ Q (some (.inl 1)) st)) ∧ (¬ (w14 = (0 : Int)) → (∀ (w15 : Int), (w < 1953459300 ∧ w15 = -1 ∨ w = 1953459300 ∧ w15 = 0 ∨ 1953459300 < w ∧ w15 = 1) → ((¬ w15 = (0 : Int) → (∀ (w16 : Int), (w < 1650812270 ∧ w16 = -1 ∨ w = 1650812270 ∧ w16 = 0 ∨ 1650812270 < w ∧ w16 = 1) → ((w16 = (0 : Int) → ((1 = (0 : Int) ∨ 1 = (1 : Int)) ∧ Q (some (.inl 1)) st)) ∧ (¬ (w16 = (0 : Int)) → (∀ (w17 : Int), (w < 495874044019 ∧ w17 = -1 ∨ w = 495874044019 ∧ w17 = 0 ∨ 495874044019 < w ∧ w17 = 1) → ((w17 = (0 : Int) → ((1 = (0 : Int) ∨ 1 = (1 : Int)) ∧ Q (some (.inl 1)) st)) ∧ (¬ (w17 = (0 : Int)) → (∀ (w18 : Int), (w < 1953066341 ∧ w18 = -1 ∨ w = 1953066341 ∧ w18 = 0 ∨ 1953066341 < w ∧ w18 = 1) → ((w18 = (0 : Int) → ((1 = (0 : Int) ∨ 1 = (1 : Int)) ∧ Q (some (.inl 1)) st)) ∧ (¬ (w18 = (0 : Int)) → (∀ (w19 : Int), (w < 465726042227 ∧ w19 = -1 ∨ w = 465726042227 ∧ w19 = 0 ∨ 465726042227 < w ∧ w19 = 1) → ((w19 = (0 : Int) → ((1 = (0 : Int) ∨ 1 = (1 : Int)) ∧ Q (some (.inl 1)) st)) ∧ (¬ (w19 = (0 : Int)) → (∀ (w20 : Int), (w < 26982 ∧ w20 = -1 ∨ w = 26982 ∧ w20 = 0 ∨ 26982 < w ∧ w20 = 1) → ((¬ w20 = (0 : Int) → (∀ (w21 : Int), (w < 28530 ∧ w21 = -1 ∨ w = 28530 ∧ w21 = 0 ∨ 28530 < w ∧ w21 = 1) → ((w21 = (0 : Int) → ((1 = (0 : Int) ∨ 1 = (1 : Int)) ∧ Q (some (.inl 1)) st)) ∧ (¬ (w21 = (0 : Int)) → (∀ (w22 : Int), (w < 6385252 ∧ w22 = -1 ∨ w = 6385252 ∧ w22 = 0 ∨ 6385252 < w ∧ w22 = 1) → ((w22 = (0 : Int) → ((1 = (0 : Int) ∨ 1 = (1 : Int)) ∧ Q (some (.inl 1)) st)) ∧ (¬ (w22 = (0 : Int)) → (∀ (w23 : Int), (w < 7237492 ∧ w23 = -1 ∨ w = 7237492 ∧ w23 = 0 ∨ 7237492 < w ∧ w23 = 1) → ((w23 = (0 : Int) → ((1 = (0 : Int) ∨ 1 = (1 : Int)) ∧ Q (some (.inl 1)) st)) ∧ (¬ (w23 = (0 : Int)) → (∀ (w24 : Int), (w < 6384748 ∧ w24 = -1 ∨ w = 6384748 ∧ w24 = 0 ∨ 6384748 < w ∧ w24 = 1) → ((w24 = (0 : Int) → ((1 = (0 : Int) ∨ 1 = (1 : Int)) ∧ Q (some (.inl 1)) st)) ∧ (¬ (w24 = (0 : Int)) → (∀ (w25 : Int), (w < 7170414 ∧ w25 = -1 ∨ w = 7170414 ∧ w25 = 0 ∨ 7170414 < w ∧ w25 = 1) → ((¬ w25 = (0 : Int) → (∀ (w26 : Int), (w < 7168376 ∧ w26 = -1 ∨ w = 7168376 ∧ w26 = 0 ∨ 7168376 < w ∧ w26 = 1) → ((¬ w26 = (0 : Int) → ((0 = (0 : Int) ∨ 0 = (1 : Int)) ∧ Q (some (.inl 0)) st)) ∧ (¬ (¬ w26 = (0 : Int)) → ((1 = (0 : Int) ∨ 1 = (1 : Int)) ∧ Q (some (.inl 1)) st))))) ∧ (¬ (¬ w25 = (0 : Int)) → ((1 = (0 : Int) ∨ 1 = (1 : Int)) ∧ Q (some (.inl 1)) st))))))))))))))))) ∧ (¬ (¬ w20 = (0 : Int)) → ((1 = (0 : Int) ∨ 1 = (1 : Int)) ∧ Q (some (.inl 1)) st))))))))))))))))) ∧ (¬ (¬ w15 = (0 : Int)) → ((1 = (0 : Int) ∨ 1 = (1 : Int)) ∧ Q (some (.inl 1)) st))))))))))))))))) ∧ (¬ (¬ w10 = (0 : Int)) → ((1 = (0 : Int) ∨ 1 = (1 : Int)) ∧ Q (some (.inl 1)) st))))))))))))))))) ∧ (¬ (¬ w5 = (0 : Int)) → ((1 = (0 : Int) ∨ 1 = (1 : Int)) ∧ Q (some (.inl 1)) st))))))))))))))))
  intro w1 hw1
  refine ⟨fun h27 => ?_, fun h27 => ?_⟩
  · have z1 : w = 482854658917 := by omega
    clear hw1 h27
    refine ⟨by omega, ?_⟩
    exact hQ _ (show ((1 : Int) = 1 ∧ ¬ NOwn w) ∨ ((1 : Int) = 0 ∧ NOwn w) from (Or.inl ⟨rfl, fun z => z 0 (by omega) (show w = owv 0 from by rw [show owv 0 = 482854658917 from rfl]; omega)⟩))
  · have z1 : ¬ w = 482854658917 := by omega
    clear hw1 h27
    intro w2 hw2
    refine ⟨fun h28 => ?_, fun h28 => ?_⟩
    · have z2 : w = 126943972648308 := by omega
      clear hw2 h28
      refine ⟨by omega, ?_⟩
      exact hQ _ (show ((1 : Int) = 1 ∧ ¬ NOwn w) ∨ ((1 : Int) = 0 ∧ NOwn w) from (Or.inl ⟨rfl, fun z => z 1 (by omega) (show w = owv 1 from by rw [show owv 1 = 126943972648308 from rfl]; omega)⟩))
    · have z2 : ¬ w = 126943972648308 := by omega
      clear hw2 h28
      intro w3 hw3
      refine ⟨fun h29 => ?_, fun h29 => ?_⟩
      · have z3 : w = 29807 := by omega
        clear hw3 h29
        refine ⟨by omega, ?_⟩
        exact hQ _ (show ((1 : Int) = 1 ∧ ¬ NOwn w) ∨ ((1 : Int) = 0 ∧ NOwn w) from (Or.inl ⟨rfl, fun z => z 2 (by omega) (show w = owv 2 from by rw [show owv 2 = 29807 from rfl]; omega)⟩))
      · have z3 : ¬ w = 29807 := by omega
        clear hw3 h29
        intro w4 hw4
        refine ⟨fun h30 => ?_, fun h30 => ?_⟩
        · have z4 : w = 482670241139 := by omega
          clear hw4 h30
          refine ⟨by omega, ?_⟩
          exact hQ _ (show ((1 : Int) = 1 ∧ ¬ NOwn w) ∨ ((1 : Int) = 0 ∧ NOwn w) from (Or.inl ⟨rfl, fun z => z 3 (by omega) (show w = owv 3 from by rw [show owv 3 = 482670241139 from rfl]; omega)⟩))
        · have z4 : ¬ w = 482670241139 := by omega
          clear hw4 h30
          intro w5 hw5
          refine ⟨fun h31 => ?_, fun h31 => ?_⟩
          · have z5 : ¬ w = 1937007984 := by omega
            clear hw5 h31
            intro w6 hw6
            refine ⟨fun h32 => ?_, fun h32 => ?_⟩
            · have z6 : w = 6713202 := by omega
              clear hw6 h32
              refine ⟨by omega, ?_⟩
              exact hQ _ (show ((1 : Int) = 1 ∧ ¬ NOwn w) ∨ ((1 : Int) = 0 ∧ NOwn w) from (Or.inl ⟨rfl, fun z => z 5 (by omega) (show w = owv 5 from by rw [show owv 5 = 6713202 from rfl]; omega)⟩))
            · have z6 : ¬ w = 6713202 := by omega
              clear hw6 h32
              intro w7 hw7
              refine ⟨fun h33 => ?_, fun h33 => ?_⟩
              · have z7 : w = 499967946343 := by omega
                clear hw7 h33
                refine ⟨by omega, ?_⟩
                exact hQ _ (show ((1 : Int) = 1 ∧ ¬ NOwn w) ∨ ((1 : Int) = 0 ∧ NOwn w) from (Or.inl ⟨rfl, fun z => z 6 (by omega) (show w = owv 6 from by rw [show owv 6 = 499967946343 from rfl]; omega)⟩))
              · have z7 : ¬ w = 499967946343 := by omega
                clear hw7 h33
                intro w8 hw8
                refine ⟨fun h34 => ?_, fun h34 => ?_⟩
                · have z8 : w = 24948 := by omega
                  clear hw8 h34
                  refine ⟨by omega, ?_⟩
                  exact hQ _ (show ((1 : Int) = 1 ∧ ¬ NOwn w) ∨ ((1 : Int) = 0 ∧ NOwn w) from (Or.inl ⟨rfl, fun z => z 7 (by omega) (show w = owv 7 from by rw [show owv 7 = 24948 from rfl]; omega)⟩))
                · have z8 : ¬ w = 24948 := by omega
                  clear hw8 h34
                  intro w9 hw9
                  refine ⟨fun h35 => ?_, fun h35 => ?_⟩
                  · have z9 : w = 1886743660 := by omega
                    clear hw9 h35
                    refine ⟨by omega, ?_⟩
                    exact hQ _ (show ((1 : Int) = 1 ∧ ¬ NOwn w) ∨ ((1 : Int) = 0 ∧ NOwn w) from (Or.inl ⟨rfl, fun z => z 8 (by omega) (show w = owv 8 from by rw [show owv 8 = 1886743660 from rfl]; omega)⟩))
                  · have z9 : ¬ w = 1886743660 := by omega
                    clear hw9 h35
                    intro w10 hw10
                    refine ⟨fun h36 => ?_, fun h36 => ?_⟩
                    · have z10 : ¬ w = 126943688025203 := by omega
                      clear hw10 h36
                      intro w11 hw11
                      refine ⟨fun h37 => ?_, fun h37 => ?_⟩
                      · have z11 : w = 109317209875826 := by omega
                        clear hw11 h37
                        refine ⟨by omega, ?_⟩
                        exact hQ _ (show ((1 : Int) = 1 ∧ ¬ NOwn w) ∨ ((1 : Int) = 0 ∧ NOwn w) from (Or.inl ⟨rfl, fun z => z 10 (by omega) (show w = owv 10 from by rw [show owv 10 = 109317209875826 from rfl]; omega)⟩))
                      · have z11 : ¬ w = 109317209875826 := by omega
                        clear hw11 h37
                        intro w12 hw12
                        refine ⟨fun h38 => ?_, fun h38 => ?_⟩
                        · have z12 : w = 1751474548 := by omega
                          clear hw12 h38
                          refine ⟨by omega, ?_⟩
                          exact hQ _ (show ((1 : Int) = 1 ∧ ¬ NOwn w) ∨ ((1 : Int) = 0 ∧ NOwn w) from (Or.inl ⟨rfl, fun z => z 11 (by omega) (show w = owv 11 from by rw [show owv 11 = 1751474548 from rfl]; omega)⟩))
                        · have z12 : ¬ w = 1751474548 := by omega
                          clear hw12 h38
                          intro w13 hw13
                          refine ⟨fun h39 => ?_, fun h39 => ?_⟩
                          · have z13 : w = 6844276 := by omega
                            clear hw13 h39
                            refine ⟨by omega, ?_⟩
                            exact hQ _ (show ((1 : Int) = 1 ∧ ¬ NOwn w) ∨ ((1 : Int) = 0 ∧ NOwn w) from (Or.inl ⟨rfl, fun z => z 12 (by omega) (show w = owv 12 from by rw [show owv 12 = 6844276 from rfl]; omega)⟩))
                          · have z13 : ¬ w = 6844276 := by omega
                            clear hw13 h39
                            intro w14 hw14
                            refine ⟨fun h40 => ?_, fun h40 => ?_⟩
                            · have z14 : w = 2036687218 := by omega
                              clear hw14 h40
                              refine ⟨by omega, ?_⟩
                              exact hQ _ (show ((1 : Int) = 1 ∧ ¬ NOwn w) ∨ ((1 : Int) = 0 ∧ NOwn w) from (Or.inl ⟨rfl, fun z => z 13 (by omega) (show w = owv 13 from by rw [show owv 13 = 2036687218 from rfl]; omega)⟩))
                            · have z14 : ¬ w = 2036687218 := by omega
                              clear hw14 h40
                              intro w15 hw15
                              refine ⟨fun h41 => ?_, fun h41 => ?_⟩
                              · have z15 : ¬ w = 1953459300 := by omega
                                clear hw15 h41
                                intro w16 hw16
                                refine ⟨fun h42 => ?_, fun h42 => ?_⟩
                                · have z16 : w = 1650812270 := by omega
                                  clear hw16 h42
                                  refine ⟨by omega, ?_⟩
                                  exact hQ _ (show ((1 : Int) = 1 ∧ ¬ NOwn w) ∨ ((1 : Int) = 0 ∧ NOwn w) from (Or.inl ⟨rfl, fun z => z 15 (by omega) (show w = owv 15 from by rw [show owv 15 = 1650812270 from rfl]; omega)⟩))
                                · have z16 : ¬ w = 1650812270 := by omega
                                  clear hw16 h42
                                  intro w17 hw17
                                  refine ⟨fun h43 => ?_, fun h43 => ?_⟩
                                  · have z17 : w = 495874044019 := by omega
                                    clear hw17 h43
                                    refine ⟨by omega, ?_⟩
                                    exact hQ _ (show ((1 : Int) = 1 ∧ ¬ NOwn w) ∨ ((1 : Int) = 0 ∧ NOwn w) from (Or.inl ⟨rfl, fun z => z 16 (by omega) (show w = owv 16 from by rw [show owv 16 = 495874044019 from rfl]; omega)⟩))
                                  · have z17 : ¬ w = 495874044019 := by omega
                                    clear hw17 h43
                                    intro w18 hw18
                                    refine ⟨fun h44 => ?_, fun h44 => ?_⟩
                                    · have z18 : w = 1953066341 := by omega
                                      clear hw18 h44
                                      refine ⟨by omega, ?_⟩
                                      exact hQ _ (show ((1 : Int) = 1 ∧ ¬ NOwn w) ∨ ((1 : Int) = 0 ∧ NOwn w) from (Or.inl ⟨rfl, fun z => z 17 (by omega) (show w = owv 17 from by rw [show owv 17 = 1953066341 from rfl]; omega)⟩))
                                    · have z18 : ¬ w = 1953066341 := by omega
                                      clear hw18 h44
                                      intro w19 hw19
                                      refine ⟨fun h45 => ?_, fun h45 => ?_⟩
                                      · have z19 : w = 465726042227 := by omega
                                        clear hw19 h45
                                        refine ⟨by omega, ?_⟩
                                        exact hQ _ (show ((1 : Int) = 1 ∧ ¬ NOwn w) ∨ ((1 : Int) = 0 ∧ NOwn w) from (Or.inl ⟨rfl, fun z => z 18 (by omega) (show w = owv 18 from by rw [show owv 18 = 465726042227 from rfl]; omega)⟩))
                                      · have z19 : ¬ w = 465726042227 := by omega
                                        clear hw19 h45
                                        intro w20 hw20
                                        refine ⟨fun h46 => ?_, fun h46 => ?_⟩
                                        · have z20 : ¬ w = 26982 := by omega
                                          clear hw20 h46
                                          intro w21 hw21
                                          refine ⟨fun h47 => ?_, fun h47 => ?_⟩
                                          · have z21 : w = 28530 := by omega
                                            clear hw21 h47
                                            refine ⟨by omega, ?_⟩
                                            exact hQ _ (show ((1 : Int) = 1 ∧ ¬ NOwn w) ∨ ((1 : Int) = 0 ∧ NOwn w) from (Or.inl ⟨rfl, fun z => z 20 (by omega) (show w = owv 20 from by rw [show owv 20 = 28530 from rfl]; omega)⟩))
                                          · have z21 : ¬ w = 28530 := by omega
                                            clear hw21 h47
                                            intro w22 hw22
                                            refine ⟨fun h48 => ?_, fun h48 => ?_⟩
                                            · have z22 : w = 6385252 := by omega
                                              clear hw22 h48
                                              refine ⟨by omega, ?_⟩
                                              exact hQ _ (show ((1 : Int) = 1 ∧ ¬ NOwn w) ∨ ((1 : Int) = 0 ∧ NOwn w) from (Or.inl ⟨rfl, fun z => z 21 (by omega) (show w = owv 21 from by rw [show owv 21 = 6385252 from rfl]; omega)⟩))
                                            · have z22 : ¬ w = 6385252 := by omega
                                              clear hw22 h48
                                              intro w23 hw23
                                              refine ⟨fun h49 => ?_, fun h49 => ?_⟩
                                              · have z23 : w = 7237492 := by omega
                                                clear hw23 h49
                                                refine ⟨by omega, ?_⟩
                                                exact hQ _ (show ((1 : Int) = 1 ∧ ¬ NOwn w) ∨ ((1 : Int) = 0 ∧ NOwn w) from (Or.inl ⟨rfl, fun z => z 22 (by omega) (show w = owv 22 from by rw [show owv 22 = 7237492 from rfl]; omega)⟩))
                                              · have z23 : ¬ w = 7237492 := by omega
                                                clear hw23 h49
                                                intro w24 hw24
                                                refine ⟨fun h50 => ?_, fun h50 => ?_⟩
                                                · have z24 : w = 6384748 := by omega
                                                  clear hw24 h50
                                                  refine ⟨by omega, ?_⟩
                                                  exact hQ _ (show ((1 : Int) = 1 ∧ ¬ NOwn w) ∨ ((1 : Int) = 0 ∧ NOwn w) from (Or.inl ⟨rfl, fun z => z 23 (by omega) (show w = owv 23 from by rw [show owv 23 = 6384748 from rfl]; omega)⟩))
                                                · have z24 : ¬ w = 6384748 := by omega
                                                  clear hw24 h50
                                                  intro w25 hw25
                                                  refine ⟨fun h51 => ?_, fun h51 => ?_⟩
                                                  · have z25 : ¬ w = 7170414 := by omega
                                                    clear hw25 h51
                                                    intro w26 hw26
                                                    refine ⟨fun h52 => ?_, fun h52 => ?_⟩
                                                    · have z26 : ¬ w = 7168376 := by omega
                                                      clear hw26 h52
                                                      refine ⟨by omega, ?_⟩
                                                      exact hQ _ (show ((0 : Int) = 1 ∧ ¬ NOwn w) ∨ ((0 : Int) = 0 ∧ NOwn w) from (by
            refine Or.inr ⟨rfl, fun i hi hx => ?_⟩
            rcases (show i = 0 ∨ i = 1 ∨ i = 2 ∨ i = 3 ∨ i = 4 ∨ i = 5 ∨ i = 6 ∨ i = 7 ∨ i = 8 ∨ i = 9 ∨ i = 10 ∨ i = 11 ∨ i = 12 ∨ i = 13 ∨ i = 14 ∨ i = 15 ∨ i = 16 ∨ i = 17 ∨ i = 18 ∨ i = 19 ∨ i = 20 ∨ i = 21 ∨ i = 22 ∨ i = 23 ∨ i = 24 ∨ i = 25 from by omega) with rfl | rfl | rfl | rfl | rfl | rfl | rfl | rfl | rfl | rfl | rfl | rfl | rfl | rfl | rfl | rfl | rfl | rfl | rfl | rfl | rfl | rfl | rfl | rfl | rfl | rfl
            · rw [show owv 0 = 482854658917 from rfl] at hx; omega
            · rw [show owv 1 = 126943972648308 from rfl] at hx; omega
            · rw [show owv 2 = 29807 from rfl] at hx; omega
            · rw [show owv 3 = 482670241139 from rfl] at hx; omega
            · rw [show owv 4 = 1937007984 from rfl] at hx; omega
            · rw [show owv 5 = 6713202 from rfl] at hx; omega
            · rw [show owv 6 = 499967946343 from rfl] at hx; omega
            · rw [show owv 7 = 24948 from rfl] at hx; omega
            · rw [show owv 8 = 1886743660 from rfl] at hx; omega
            · rw [show owv 9 = 126943688025203 from rfl] at hx; omega
            · rw [show owv 10 = 109317209875826 from rfl] at hx; omega
            · rw [show owv 11 = 1751474548 from rfl] at hx; omega
            · rw [show owv 12 = 6844276 from rfl] at hx; omega
            · rw [show owv 13 = 2036687218 from rfl] at hx; omega
            · rw [show owv 14 = 1953459300 from rfl] at hx; omega
            · rw [show owv 15 = 1650812270 from rfl] at hx; omega
            · rw [show owv 16 = 495874044019 from rfl] at hx; omega
            · rw [show owv 17 = 1953066341 from rfl] at hx; omega
            · rw [show owv 18 = 465726042227 from rfl] at hx; omega
            · rw [show owv 19 = 26982 from rfl] at hx; omega
            · rw [show owv 20 = 28530 from rfl] at hx; omega
            · rw [show owv 21 = 6385252 from rfl] at hx; omega
            · rw [show owv 22 = 7237492 from rfl] at hx; omega
            · rw [show owv 23 = 6384748 from rfl] at hx; omega
            · rw [show owv 24 = 7170414 from rfl] at hx; omega
            · rw [show owv 25 = 7168376 from rfl] at hx; omega))
                                                    · have z26 : w = 7168376 := by omega
                                                      clear hw26 h52
                                                      refine ⟨by omega, ?_⟩
                                                      exact hQ _ (show ((1 : Int) = 1 ∧ ¬ NOwn w) ∨ ((1 : Int) = 0 ∧ NOwn w) from (Or.inl ⟨rfl, fun z => z 25 (by omega) (show w = owv 25 from by rw [show owv 25 = 7168376 from rfl]; omega)⟩))
                                                  · have z25 : w = 7170414 := by omega
                                                    clear hw25 h51
                                                    refine ⟨by omega, ?_⟩
                                                    exact hQ _ (show ((1 : Int) = 1 ∧ ¬ NOwn w) ∨ ((1 : Int) = 0 ∧ NOwn w) from (Or.inl ⟨rfl, fun z => z 24 (by omega) (show w = owv 24 from by rw [show owv 24 = 7170414 from rfl]; omega)⟩))
                                        · have z20 : w = 26982 := by omega
                                          clear hw20 h46
                                          refine ⟨by omega, ?_⟩
                                          exact hQ _ (show ((1 : Int) = 1 ∧ ¬ NOwn w) ∨ ((1 : Int) = 0 ∧ NOwn w) from (Or.inl ⟨rfl, fun z => z 19 (by omega) (show w = owv 19 from by rw [show owv 19 = 26982 from rfl]; omega)⟩))
                              · have z15 : w = 1953459300 := by omega
                                clear hw15 h41
                                refine ⟨by omega, ?_⟩
                                exact hQ _ (show ((1 : Int) = 1 ∧ ¬ NOwn w) ∨ ((1 : Int) = 0 ∧ NOwn w) from (Or.inl ⟨rfl, fun z => z 14 (by omega) (show w = owv 14 from by rw [show owv 14 = 1953459300 from rfl]; omega)⟩))
                    · have z10 : w = 126943688025203 := by omega
                      clear hw10 h36
                      refine ⟨by omega, ?_⟩
                      exact hQ _ (show ((1 : Int) = 1 ∧ ¬ NOwn w) ∨ ((1 : Int) = 0 ∧ NOwn w) from (Or.inl ⟨rfl, fun z => z 9 (by omega) (show w = owv 9 from by rw [show owv 9 = 126943688025203 from rfl]; omega)⟩))
          · have z5 : w = 1937007984 := by omega
            clear hw5 h31
            refine ⟨by omega, ?_⟩
            exact hQ _ (show ((1 : Int) = 1 ∧ ¬ NOwn w) ∨ ((1 : Int) = 0 ∧ NOwn w) from (Or.inl ⟨rfl, fun z => z 4 (by omega) (show w = owv 4 from by rw [show owv 4 = 1937007984 from rfl]; omega)⟩))
theorem k_rIsOwn_m (hTb : aTb zSh rx_tb cl) {D : Nat} (hD : 1 ≤ D) : ∀ as st (Q Q' : zQ), (∀ r st', Q r st' → Q' r st') → k_rIsOwn 185 as st Q → cl D 185 as st Q' := by
  intro as st Q Q' hQ h
  unfold k_rIsOwn at h
  split at h
  · obtain ⟨rfl, h⟩ := h
    exact c_rIsOwn hTb hD (ct_rIsOwn_m hQ h)
  · exact h.elim
set_option maxHeartbeats 4000000 in
set_option maxRecDepth 100000 in
theorem c_rNameOf (hTb : aTb zSh rx_tb cl) {D : Nat} (hD : 1 ≤ D) {b k i : Int} {st : zS} {Q : zQ} (h : ct_rNameOf b k i st Q) : cl D 186 [.inr (.inr (.inl 170)), .inl b, .inl k, .inl i] st Q := by
  obtain ⟨d, rfl⟩ : ∃ d, D = d + 1 := ⟨D - 1, by omega⟩
  refine hTb d 186 (rx_m186, 4, 0, 0, 5) rfl _ _ _ (Nat.le_of_ble_eq_true rfl) (fun K hcl hsf hsl => ?_)
  have hcm : zmo (zno) (cl d) := zno_m
  obtain ⟨hR, hQ⟩ := h
  have hr0 := hR
  change 0 ≤ b ∧ b ≤ 1 ∧ 0 ≤ i ∧ i < 8 at hr0
  refine yr1_ok (Rt := Q) (wc := (zno)) (stp := []) hcm hcl [] 40 ?_
  show ((¬ k = (0 : Int) → ((-2147483648 ≤ (8 : Int) * b ∧ (8 : Int) * b ≤ 2147483647) ∧ ((-2147483648 ≤ ((8 : Int) * b) + i ∧ ((8 : Int) * b) + i ≤ 2147483647) ∧ ((0 ≤ ((8 : Int) * b) + i ∧ ((8 : Int) * b) + i < 16) ∧ Q (some (.inr (.inl (st 191 (((8 : Int) * b) + i : Int).toNat)))) st)))) ∧ (¬ (¬ k = (0 : Int)) → ((-2147483648 ≤ (8 : Int) * b ∧ (8 : Int) * b ≤ 2147483647) ∧ ((-2147483648 ≤ ((8 : Int) * b) + i ∧ ((8 : Int) * b) + i ≤ 2147483647) ∧ ((0 ≤ ((8 : Int) * b) + i ∧ ((8 : Int) * b) + i < 16) ∧ Q (some (.inr (.inl (st 190 (((8 : Int) * b) + i : Int).toNat)))) st)))))
  refine ⟨fun h1 => ?_, fun h1 => ?_⟩
  · refine ⟨by omega, ?_⟩
    refine ⟨by omega, ?_⟩
    refine ⟨by omega, ?_⟩
    exact hQ _ (show (k = 0 → (st 191 (((8 : Int) * b) + i : Int).toNat) = st 190 (8 * b + i : Int).toNat) ∧ (¬ k = 0 → (st 191 (((8 : Int) * b) + i : Int).toNat) = st 191 (8 * b + i : Int).toNat) from by omega)
  · refine ⟨by omega, ?_⟩
    refine ⟨by omega, ?_⟩
    refine ⟨by omega, ?_⟩
    exact hQ _ (show (k = 0 → (st 190 (((8 : Int) * b) + i : Int).toNat) = st 190 (8 * b + i : Int).toNat) ∧ (¬ k = 0 → (st 190 (((8 : Int) * b) + i : Int).toNat) = st 191 (8 * b + i : Int).toNat) from by omega)
theorem k_rNameOf_m (hTb : aTb zSh rx_tb cl) {D : Nat} (hD : 1 ≤ D) : ∀ as st (Q Q' : zQ), (∀ r st', Q r st' → Q' r st') → k_rNameOf 186 as st Q → cl D 186 as st Q' := by
  intro as st Q Q' hQ h
  unfold k_rNameOf at h
  split at h
  · obtain ⟨rfl, h⟩ := h
    exact c_rNameOf hTb hD (ct_rNameOf_m hQ h)
  · exact h.elim
set_option maxHeartbeats 4000000 in
set_option maxRecDepth 100000 in
theorem c_rNamed (hTb : aTb zSh rx_tb cl) {D : Nat} (hD : 2 ≤ D) {k w : Int} {st : zS} {Q : zQ} (h : ct_rNamed k w st Q) : cl D 187 [.inr (.inr (.inl 170)), .inl k, .inr (.inl w)] st Q := by
  obtain ⟨d, rfl⟩ : ∃ d, D = d + 1 := ⟨D - 1, by omega⟩
  refine hTb d 187 (rx_m187, 5, 0, 0, 1) rfl _ _ _ (Nat.le_of_ble_eq_true rfl) (fun K hcl hsf hsl => ?_)
  have hcm : zmo (wcL [(55, k_manyOf), (186, k_rNameOf)]) (cl d) := (wcL_m (wm_cons (k_manyOf_m hTb (by omega)) (wm_cons (k_rNameOf_m hTb (by omega)) wm_nil)))
  obtain ⟨hR, hQ⟩ := h
  have hG := hR
  have lp : ∀ (u : Nat) (i : Int), (0 ≤ i ∧ i ≤ 8) ∧ (k = 0 → ∀ j : Int, 0 ≤ j → j < i → ¬ st 190 (8 * st 170 35 + j : Int).toNat = w) ∧ (¬ k = 0 → ∀ j : Int, 0 ≤ j → j < i → ¬ st 191 (8 * st 170 35 + j : Int).toNat = w) → (8 - i).toNat = u → K (rx_find rx_m187 3) [(0, .inr (.inr (.inl 170))), (1, .inl k), (2, .inr (.inl w)), (4, .inl i)] [] st := by
    intro u
    induction u using Nat.strongRecOn with
    | _ u ih =>
      intro i hi hu
      obtain ⟨b_lp, ne_lp, nt_lp⟩ := hi
      have g1 := g_in hG
      have g2 := g_places hG (st 170 35 : Int).toNat
      have g3 := g_things hG (st 170 35 : Int).toNat
      refine yr1_ok (Rt := Q) (wc := (wcL [(55, k_manyOf), (186, k_rNameOf)])) (stp := [3]) hcm hcl [] 44 ?_
      show (170 = 170 ∧ (rq_manyOf (st 170 35) k st ∧ (∀ (r4 : Int), en_manyOf (st 170 35) k st r4 → ((r4 ≤ i → Q (some (.inl (-1))) st) ∧ (¬ (r4 ≤ i) → (170 = 170 ∧ (rq_rNameOf (st 170 35) k i st ∧ (∀ (r5 : Int), en_rNameOf (st 170 35) k i st r5 → (∀ (w6 : Int), (r5 < w ∧ w6 = -1 ∨ r5 = w ∧ w6 = 0 ∨ w < r5 ∧ w6 = 1) → ((¬ w6 = (0 : Int) → ((-2147483648 ≤ i + 1 ∧ i + 1 ≤ 2147483647) ∧ K (rx_find rx_m187 3) [(4, .inl (i + 1)), (0, .inr (.inr (.inl 170))), (1, .inl k), (2, .inr (.inl w))] [] st)) ∧ (¬ (¬ w6 = (0 : Int)) → Q (some (.inl i)) st)))))))))))
      refine ⟨rfl, (show 0 ≤ (st 170 35) ∧ (st 170 35) ≤ 1 from by omega), fun r4 q4 => ?_⟩
      have b4 := q4
      change (k = 0 → r4 = st 172 ((st 170 35) : Int).toNat) ∧ (¬ k = 0 → r4 = st 181 ((st 170 35) : Int).toNat) at b4
      have g7 := g_places hG ((st 170 35) : Int).toNat
      have g8 := g_things hG ((st 170 35) : Int).toNat
      refine ⟨fun h9 => ?_, fun h9 => ?_⟩
      · exact hQ _ ⟨(show -1 ≤ ((-1) : Int) ∧ ((-1) : Int) < 8 from by omega), (show (k = 0 → NMD (st 170 35) (st 172 (st 170 35 : Int).toNat) w ((-1) : Int) (st 190)) ∧ (¬ k = 0 → NMD (st 170 35) (st 181 (st 170 35 : Int).toNat) w ((-1) : Int) (st 191)) from ⟨fun z => Or.inr ⟨rfl, fun j z1 z2 => ne_lp z j z1 (by omega)⟩, fun z => Or.inr ⟨rfl, fun j z1 z2 => nt_lp z j z1 (by omega)⟩⟩)⟩
      · refine ⟨rfl, (show 0 ≤ (st 170 35) ∧ (st 170 35) ≤ 1 ∧ 0 ≤ i ∧ i < 8 from by omega), fun r5 q5 => ?_⟩
        have e5 := q5
        change (k = 0 → r5 = st 190 (8 * (st 170 35) + i : Int).toNat) ∧ (¬ k = 0 → r5 = st 191 (8 * (st 170 35) + i : Int).toNat) at e5
        have g10 := g_placeName hG (8 * (st 170 35) + i : Int).toNat
        have g11 := g_thingName hG (8 * (st 170 35) + i : Int).toNat
        intro w6 hw6
        refine ⟨fun h12 => ?_, fun h12 => ?_⟩
        · refine ⟨by omega, ?_⟩
          exact hsl _ _ _ _ _ (sb_cons (.tail _ (.head _)) (sb_cons (.tail _ (.tail _ (.head _))) (sb_cons (.tail _ (.tail _ (.tail _ (.head _)))) (sb_cons (.head _) sb_nil)))) (ih _ (show (8 - (i + 1) : Int).toNat < u from by omega) (i + 1) ⟨(show 0 ≤ (i + 1) ∧ (i + 1) ≤ 8 from by omega), (show k = 0 → ∀ j : Int, 0 ≤ j → j < (i + 1) → ¬ st 190 (8 * st 170 35 + j : Int).toNat = w from fun z j z1 z2 => by
          by_cases z3 : j = i
          · rw [z3]; omega
          · exact ne_lp z j z1 (by omega)), (show ¬ k = 0 → ∀ j : Int, 0 ≤ j → j < (i + 1) → ¬ st 191 (8 * st 170 35 + j : Int).toNat = w from fun z j z1 z2 => by
          by_cases z3 : j = i
          · rw [z3]; omega
          · exact nt_lp z j z1 (by omega))⟩ rfl)
        · exact hQ _ ⟨(show -1 ≤ i ∧ i < 8 from by omega), (show (k = 0 → NMD (st 170 35) (st 172 (st 170 35 : Int).toNat) w i (st 190)) ∧ (¬ k = 0 → NMD (st 170 35) (st 181 (st 170 35 : Int).toNat) w i (st 191)) from ⟨fun z => Or.inl ⟨by omega, by omega, (show st 190 (8 * st 170 35 + i : Int).toNat = w from by omega), ne_lp z⟩, fun z => Or.inl ⟨by omega, by omega, (show st 191 (8 * st 170 35 + i : Int).toNat = w from by omega), nt_lp z⟩⟩)⟩
  refine yr1_ok (Rt := Q) (wc := (wcL [(55, k_manyOf), (186, k_rNameOf)])) (stp := [3]) hcm hcl [] 44 ?_
  show K (rx_find rx_m187 3) [(4, .inl 0), (0, .inr (.inr (.inl 170))), (1, .inl k), (2, .inr (.inl w))] [] st
  exact hsl _ _ _ _ _ (sb_cons (.tail _ (.head _)) (sb_cons (.tail _ (.tail _ (.head _))) (sb_cons (.tail _ (.tail _ (.tail _ (.head _)))) (sb_cons (.head _) sb_nil)))) (lp _ 0 ⟨(show 0 ≤ (0 : Int) ∧ (0 : Int) ≤ 8 from by omega), (show k = 0 → ∀ j : Int, 0 ≤ j → j < (0 : Int) → ¬ st 190 (8 * st 170 35 + j : Int).toNat = w from fun z j z1 z2 => by omega), (show ¬ k = 0 → ∀ j : Int, 0 ≤ j → j < (0 : Int) → ¬ st 191 (8 * st 170 35 + j : Int).toNat = w from fun z j z1 z2 => by omega)⟩ rfl)
theorem k_rNamed_m (hTb : aTb zSh rx_tb cl) {D : Nat} (hD : 2 ≤ D) : ∀ as st (Q Q' : zQ), (∀ r st', Q r st' → Q' r st') → k_rNamed 187 as st Q → cl D 187 as st Q' := by
  intro as st Q Q' hQ h
  unfold k_rNamed at h
  split at h
  · obtain ⟨rfl, h⟩ := h
    exact c_rNamed hTb hD (ct_rNamed_m hQ h)
  · exact h.elim
set_option maxHeartbeats 4000000 in
set_option maxRecDepth 100000 in
theorem c_rMustI (hTb : aTb zSh rx_tb cl) {t : Int → Int} {n : Int} {D : Nat} (hD : 3 ≤ D) {w : Int} {st : zS} {Q : zQ} (h : ct_rMustI t n w st Q) : cl D 184 [.inr (.inr (.inl 170)), .inl w] st Q := by
  obtain ⟨d, rfl⟩ : ∃ d, D = d + 1 := ⟨D - 1, by omega⟩
  refine hTb d 184 (rx_m184, 2, 0, 0, 0) rfl _ _ _ (Nat.le_of_ble_eq_true rfl) (fun K hcl hsf hsl => ?_)
  have hcm : zmo (wcL [(181, k_rLexX), (182, k_isSign), (178, k_blame), (149, k_rNext t n)]) (cl d) := (wcL_m (wm_cons (k_rLexX_m hTb (by omega)) (wm_cons (k_isSign_m hTb (by omega)) (wm_cons (k_blame_m hTb (by omega)) (wm_cons (k_rNext_m hTb (by omega)) wm_nil)))))
  obtain ⟨hR, hQ⟩ := h
  obtain ⟨hG, rd⟩ := hR
  change st 170 8 = 0 → RDr st t n at rd
  have g1 := g_faultKind hG
  have g2 := g_sign hG
  have g3 := g_signAt hG
  have g4 := g_value hG
  have g5 := g_word hG
  have g6 := g_lexAt hG
  have g7 := g_in hG
  refine yr1_ok (Rt := Q) (wc := (wcL [(181, k_rLexX), (182, k_isSign), (178, k_blame), (149, k_rNext t n)])) (stp := []) hcm hcl [] 37 ?_
  show (170 = 170 ∧ (rq_rLexX  st ∧ (∀ (s8 : zS), en_rLexX  st s8 → (170 = 170 ∧ (∀ (r9 : Int), en_isSign w s8 r9 → ((¬ r9 = (0 : Int) → ((¬ s8 170 8 = (0 : Int) → Q none s8) ∧ (¬ (¬ s8 170 8 = (0 : Int)) → (170 = 170 ∧ (rq_rNext t n  s8 ∧ (∀ (s10 : zS), en_rNext t n  s8 s10 → Q none s10)))))) ∧ (¬ (¬ r9 = (0 : Int)) → (170 = 170 ∧ (rq_blame (1) (s8 170 4) s8 ∧ (∀ (s11 : zS), en_blame (1) (s8 170 4) s8 s11 → ((¬ s11 170 8 = (0 : Int) → Q none s11) ∧ (¬ (¬ s11 170 8 = (0 : Int)) → (170 = 170 ∧ (rq_rNext t n  s11 ∧ (∀ (s12 : zS), en_rNext t n  s11 s12 → Q none s12)))))))))))))))
  refine ⟨rfl, hG, fun s8 q8 => ?_⟩
  obtain ⟨gs8, fs8, p8⟩ := q8
  change (0 < st 170 8 → 0 < s8 170 8) ∧ (st 170 8 = 0 → st 170 12 = -1 → s8 170 8 = 0) ∧ (¬ st 170 12 = -1 → 0 < s8 170 8) at p8
  have g13 := g_faultKind gs8
  refine ⟨rfl, fun r9 q9 => ?_⟩
  have b9 := q9
  change (r9 = 0 ∨ r9 = 1) ∧ (r9 = 1 ↔ s8 170 3 = 3 ∧ s8 170 6 = w) at b9
  have e14 : s8 170 3 = st 170 3 := fs8 170 3 rfl rfl
  have e15 : s8 170 6 = st 170 6 := fs8 170 6 rfl rfl
  refine ⟨fun h16 => ?_, fun h16 => ?_⟩
  · refine ⟨fun h17 => ?_, fun h17 => ?_⟩
    · have e18 : s8 170 4 = st 170 4 := fs8 170 4 rfl rfl
      exact hQ _ ⟨gs8, (fr_tr (fr_rf _ _) fs8 rfl), (show (s8 170 8 = 0 ∧ st 170 8 = 0 ∧ tk t n (st 170 4) 3 w (s8 170 4) ∧ RDr s8 t n) ∨ (0 < s8 170 8 ∧ st 170 8 = 0 ∧ ¬ ∃ e : Int, tk t n (st 170 4) 3 w e) ∨ (0 < s8 170 8 ∧ 0 < st 170 8) from (by
            by_cases z0 : st 170 8 = 0
            · refine Or.inr (Or.inl ⟨by omega, z0, fun hx => ?_⟩)
              obtain ⟨e, h1⟩ := hx
              have z := r_sig (rd z0) h1
              omega
            · exact Or.inr (Or.inr ⟨by omega, by omega⟩)))⟩
    · have e19 : s8 170 12 = st 170 12 := fs8 170 12 rfl rfl
      refine ⟨rfl, ⟨gs8, (show RDr s8 t n from (show RDr s8 t n from (RDr_of (fs8 170 2 rfl rfl) (fun i => fs8 171 i rfl rfl) (fs8 170 3 rfl rfl) (fs8 170 4 rfl rfl) (fs8 170 5 rfl rfl) (fs8 170 6 rfl rfl) (fs8 170 7 rfl rfl) (fs8 170 12 rfl rfl) (rd (by omega))))), (show s8 170 12 = -1 from by omega)⟩, fun s10 q10 => ?_⟩
      obtain ⟨gs10, fs10, rd10, nx10⟩ := q10
      change RDr s10 t n at rd10
      change NXr s8 s10 t n at nx10
      have e20 : s10 170 8 = s8 170 8 := fs10 170 8 rfl rfl
      have g21 := g_signAt gs10
      exact hQ _ ⟨gs10, (fr_tr (fr_tr (fr_rf _ _) fs8 rfl) fs10 rfl), (show (s10 170 8 = 0 ∧ st 170 8 = 0 ∧ tk t n (st 170 4) 3 w (s10 170 4) ∧ RDr s10 t n) ∨ (0 < s10 170 8 ∧ st 170 8 = 0 ∧ ¬ ∃ e : Int, tk t n (st 170 4) 3 w e) ∨ (0 < s10 170 8 ∧ 0 < st 170 8) from (by
            have z0 : st 170 8 = 0 := by omega
            obtain ⟨q, hq⟩ := r_iss (rd z0) (by omega) (by omega)
            rw [show st 170 6 = w from by omega] at hq
            have e := NXr_e nx10 (show tk t n (s8 170 4) _ _ q from by rw [show s8 170 4 = st 170 4 from ((fs8 170 4 rfl rfl).trans (show st 170 4 = st 170 4 from rfl))]; exact hq) (by omega)
            exact Or.inl ⟨by omega, z0, (by rw [e]; exact hq), rd10⟩))⟩
  · have e22 : s8 170 4 = st 170 4 := fs8 170 4 rfl rfl
    refine ⟨rfl, ⟨gs8, (show 1 ≤ (1) ∧ (1) ≤ 6 from by omega), (show -2147483648 ≤ (s8 170 4) ∧ (s8 170 4) ≤ 2147483647 from by omega)⟩, fun s11 q11 => ?_⟩
    obtain ⟨gs11, fs11, p11⟩ := q11
    change (s8 170 8 = 0 → s11 170 8 = (1)) ∧ (0 < s8 170 8 → s11 170 8 = s8 170 8) at p11
    have g23 := g_faultKind gs11
    refine ⟨fun h24 => ?_, fun h24 => (by exfalso; omega)⟩
    have e25 : s11 170 4 = s8 170 4 := fs11 170 4 rfl rfl
    exact hQ _ ⟨gs11, (fr_tr (fr_tr (fr_rf _ _) fs8 rfl) fs11 rfl), (show (s11 170 8 = 0 ∧ st 170 8 = 0 ∧ tk t n (st 170 4) 3 w (s11 170 4) ∧ RDr s11 t n) ∨ (0 < s11 170 8 ∧ st 170 8 = 0 ∧ ¬ ∃ e : Int, tk t n (st 170 4) 3 w e) ∨ (0 < s11 170 8 ∧ 0 < st 170 8) from (by
            by_cases z0 : st 170 8 = 0
            · refine Or.inr (Or.inl ⟨by omega, z0, fun hx => ?_⟩)
              obtain ⟨e, h1⟩ := hx
              have z := r_sig (rd z0) h1
              omega
            · exact Or.inr (Or.inr ⟨by omega, by omega⟩)))⟩
theorem k_rMustI_m (hTb : aTb zSh rx_tb cl) {t : Int → Int} {n : Int} {D : Nat} (hD : 3 ≤ D) : ∀ as st (Q Q' : zQ), (∀ r st', Q r st' → Q' r st') → (k_rMustI t n) 184 as st Q → cl D 184 as st Q' := by
  intro as st Q Q' hQ h
  unfold k_rMustI at h
  split at h
  · obtain ⟨rfl, h⟩ := h
    exact c_rMustI hTb hD (ct_rMustI_m hQ h)
  · exact h.elim
set_option maxHeartbeats 4000000 in
set_option maxRecDepth 100000 in
theorem c_rMustJ (hTb : aTb zSh rx_tb cl) {t : Int → Int} {n : Int} {D : Nat} (hD : 3 ≤ D) {w : Int} {st : zS} {Q : zQ} (h : ct_rMustJ t n w st Q) : cl D 200 [.inr (.inr (.inl 170)), .inr (.inl w)] st Q := by
  obtain ⟨d, rfl⟩ : ∃ d, D = d + 1 := ⟨D - 1, by omega⟩
  refine hTb d 200 (rx_m200, 3, 0, 0, 0) rfl _ _ _ (Nat.le_of_ble_eq_true rfl) (fun K hcl hsf hsl => ?_)
  have hcm : zmo (wcL [(181, k_rLexX), (183, k_isWord), (178, k_blame), (149, k_rNext t n)]) (cl d) := (wcL_m (wm_cons (k_rLexX_m hTb (by omega)) (wm_cons (k_isWord_m hTb (by omega)) (wm_cons (k_blame_m hTb (by omega)) (wm_cons (k_rNext_m hTb (by omega)) wm_nil)))))
  obtain ⟨hR, hQ⟩ := h
  obtain ⟨hG, rd⟩ := hR
  change st 170 8 = 0 → RDr st t n at rd
  have g1 := g_faultKind hG
  have g2 := g_sign hG
  have g3 := g_signAt hG
  have g4 := g_value hG
  have g5 := g_word hG
  have g6 := g_lexAt hG
  have g7 := g_in hG
  refine yr1_ok (Rt := Q) (wc := (wcL [(181, k_rLexX), (183, k_isWord), (178, k_blame), (149, k_rNext t n)])) (stp := []) hcm hcl [] 41 ?_
  show (170 = 170 ∧ (rq_rLexX  st ∧ (∀ (s8 : zS), en_rLexX  st s8 → ((s8 170 8 ≤ (0 : Int) → (170 = 170 ∧ (∀ (r9 : Int), en_isWord w s8 r9 → ((¬ r9 = (0 : Int) → ((¬ s8 170 8 = (0 : Int) → Q none s8) ∧ (¬ (¬ s8 170 8 = (0 : Int)) → (170 = 170 ∧ (rq_rNext t n  s8 ∧ (∀ (s10 : zS), en_rNext t n  s8 s10 → Q none s10)))))) ∧ (¬ (¬ r9 = (0 : Int)) → (170 = 170 ∧ (rq_blame (1) (s8 170 4) s8 ∧ (∀ (s11 : zS), en_blame (1) (s8 170 4) s8 s11 → ((¬ s11 170 8 = (0 : Int) → Q none s11) ∧ (¬ (¬ s11 170 8 = (0 : Int)) → (170 = 170 ∧ (rq_rNext t n  s11 ∧ (∀ (s12 : zS), en_rNext t n  s11 s12 → Q none s12))))))))))))) ∧ (¬ (s8 170 8 ≤ (0 : Int)) → Q none s8)))))
  refine ⟨rfl, hG, fun s8 q8 => ?_⟩
  obtain ⟨gs8, fs8, p8⟩ := q8
  change (0 < st 170 8 → 0 < s8 170 8) ∧ (st 170 8 = 0 → st 170 12 = -1 → s8 170 8 = 0) ∧ (¬ st 170 12 = -1 → 0 < s8 170 8) at p8
  have g13 := g_faultKind gs8
  refine ⟨fun h14 => ?_, fun h14 => ?_⟩
  · refine ⟨rfl, fun r9 q9 => ?_⟩
    have b9 := q9
    change (r9 = 0 ∨ r9 = 1) ∧ (r9 = 1 ↔ s8 170 3 = 1 ∧ s8 170 7 = w) at b9
    have e15 : s8 170 3 = st 170 3 := fs8 170 3 rfl rfl
    have e16 : s8 170 7 = st 170 7 := fs8 170 7 rfl rfl
    refine ⟨fun h17 => ?_, fun h17 => ?_⟩
    · refine ⟨fun h18 => (by exfalso; omega), fun h18 => ?_⟩
      have e19 : s8 170 12 = st 170 12 := fs8 170 12 rfl rfl
      refine ⟨rfl, ⟨gs8, (show RDr s8 t n from (show RDr s8 t n from (RDr_of (fs8 170 2 rfl rfl) (fun i => fs8 171 i rfl rfl) (fs8 170 3 rfl rfl) (fs8 170 4 rfl rfl) (fs8 170 5 rfl rfl) (fs8 170 6 rfl rfl) (fs8 170 7 rfl rfl) (fs8 170 12 rfl rfl) (rd (by omega))))), (show s8 170 12 = -1 from by omega)⟩, fun s10 q10 => ?_⟩
      obtain ⟨gs10, fs10, rd10, nx10⟩ := q10
      change RDr s10 t n at rd10
      change NXr s8 s10 t n at nx10
      have e20 : s10 170 8 = s8 170 8 := fs10 170 8 rfl rfl
      have g21 := g_signAt gs10
      exact hQ _ ⟨gs10, (fr_tr (fr_tr (fr_rf _ _) fs8 rfl) fs10 rfl), (show (s10 170 8 = 0 ∧ st 170 8 = 0 ∧ tk t n (st 170 4) 1 w (s10 170 4) ∧ RDr s10 t n) ∨ (0 < s10 170 8 ∧ st 170 8 = 0 ∧ ¬ ∃ e : Int, tk t n (st 170 4) 1 w e) ∨ (0 < s10 170 8 ∧ 0 < st 170 8) from (by
            have z0 : st 170 8 = 0 := by omega
            obtain ⟨q, hq⟩ := r_isw (rd z0) (by omega) (by omega)
            rw [show st 170 7 = w from by omega] at hq
            have e := NXr_e nx10 (show tk t n (s8 170 4) _ _ q from by rw [show s8 170 4 = st 170 4 from ((fs8 170 4 rfl rfl).trans (show st 170 4 = st 170 4 from rfl))]; exact hq) (by omega)
            exact Or.inl ⟨by omega, z0, (by rw [e]; exact hq), rd10⟩))⟩
    · have e22 : s8 170 4 = st 170 4 := fs8 170 4 rfl rfl
      refine ⟨rfl, ⟨gs8, (show 1 ≤ (1) ∧ (1) ≤ 6 from by omega), (show -2147483648 ≤ (s8 170 4) ∧ (s8 170 4) ≤ 2147483647 from by omega)⟩, fun s11 q11 => ?_⟩
      obtain ⟨gs11, fs11, p11⟩ := q11
      change (s8 170 8 = 0 → s11 170 8 = (1)) ∧ (0 < s8 170 8 → s11 170 8 = s8 170 8) at p11
      have g23 := g_faultKind gs11
      refine ⟨fun h24 => ?_, fun h24 => (by exfalso; omega)⟩
      have e25 : s11 170 4 = s8 170 4 := fs11 170 4 rfl rfl
      exact hQ _ ⟨gs11, (fr_tr (fr_tr (fr_rf _ _) fs8 rfl) fs11 rfl), (show (s11 170 8 = 0 ∧ st 170 8 = 0 ∧ tk t n (st 170 4) 1 w (s11 170 4) ∧ RDr s11 t n) ∨ (0 < s11 170 8 ∧ st 170 8 = 0 ∧ ¬ ∃ e : Int, tk t n (st 170 4) 1 w e) ∨ (0 < s11 170 8 ∧ 0 < st 170 8) from (by
            by_cases z0 : st 170 8 = 0
            · refine Or.inr (Or.inl ⟨by omega, z0, fun hx => ?_⟩)
              obtain ⟨e, h1⟩ := hx
              have z := r_wrd (rd z0) h1
              omega
            · exact Or.inr (Or.inr ⟨by omega, by omega⟩)))⟩
  · have e26 : s8 170 4 = st 170 4 := fs8 170 4 rfl rfl
    exact hQ _ ⟨gs8, (fr_tr (fr_rf _ _) fs8 rfl), (show (s8 170 8 = 0 ∧ st 170 8 = 0 ∧ tk t n (st 170 4) 1 w (s8 170 4) ∧ RDr s8 t n) ∨ (0 < s8 170 8 ∧ st 170 8 = 0 ∧ ¬ ∃ e : Int, tk t n (st 170 4) 1 w e) ∨ (0 < s8 170 8 ∧ 0 < st 170 8) from (by
            by_cases z0 : st 170 8 = 0
            · refine Or.inr (Or.inl ⟨by omega, z0, fun hx => ?_⟩)
              obtain ⟨e, h1⟩ := hx
              have z := r_wrd (rd z0) h1
              omega
            · exact Or.inr (Or.inr ⟨by omega, by omega⟩)))⟩
theorem k_rMustJ_m (hTb : aTb zSh rx_tb cl) {t : Int → Int} {n : Int} {D : Nat} (hD : 3 ≤ D) : ∀ as st (Q Q' : zQ), (∀ r st', Q r st' → Q' r st') → (k_rMustJ t n) 200 as st Q → cl D 200 as st Q' := by
  intro as st Q Q' hQ h
  unfold k_rMustJ at h
  split at h
  · obtain ⟨rfl, h⟩ := h
    exact c_rMustJ hTb hD (ct_rMustJ_m hQ h)
  · exact h.elim
set_option maxHeartbeats 4000000 in
set_option maxRecDepth 100000 in
theorem c_rNumber (hTb : aTb zSh rx_tb cl) {t : Int → Int} {n : Int} {D : Nat} (hD : 3 ≤ D) {a b : Int} {st : zS} {Q : zQ} (h : ct_rNumber t n a b st Q) : cl D 188 [.inr (.inr (.inl 170)), .inl a, .inl b] st Q := by
  obtain ⟨d, rfl⟩ : ∃ d, D = d + 1 := ⟨D - 1, by omega⟩
  refine hTb d 188 (rx_m188, 4, 0, 0, 1) rfl _ _ _ (Nat.le_of_ble_eq_true rfl) (fun K hcl hsf hsl => ?_)
  have hcm : zmo (wcL [(181, k_rLexX), (178, k_blame), (8, k_is), (149, k_rNext t n)]) (cl d) := (wcL_m (wm_cons (k_rLexX_m hTb (by omega)) (wm_cons (k_blame_m hTb (by omega)) (wm_cons (k_is_m hTb (by omega)) (wm_cons (k_rNext_m hTb (by omega)) wm_nil)))))
  obtain ⟨hR, hQ⟩ := h
  obtain ⟨hG, rd⟩ := hR
  change st 170 8 = 0 → RDr st t n at rd
  have g1 := g_faultKind hG
  have g2 := g_sign hG
  have g3 := g_signAt hG
  have g4 := g_value hG
  have g5 := g_word hG
  have g6 := g_lexAt hG
  have g7 := g_in hG
  refine yr1_ok (Rt := Q) (wc := (wcL [(181, k_rLexX), (178, k_blame), (8, k_is), (149, k_rNext t n)])) (stp := []) hcm hcl [] 60 ?_
  show (170 = 170 ∧ (rq_rLexX  st ∧ (∀ (s8 : zS), en_rLexX  st s8 → ((s8 170 8 ≤ (0 : Int) → ((s8 170 3 = (2 : Int) → ((¬ s8 170 8 = (0 : Int) → ((¬ s8 170 8 = (0 : Int) → Q (some (.inl (s8 170 6))) s8) ∧ (¬ (¬ s8 170 8 = (0 : Int)) → (170 = 170 ∧ (rq_rNext t n  s8 ∧ (∀ (s9 : zS), en_rNext t n  s8 s9 → Q (some (.inl (s8 170 6))) s9)))))) ∧ (¬ (¬ s8 170 8 = (0 : Int)) → (∀ (r10 : Int), en_is (s8 170 6) a b s8 r10 → ((¬ r10 = (0 : Int) → ((¬ s8 170 8 = (0 : Int) → Q (some (.inl (s8 170 6))) s8) ∧ (¬ (¬ s8 170 8 = (0 : Int)) → (170 = 170 ∧ (rq_rNext t n  s8 ∧ (∀ (s11 : zS), en_rNext t n  s8 s11 → Q (some (.inl (s8 170 6))) s11)))))) ∧ (¬ (¬ r10 = (0 : Int)) → (170 = 170 ∧ (rq_blame (4) (s8 170 4) s8 ∧ (∀ (s12 : zS), en_blame (4) (s8 170 4) s8 s12 → ((¬ s12 170 8 = (0 : Int) → Q (some (.inl (s12 170 6))) s12) ∧ (¬ (¬ s12 170 8 = (0 : Int)) → (170 = 170 ∧ (rq_rNext t n  s12 ∧ (∀ (s13 : zS), en_rNext t n  s12 s13 → Q (some (.inl (s12 170 6))) s13)))))))))))))) ∧ (¬ (s8 170 3 = (2 : Int)) → (170 = 170 ∧ (rq_blame (1) (s8 170 4) s8 ∧ (∀ (s14 : zS), en_blame (1) (s8 170 4) s8 s14 → ((¬ s14 170 8 = (0 : Int) → ((¬ s14 170 8 = (0 : Int) → Q (some (.inl (s14 170 6))) s14) ∧ (¬ (¬ s14 170 8 = (0 : Int)) → (170 = 170 ∧ (rq_rNext t n  s14 ∧ (∀ (s15 : zS), en_rNext t n  s14 s15 → Q (some (.inl (s14 170 6))) s15)))))) ∧ (¬ (¬ s14 170 8 = (0 : Int)) → (∀ (r16 : Int), en_is (s14 170 6) a b s14 r16 → ((¬ r16 = (0 : Int) → ((¬ s14 170 8 = (0 : Int) → Q (some (.inl (s14 170 6))) s14) ∧ (¬ (¬ s14 170 8 = (0 : Int)) → (170 = 170 ∧ (rq_rNext t n  s14 ∧ (∀ (s17 : zS), en_rNext t n  s14 s17 → Q (some (.inl (s14 170 6))) s17)))))) ∧ (¬ (¬ r16 = (0 : Int)) → (170 = 170 ∧ (rq_blame (4) (s14 170 4) s14 ∧ (∀ (s18 : zS), en_blame (4) (s14 170 4) s14 s18 → ((¬ s18 170 8 = (0 : Int) → Q (some (.inl (s18 170 6))) s18) ∧ (¬ (¬ s18 170 8 = (0 : Int)) → (170 = 170 ∧ (rq_rNext t n  s18 ∧ (∀ (s19 : zS), en_rNext t n  s18 s19 → Q (some (.inl (s18 170 6))) s19))))))))))))))))))) ∧ (¬ (s8 170 8 ≤ (0 : Int)) → Q (some (.inl 0)) s8)))))
  refine ⟨rfl, hG, fun s8 q8 => ?_⟩
  obtain ⟨gs8, fs8, p8⟩ := q8
  change (0 < st 170 8 → 0 < s8 170 8) ∧ (st 170 8 = 0 → st 170 12 = -1 → s8 170 8 = 0) ∧ (¬ st 170 12 = -1 → 0 < s8 170 8) at p8
  have g20 := g_faultKind gs8
  refine ⟨fun h21 => ?_, fun h21 => ?_⟩
  · have e22 : s8 170 3 = st 170 3 := fs8 170 3 rfl rfl
    refine ⟨fun h23 => ?_, fun h23 => ?_⟩
    · refine ⟨fun h24 => (by exfalso; omega), fun h24 => ?_⟩
      have e25 : s8 170 6 = st 170 6 := fs8 170 6 rfl rfl
      refine fun r10 q10 => ?_
      have b10 := q10
      change (r10 = 0 ∨ r10 = 1) ∧ (r10 = 1 ↔ a ≤ (s8 170 6) ∧ (s8 170 6) ≤ b) at b10
      refine ⟨fun h26 => ?_, fun h26 => ?_⟩
      · refine ⟨fun h27 => (by exfalso; omega), fun h27 => ?_⟩
        have e28 : s8 170 12 = st 170 12 := fs8 170 12 rfl rfl
        refine ⟨rfl, ⟨gs8, (show RDr s8 t n from (show RDr s8 t n from (RDr_of (fs8 170 2 rfl rfl) (fun i => fs8 171 i rfl rfl) (fs8 170 3 rfl rfl) (fs8 170 4 rfl rfl) (fs8 170 5 rfl rfl) (fs8 170 6 rfl rfl) (fs8 170 7 rfl rfl) (fs8 170 12 rfl rfl) (rd (by omega))))), (show s8 170 12 = -1 from by omega)⟩, fun s11 q11 => ?_⟩
        obtain ⟨gs11, fs11, rd11, nx11⟩ := q11
        change RDr s11 t n at rd11
        change NXr s8 s11 t n at nx11
        have e29 : s11 170 8 = s8 170 8 := fs11 170 8 rfl rfl
        have g30 := g_signAt gs11
        exact hQ _ _ ⟨gs11, (fr_tr (fr_tr (fr_rf _ _) fs8 rfl) fs11 rfl), (show -2147483648 ≤ (s8 170 6) ∧ (s8 170 6) ≤ 2147483647 from by omega), (show (s11 170 8 = 0 ∧ st 170 8 = 0 ∧ a ≤ (s8 170 6) ∧ (s8 170 6) ≤ b ∧ tk t n (st 170 4) 2 (s8 170 6) (s11 170 4) ∧ RDr s11 t n) ∨ (0 < s11 170 8 ∧ st 170 8 = 0 ∧ ¬ ∃ v e : Int, tk t n (st 170 4) 2 v e ∧ a ≤ v ∧ v ≤ b) ∨ (0 < s11 170 8 ∧ 0 < st 170 8) from (by
            have z0 : st 170 8 = 0 := by omega
            obtain ⟨q, hq⟩ := r_isn (rd z0) (by omega) (by omega)
            rw [show st 170 6 = s8 170 6 from by omega] at hq
            have e := NXr_e nx11 (show tk t n (s8 170 4) _ _ q from by rw [show s8 170 4 = st 170 4 from ((fs8 170 4 rfl rfl).trans (show st 170 4 = st 170 4 from rfl))]; exact hq) (by omega)
            exact Or.inl ⟨by omega, z0, by omega, by omega, (by rw [e]; exact hq), rd11⟩))⟩
      · have e31 : s8 170 4 = st 170 4 := fs8 170 4 rfl rfl
        refine ⟨rfl, ⟨gs8, (show 1 ≤ (4) ∧ (4) ≤ 6 from by omega), (show -2147483648 ≤ (s8 170 4) ∧ (s8 170 4) ≤ 2147483647 from by omega)⟩, fun s12 q12 => ?_⟩
        obtain ⟨gs12, fs12, p12⟩ := q12
        change (s8 170 8 = 0 → s12 170 8 = (4)) ∧ (0 < s8 170 8 → s12 170 8 = s8 170 8) at p12
        have g32 := g_faultKind gs12
        have e34 : s12 170 6 = s8 170 6 := fs12 170 6 rfl rfl
        refine ⟨fun h33 => ?_, fun h33 => (by exfalso; omega)⟩
        have e35 : s12 170 4 = s8 170 4 := fs12 170 4 rfl rfl
        exact hQ _ _ ⟨gs12, (fr_tr (fr_tr (fr_rf _ _) fs8 rfl) fs12 rfl), (show -2147483648 ≤ (s12 170 6) ∧ (s12 170 6) ≤ 2147483647 from by omega), (show (s12 170 8 = 0 ∧ st 170 8 = 0 ∧ a ≤ (s12 170 6) ∧ (s12 170 6) ≤ b ∧ tk t n (st 170 4) 2 (s12 170 6) (s12 170 4) ∧ RDr s12 t n) ∨ (0 < s12 170 8 ∧ st 170 8 = 0 ∧ ¬ ∃ v e : Int, tk t n (st 170 4) 2 v e ∧ a ≤ v ∧ v ≤ b) ∨ (0 < s12 170 8 ∧ 0 < st 170 8) from (by
            by_cases z0 : st 170 8 = 0
            · refine Or.inr (Or.inl ⟨by omega, z0, fun hx => ?_⟩)
              obtain ⟨v, e, h1, h2⟩ := hx
              have z := r_num (rd z0) h1
              omega
            · exact Or.inr (Or.inr ⟨by omega, by omega⟩)))⟩
    · have e36 : s8 170 4 = st 170 4 := fs8 170 4 rfl rfl
      refine ⟨rfl, ⟨gs8, (show 1 ≤ (1) ∧ (1) ≤ 6 from by omega), (show -2147483648 ≤ (s8 170 4) ∧ (s8 170 4) ≤ 2147483647 from by omega)⟩, fun s14 q14 => ?_⟩
      obtain ⟨gs14, fs14, p14⟩ := q14
      change (s8 170 8 = 0 → s14 170 8 = (1)) ∧ (0 < s8 170 8 → s14 170 8 = s8 170 8) at p14
      have g37 := g_faultKind gs14
      refine ⟨fun h38 => ?_, fun h38 => (by exfalso; omega)⟩
      have e41 : s8 170 6 = st 170 6 := fs8 170 6 rfl rfl
      have e40 : s14 170 6 = s8 170 6 := fs14 170 6 rfl rfl
      refine ⟨fun h39 => ?_, fun h39 => (by exfalso; omega)⟩
      have e42 : s14 170 4 = s8 170 4 := fs14 170 4 rfl rfl
      exact hQ _ _ ⟨gs14, (fr_tr (fr_tr (fr_rf _ _) fs8 rfl) fs14 rfl), (show -2147483648 ≤ (s14 170 6) ∧ (s14 170 6) ≤ 2147483647 from by omega), (show (s14 170 8 = 0 ∧ st 170 8 = 0 ∧ a ≤ (s14 170 6) ∧ (s14 170 6) ≤ b ∧ tk t n (st 170 4) 2 (s14 170 6) (s14 170 4) ∧ RDr s14 t n) ∨ (0 < s14 170 8 ∧ st 170 8 = 0 ∧ ¬ ∃ v e : Int, tk t n (st 170 4) 2 v e ∧ a ≤ v ∧ v ≤ b) ∨ (0 < s14 170 8 ∧ 0 < st 170 8) from (by
            by_cases z0 : st 170 8 = 0
            · refine Or.inr (Or.inl ⟨by omega, z0, fun hx => ?_⟩)
              obtain ⟨v, e, h1, h2⟩ := hx
              have z := r_num (rd z0) h1
              omega
            · exact Or.inr (Or.inr ⟨by omega, by omega⟩)))⟩
  · have e43 : s8 170 4 = st 170 4 := fs8 170 4 rfl rfl
    exact hQ _ _ ⟨gs8, (fr_tr (fr_rf _ _) fs8 rfl), (show -2147483648 ≤ (0 : Int) ∧ (0 : Int) ≤ 2147483647 from by omega), (show (s8 170 8 = 0 ∧ st 170 8 = 0 ∧ a ≤ (0 : Int) ∧ (0 : Int) ≤ b ∧ tk t n (st 170 4) 2 (0 : Int) (s8 170 4) ∧ RDr s8 t n) ∨ (0 < s8 170 8 ∧ st 170 8 = 0 ∧ ¬ ∃ v e : Int, tk t n (st 170 4) 2 v e ∧ a ≤ v ∧ v ≤ b) ∨ (0 < s8 170 8 ∧ 0 < st 170 8) from (by
            by_cases z0 : st 170 8 = 0
            · refine Or.inr (Or.inl ⟨by omega, z0, fun hx => ?_⟩)
              obtain ⟨v, e, h1, h2⟩ := hx
              have z := r_num (rd z0) h1
              omega
            · exact Or.inr (Or.inr ⟨by omega, by omega⟩)))⟩
theorem k_rNumber_m (hTb : aTb zSh rx_tb cl) {t : Int → Int} {n : Int} {D : Nat} (hD : 3 ≤ D) : ∀ as st (Q Q' : zQ), (∀ r st', Q r st' → Q' r st') → (k_rNumber t n) 188 as st Q → cl D 188 as st Q' := by
  intro as st Q Q' hQ h
  unfold k_rNumber at h
  split at h
  · obtain ⟨rfl, h⟩ := h
    exact c_rNumber hTb hD (ct_rNumber_m hQ h)
  · exact h.elim
set_option maxHeartbeats 4000000 in
set_option maxRecDepth 100000 in
theorem c_rCounts (hTb : aTb zSh rx_tb cl) {t : Int → Int} {n : Int} {D : Nat} (hD : 3 ≤ D) {f : Int} {st : zS} {Q : zQ} (h : ct_rCounts t n f st Q) : cl D 199 [.inr (.inr (.inl 170)), .inl f] st Q := by
  obtain ⟨d, rfl⟩ : ∃ d, D = d + 1 := ⟨D - 1, by omega⟩
  refine hTb d 199 (rx_m199, 2, 0, 0, 2) rfl _ _ _ (Nat.le_of_ble_eq_true rfl) (fun K hcl hsf hsl => ?_)
  have hcm : zmo (wcL [(178, k_blame), (149, k_rNext t n)]) (cl d) := (wcL_m (wm_cons (k_blame_m hTb (by omega)) (wm_cons (k_rNext_m hTb (by omega)) wm_nil)))
  obtain ⟨hR, hQ⟩ := h
  obtain ⟨hG, rd, q⟩ := hR
  change RDr st t n at rd
  change st 170 8 = 0 ∧ st 170 12 = -1 ∧ (f = 0 ∨ f = 1) at q
  have g1 := g_faultKind hG
  have g2 := g_lexAt hG
  have g3 := g_sign hG
  have g4 := g_signAt hG
  have g5 := g_value hG
  have g6 := g_word hG
  have g7 := g_in hG
  refine yr1_ok (Rt := Q) (wc := (wcL [(178, k_blame), (149, k_rNext t n)])) (stp := []) hcm hcl [] 42 ?_
  show ((¬ st 170 8 = (0 : Int) → ((¬ st 170 8 = (0 : Int) → ((¬ st 170 8 = (0 : Int) → ((0 = (0 : Int) ∨ 0 = (1 : Int)) ∧ Q (some (.inl 0)) st)) ∧ (¬ (¬ st 170 8 = (0 : Int)) → ((1 = (0 : Int) ∨ 1 = (1 : Int)) ∧ Q (some (.inl 1)) st)))) ∧ (¬ (¬ st 170 8 = (0 : Int)) → (170 = 170 ∧ (rq_rNext t n  st ∧ (∀ (s8 : zS), en_rNext t n  st s8 → ((¬ s8 170 8 = (0 : Int) → ((0 = (0 : Int) ∨ 0 = (1 : Int)) ∧ Q (some (.inl 0)) s8)) ∧ (¬ (¬ s8 170 8 = (0 : Int)) → ((1 = (0 : Int) ∨ 1 = (1 : Int)) ∧ Q (some (.inl 1)) s8))))))))) ∧ (¬ (¬ st 170 8 = (0 : Int)) → ((f = (0 : Int) → ((¬ st 170 8 = (0 : Int) → ((¬ st 170 8 = (0 : Int) → ((0 = (0 : Int) ∨ 0 = (1 : Int)) ∧ Q (some (.inl 0)) st)) ∧ (¬ (¬ st 170 8 = (0 : Int)) → ((1 = (0 : Int) ∨ 1 = (1 : Int)) ∧ Q (some (.inl 1)) st)))) ∧ (¬ (¬ st 170 8 = (0 : Int)) → (170 = 170 ∧ (rq_rNext t n  st ∧ (∀ (s9 : zS), en_rNext t n  st s9 → ((¬ s9 170 8 = (0 : Int) → ((0 = (0 : Int) ∨ 0 = (1 : Int)) ∧ Q (some (.inl 0)) s9)) ∧ (¬ (¬ s9 170 8 = (0 : Int)) → ((1 = (0 : Int) ∨ 1 = (1 : Int)) ∧ Q (some (.inl 1)) s9))))))))) ∧ (¬ (f = (0 : Int)) → (170 = 170 ∧ (rq_blame (6) (st 170 4) st ∧ (∀ (s10 : zS), en_blame (6) (st 170 4) st s10 → ((¬ s10 170 8 = (0 : Int) → ((¬ s10 170 8 = (0 : Int) → ((0 = (0 : Int) ∨ 0 = (1 : Int)) ∧ Q (some (.inl 0)) s10)) ∧ (¬ (¬ s10 170 8 = (0 : Int)) → ((1 = (0 : Int) ∨ 1 = (1 : Int)) ∧ Q (some (.inl 1)) s10)))) ∧ (¬ (¬ s10 170 8 = (0 : Int)) → (170 = 170 ∧ (rq_rNext t n  s10 ∧ (∀ (s11 : zS), en_rNext t n  s10 s11 → ((¬ s11 170 8 = (0 : Int) → ((0 = (0 : Int) ∨ 0 = (1 : Int)) ∧ Q (some (.inl 0)) s11)) ∧ (¬ (¬ s11 170 8 = (0 : Int)) → ((1 = (0 : Int) ∨ 1 = (1 : Int)) ∧ Q (some (.inl 1)) s11)))))))))))))))
  refine ⟨fun h12 => ?_, fun h12 => ?_⟩
  · refine ⟨fun h13 => ?_, fun h13 => (by exfalso; omega)⟩
    refine ⟨fun h14 => ?_, fun h14 => (by exfalso; omega)⟩
    refine ⟨by omega, ?_⟩
    exact hQ _ _ ⟨hG, (fr_rf _ _), (show (st 170 8 = 0 ∧ st 170 8 = 0 ∧ (0 : Int) = 1 ∧ f = 0 ∧ RDr st t n ∧ NXr st st t n) ∨ (0 < st 170 8 ∧ st 170 8 = 0 ∧ (0 : Int) = 0 ∧ f = 1) ∨ (0 < st 170 8 ∧ 0 < st 170 8) from Or.inr (Or.inl ⟨by omega, by omega, rfl, by omega⟩))⟩
  · refine ⟨fun h15 => ?_, fun h15 => ?_⟩
    · refine ⟨fun h16 => (by exfalso; omega), fun h16 => ?_⟩
      refine ⟨rfl, ⟨hG, (show RDr st t n from (show RDr st t n from rd)), (show st 170 12 = -1 from by omega)⟩, fun s9 q9 => ?_⟩
      obtain ⟨gs9, fs9, rd9, nx9⟩ := q9
      change RDr s9 t n at rd9
      change NXr st s9 t n at nx9
      have e18 : s9 170 8 = st 170 8 := fs9 170 8 rfl rfl
      refine ⟨fun h17 => (by exfalso; omega), fun h17 => ?_⟩
      refine ⟨by omega, ?_⟩
      exact hQ _ _ ⟨gs9, (fr_tr (fr_rf _ _) fs9 rfl), (show (s9 170 8 = 0 ∧ st 170 8 = 0 ∧ (1 : Int) = 1 ∧ f = 0 ∧ RDr s9 t n ∧ NXr st s9 t n) ∨ (0 < s9 170 8 ∧ st 170 8 = 0 ∧ (1 : Int) = 0 ∧ f = 1) ∨ (0 < s9 170 8 ∧ 0 < st 170 8) from (Or.inl ⟨by omega, by omega, rfl, by omega, rd9, nx9⟩))⟩
    · refine ⟨rfl, ⟨hG, (show 1 ≤ (6) ∧ (6) ≤ 6 from by omega), (show -2147483648 ≤ (st 170 4) ∧ (st 170 4) ≤ 2147483647 from by omega)⟩, fun s10 q10 => ?_⟩
      obtain ⟨gs10, fs10, p10⟩ := q10
      change (st 170 8 = 0 → s10 170 8 = (6)) ∧ (0 < st 170 8 → s10 170 8 = st 170 8) at p10
      have g19 := g_faultKind gs10
      refine ⟨fun h20 => ?_, fun h20 => (by exfalso; omega)⟩
      refine ⟨fun h21 => ?_, fun h21 => (by exfalso; omega)⟩
      refine ⟨by omega, ?_⟩
      exact hQ _ _ ⟨gs10, (fr_tr (fr_rf _ _) fs10 rfl), (show (s10 170 8 = 0 ∧ st 170 8 = 0 ∧ (0 : Int) = 1 ∧ f = 0 ∧ RDr s10 t n ∧ NXr st s10 t n) ∨ (0 < s10 170 8 ∧ st 170 8 = 0 ∧ (0 : Int) = 0 ∧ f = 1) ∨ (0 < s10 170 8 ∧ 0 < st 170 8) from Or.inr (Or.inl ⟨by omega, by omega, rfl, by omega⟩))⟩
theorem k_rCounts_m (hTb : aTb zSh rx_tb cl) {t : Int → Int} {n : Int} {D : Nat} (hD : 3 ≤ D) : ∀ as st (Q Q' : zQ), (∀ r st', Q r st' → Q' r st') → (k_rCounts t n) 199 as st Q → cl D 199 as st Q' := by
  intro as st Q Q' hQ h
  unfold k_rCounts at h
  split at h
  · obtain ⟨rfl, h⟩ := h
    exact c_rCounts hTb hD (ct_rCounts_m hQ h)
  · exact h.elim
set_option maxHeartbeats 4000000 in
set_option maxRecDepth 100000 in
theorem c_rFresh (hTb : aTb zSh rx_tb cl) {t : Int → Int} {n : Int} {T : zS} {D : Nat} (hD : 3 ≤ D) {st : zS} {Q : zQ} (h : ct_rFresh t n T st Q) : cl D 202 [.inr (.inr (.inl 170))] st Q := by
  obtain ⟨d, rfl⟩ : ∃ d, D = d + 1 := ⟨D - 1, by omega⟩
  refine hTb d 202 (rx_m202, 3, 0, 0, 5) rfl _ _ _ (Nat.le_of_ble_eq_true rfl) (fun K hcl hsf hsl => ?_)
  have hcm : zmo (wcL [(181, k_rLexX), (185, k_rIsOwn), (178, k_blame), (187, k_rNamed), (149, k_rNext t n)]) (cl d) := (wcL_m (wm_cons (k_rLexX_m hTb (by omega)) (wm_cons (k_rIsOwn_m hTb (by omega)) (wm_cons (k_blame_m hTb (by omega)) (wm_cons (k_rNamed_m hTb (by omega)) (wm_cons (k_rNext_m hTb (by omega)) wm_nil))))))
  obtain ⟨hR, hQ⟩ := h
  obtain ⟨hG, rd, rn, rt⟩ := hR
  change st 170 8 = 0 → RDr st t n at rd
  change RTn (st 170 35) T st at rn
  change RTt (st 170 35) T st at rt
  have g1 := g_faultKind hG
  have g2 := g_in hG
  have g3 := g_sign hG
  have g4 := g_signAt hG
  have g5 := g_value hG
  have g6 := g_word hG
  have g7 := g_lexAt hG
  refine yr1_ok (Rt := Q) (wc := (wcL [(181, k_rLexX), (185, k_rIsOwn), (178, k_blame), (187, k_rNamed), (149, k_rNext t n)])) (stp := []) hcm hcl [] 200 ?_
  show (170 = 170 ∧ (rq_rLexX  st ∧ (∀ (s8 : zS), en_rLexX  st s8 → ((s8 170 8 ≤ (0 : Int) → ((¬ s8 170 3 = (1 : Int) → (170 = 170 ∧ (rq_blame (1) (s8 170 4) s8 ∧ (∀ (s9 : zS), en_blame (1) (s8 170 4) s8 s9 → (((1 : Int) < (0 : Int) → _) ∧ (¬ ((1 : Int) < (0 : Int)) → ((¬ s9 170 8 = (0 : Int) → ((¬ s9 170 8 = (0 : Int) → Q (some (.inr (.inl (s9 170 7)))) s9) ∧ (¬ (¬ s9 170 8 = (0 : Int)) → (170 = 170 ∧ (rq_rNext t n  s9 ∧ (∀ (s10 : zS), en_rNext t n  s9 s10 → Q (some (.inr (.inl (s9 170 7)))) s10)))))) ∧ (¬ (¬ s9 170 8 = (0 : Int)) → (170 = 170 ∧ (rq_rNamed (0) (s9 170 7) s9 ∧ (∀ (r11 : Int), en_rNamed (0) (s9 170 7) s9 r11 → ((r11 = ((-1) : Int) → ((-2147483648 ≤ (0 : Int) + 1 ∧ (0 : Int) + 1 ≤ 2147483647) ∧ (((1 : Int) < (1 : Int) → _) ∧ (¬ ((1 : Int) < (1 : Int)) → ((¬ s9 170 8 = (0 : Int) → ((¬ s9 170 8 = (0 : Int) → Q (some (.inr (.inl (s9 170 7)))) s9) ∧ (¬ (¬ s9 170 8 = (0 : Int)) → (170 = 170 ∧ (rq_rNext t n  s9 ∧ (∀ (s12 : zS), en_rNext t n  s9 s12 → Q (some (.inr (.inl (s9 170 7)))) s12)))))) ∧ (¬ (¬ s9 170 8 = (0 : Int)) → (170 = 170 ∧ (rq_rNamed (1) (s9 170 7) s9 ∧ (∀ (r13 : Int), en_rNamed (1) (s9 170 7) s9 r13 → ((r13 = ((-1) : Int) → ((-2147483648 ≤ (1 : Int) + 1 ∧ (1 : Int) + 1 ≤ 2147483647) ∧ (((1 : Int) < (2 : Int) → ((¬ s9 170 8 = (0 : Int) → Q (some (.inr (.inl (s9 170 7)))) s9) ∧ (¬ (¬ s9 170 8 = (0 : Int)) → (170 = 170 ∧ (rq_rNext t n  s9 ∧ (∀ (s14 : zS), en_rNext t n  s9 s14 → Q (some (.inr (.inl (s9 170 7)))) s14)))))) ∧ (¬ ((1 : Int) < (2 : Int)) → _)))) ∧ (¬ (r13 = ((-1) : Int)) → (170 = 170 ∧ (rq_blame (2) (s9 170 4) s9 ∧ (∀ (s15 : zS), en_blame (2) (s9 170 4) s9 s15 → ((-2147483648 ≤ (1 : Int) + 1 ∧ (1 : Int) + 1 ≤ 2147483647) ∧ (((1 : Int) < (2 : Int) → ((¬ s15 170 8 = (0 : Int) → Q (some (.inr (.inl (s15 170 7)))) s15) ∧ (¬ (¬ s15 170 8 = (0 : Int)) → (170 = 170 ∧ (rq_rNext t n  s15 ∧ (∀ (s16 : zS), en_rNext t n  s15 s16 → Q (some (.inr (.inl (s15 170 7)))) s16)))))) ∧ (¬ ((1 : Int) < (2 : Int)) → _))))))))))))))))) ∧ (¬ (r11 = ((-1) : Int)) → (170 = 170 ∧ (rq_blame (2) (s9 170 4) s9 ∧ (∀ (s17 : zS), en_blame (2) (s9 170 4) s9 s17 → ((-2147483648 ≤ (0 : Int) + 1 ∧ (0 : Int) + 1 ≤ 2147483647) ∧ (((1 : Int) < (1 : Int) → _) ∧ (¬ ((1 : Int) < (1 : Int)) → ((¬ s17 170 8 = (0 : Int) → ((¬ s17 170 8 = (0 : Int) → Q (some (.inr (.inl (s17 170 7)))) s17) ∧ (¬ (¬ s17 170 8 = (0 : Int)) → (170 = 170 ∧ (rq_rNext t n  s17 ∧ (∀ (s18 : zS), en_rNext t n  s17 s18 → Q (some (.inr (.inl (s17 170 7)))) s18)))))) ∧ (¬ (¬ s17 170 8 = (0 : Int)) → (170 = 170 ∧ (rq_rNamed (1) (s17 170 7) s17 ∧ (∀ (r19 : Int), en_rNamed (1) (s17 170 7) s17 r19 → ((r19 = ((-1) : Int) → ((-2147483648 ≤ (1 : Int) + 1 ∧ (1 : Int) + 1 ≤ 2147483647) ∧ (((1 : Int) < (2 : Int) → ((¬ s17 170 8 = (0 : Int) → Q (some (.inr (.inl (s17 170 7)))) s17) ∧ (¬ (¬ s17 170 8 = (0 : Int)) → (170 = 170 ∧ (rq_rNext t n  s17 ∧ (∀ (s20 : zS), en_rNext t n  s17 s20 → Q (some (.inr (.inl (s17 170 7)))) s20)))))) ∧ (¬ ((1 : Int) < (2 : Int)) → _)))) ∧ (¬ (r19 = ((-1) : Int)) → (170 = 170 ∧ (rq_blame (2) (s17 170 4) s17 ∧ (∀ (s21 : zS), en_blame (2) (s17 170 4) s17 s21 → ((-2147483648 ≤ (1 : Int) + 1 ∧ (1 : Int) + 1 ≤ 2147483647) ∧ (((1 : Int) < (2 : Int) → ((¬ s21 170 8 = (0 : Int) → Q (some (.inr (.inl (s21 170 7)))) s21) ∧ (¬ (¬ s21 170 8 = (0 : Int)) → (170 = 170 ∧ (rq_rNext t n  s21 ∧ (∀ (s22 : zS), en_rNext t n  s21 s22 → Q (some (.inr (.inl (s21 170 7)))) s22)))))) ∧ (¬ ((1 : Int) < (2 : Int)) → _)))))))))))))))))))))))))))))))) ∧ (¬ (¬ s8 170 3 = (1 : Int)) → (170 = 170 ∧ (∀ (r23 : Int), en_rIsOwn (s8 170 7) s8 r23 → ((r23 = (0 : Int) → (((1 : Int) < (0 : Int) → _) ∧ (¬ ((1 : Int) < (0 : Int)) → ((¬ s8 170 8 = (0 : Int) → ((¬ s8 170 8 = (0 : Int) → Q (some (.inr (.inl (s8 170 7)))) s8) ∧ (¬ (¬ s8 170 8 = (0 : Int)) → (170 = 170 ∧ (rq_rNext t n  s8 ∧ (∀ (s24 : zS), en_rNext t n  s8 s24 → Q (some (.inr (.inl (s8 170 7)))) s24)))))) ∧ (¬ (¬ s8 170 8 = (0 : Int)) → (170 = 170 ∧ (rq_rNamed (0) (s8 170 7) s8 ∧ (∀ (r25 : Int), en_rNamed (0) (s8 170 7) s8 r25 → ((r25 = ((-1) : Int) → ((-2147483648 ≤ (0 : Int) + 1 ∧ (0 : Int) + 1 ≤ 2147483647) ∧ (((1 : Int) < (1 : Int) → _) ∧ (¬ ((1 : Int) < (1 : Int)) → ((¬ s8 170 8 = (0 : Int) → ((¬ s8 170 8 = (0 : Int) → Q (some (.inr (.inl (s8 170 7)))) s8) ∧ (¬ (¬ s8 170 8 = (0 : Int)) → (170 = 170 ∧ (rq_rNext t n  s8 ∧ (∀ (s26 : zS), en_rNext t n  s8 s26 → Q (some (.inr (.inl (s8 170 7)))) s26)))))) ∧ (¬ (¬ s8 170 8 = (0 : Int)) → (170 = 170 ∧ (rq_rNamed (1) (s8 170 7) s8 ∧ (∀ (r27 : Int), en_rNamed (1) (s8 170 7) s8 r27 → ((r27 = ((-1) : Int) → ((-2147483648 ≤ (1 : Int) + 1 ∧ (1 : Int) + 1 ≤ 2147483647) ∧ (((1 : Int) < (2 : Int) → ((¬ s8 170 8 = (0 : Int) → Q (some (.inr (.inl (s8 170 7)))) s8) ∧ (¬ (¬ s8 170 8 = (0 : Int)) → (170 = 170 ∧ (rq_rNext t n  s8 ∧ (∀ (s28 : zS), en_rNext t n  s8 s28 → Q (some (.inr (.inl (s8 170 7)))) s28)))))) ∧ (¬ ((1 : Int) < (2 : Int)) → _)))) ∧ (¬ (r27 = ((-1) : Int)) → (170 = 170 ∧ (rq_blame (2) (s8 170 4) s8 ∧ (∀ (s29 : zS), en_blame (2) (s8 170 4) s8 s29 → ((-2147483648 ≤ (1 : Int) + 1 ∧ (1 : Int) + 1 ≤ 2147483647) ∧ (((1 : Int) < (2 : Int) → ((¬ s29 170 8 = (0 : Int) → Q (some (.inr (.inl (s29 170 7)))) s29) ∧ (¬ (¬ s29 170 8 = (0 : Int)) → (170 = 170 ∧ (rq_rNext t n  s29 ∧ (∀ (s30 : zS), en_rNext t n  s29 s30 → Q (some (.inr (.inl (s29 170 7)))) s30)))))) ∧ (¬ ((1 : Int) < (2 : Int)) → _))))))))))))))))) ∧ (¬ (r25 = ((-1) : Int)) → (170 = 170 ∧ (rq_blame (2) (s8 170 4) s8 ∧ (∀ (s31 : zS), en_blame (2) (s8 170 4) s8 s31 → ((-2147483648 ≤ (0 : Int) + 1 ∧ (0 : Int) + 1 ≤ 2147483647) ∧ (((1 : Int) < (1 : Int) → _) ∧ (¬ ((1 : Int) < (1 : Int)) → ((¬ s31 170 8 = (0 : Int) → ((¬ s31 170 8 = (0 : Int) → Q (some (.inr (.inl (s31 170 7)))) s31) ∧ (¬ (¬ s31 170 8 = (0 : Int)) → (170 = 170 ∧ (rq_rNext t n  s31 ∧ (∀ (s32 : zS), en_rNext t n  s31 s32 → Q (some (.inr (.inl (s31 170 7)))) s32)))))) ∧ (¬ (¬ s31 170 8 = (0 : Int)) → (170 = 170 ∧ (rq_rNamed (1) (s31 170 7) s31 ∧ (∀ (r33 : Int), en_rNamed (1) (s31 170 7) s31 r33 → ((r33 = ((-1) : Int) → ((-2147483648 ≤ (1 : Int) + 1 ∧ (1 : Int) + 1 ≤ 2147483647) ∧ (((1 : Int) < (2 : Int) → ((¬ s31 170 8 = (0 : Int) → Q (some (.inr (.inl (s31 170 7)))) s31) ∧ (¬ (¬ s31 170 8 = (0 : Int)) → (170 = 170 ∧ (rq_rNext t n  s31 ∧ (∀ (s34 : zS), en_rNext t n  s31 s34 → Q (some (.inr (.inl (s31 170 7)))) s34)))))) ∧ (¬ ((1 : Int) < (2 : Int)) → _)))) ∧ (¬ (r33 = ((-1) : Int)) → (170 = 170 ∧ (rq_blame (2) (s31 170 4) s31 ∧ (∀ (s35 : zS), en_blame (2) (s31 170 4) s31 s35 → ((-2147483648 ≤ (1 : Int) + 1 ∧ (1 : Int) + 1 ≤ 2147483647) ∧ (((1 : Int) < (2 : Int) → ((¬ s35 170 8 = (0 : Int) → Q (some (.inr (.inl (s35 170 7)))) s35) ∧ (¬ (¬ s35 170 8 = (0 : Int)) → (170 = 170 ∧ (rq_rNext t n  s35 ∧ (∀ (s36 : zS), en_rNext t n  s35 s36 → Q (some (.inr (.inl (s35 170 7)))) s36)))))) ∧ (¬ ((1 : Int) < (2 : Int)) → _))))))))))))))))))))))))))))) ∧ (¬ (r23 = (0 : Int)) → (170 = 170 ∧ (rq_blame (1) (s8 170 4) s8 ∧ (∀ (s37 : zS), en_blame (1) (s8 170 4) s8 s37 → (((1 : Int) < (0 : Int) → _) ∧ (¬ ((1 : Int) < (0 : Int)) → ((¬ s37 170 8 = (0 : Int) → ((¬ s37 170 8 = (0 : Int) → Q (some (.inr (.inl (s37 170 7)))) s37) ∧ (¬ (¬ s37 170 8 = (0 : Int)) → (170 = 170 ∧ (rq_rNext t n  s37 ∧ (∀ (s38 : zS), en_rNext t n  s37 s38 → Q (some (.inr (.inl (s37 170 7)))) s38)))))) ∧ (¬ (¬ s37 170 8 = (0 : Int)) → (170 = 170 ∧ (rq_rNamed (0) (s37 170 7) s37 ∧ (∀ (r39 : Int), en_rNamed (0) (s37 170 7) s37 r39 → ((r39 = ((-1) : Int) → ((-2147483648 ≤ (0 : Int) + 1 ∧ (0 : Int) + 1 ≤ 2147483647) ∧ (((1 : Int) < (1 : Int) → _) ∧ (¬ ((1 : Int) < (1 : Int)) → ((¬ s37 170 8 = (0 : Int) → ((¬ s37 170 8 = (0 : Int) → Q (some (.inr (.inl (s37 170 7)))) s37) ∧ (¬ (¬ s37 170 8 = (0 : Int)) → (170 = 170 ∧ (rq_rNext t n  s37 ∧ (∀ (s40 : zS), en_rNext t n  s37 s40 → Q (some (.inr (.inl (s37 170 7)))) s40)))))) ∧ (¬ (¬ s37 170 8 = (0 : Int)) → (170 = 170 ∧ (rq_rNamed (1) (s37 170 7) s37 ∧ (∀ (r41 : Int), en_rNamed (1) (s37 170 7) s37 r41 → ((r41 = ((-1) : Int) → ((-2147483648 ≤ (1 : Int) + 1 ∧ (1 : Int) + 1 ≤ 2147483647) ∧ (((1 : Int) < (2 : Int) → ((¬ s37 170 8 = (0 : Int) → Q (some (.inr (.inl (s37 170 7)))) s37) ∧ (¬ (¬ s37 170 8 = (0 : Int)) → (170 = 170 ∧ (rq_rNext t n  s37 ∧ (∀ (s42 : zS), en_rNext t n  s37 s42 → Q (some (.inr (.inl (s37 170 7)))) s42)))))) ∧ (¬ ((1 : Int) < (2 : Int)) → _)))) ∧ (¬ (r41 = ((-1) : Int)) → (170 = 170 ∧ (rq_blame (2) (s37 170 4) s37 ∧ (∀ (s43 : zS), en_blame (2) (s37 170 4) s37 s43 → ((-2147483648 ≤ (1 : Int) + 1 ∧ (1 : Int) + 1 ≤ 2147483647) ∧ (((1 : Int) < (2 : Int) → ((¬ s43 170 8 = (0 : Int) → Q (some (.inr (.inl (s43 170 7)))) s43) ∧ (¬ (¬ s43 170 8 = (0 : Int)) → (170 = 170 ∧ (rq_rNext t n  s43 ∧ (∀ (s44 : zS), en_rNext t n  s43 s44 → Q (some (.inr (.inl (s43 170 7)))) s44)))))) ∧ (¬ ((1 : Int) < (2 : Int)) → _))))))))))))))))) ∧ (¬ (r39 = ((-1) : Int)) → (170 = 170 ∧ (rq_blame (2) (s37 170 4) s37 ∧ (∀ (s45 : zS), en_blame (2) (s37 170 4) s37 s45 → ((-2147483648 ≤ (0 : Int) + 1 ∧ (0 : Int) + 1 ≤ 2147483647) ∧ (((1 : Int) < (1 : Int) → _) ∧ (¬ ((1 : Int) < (1 : Int)) → ((¬ s45 170 8 = (0 : Int) → ((¬ s45 170 8 = (0 : Int) → Q (some (.inr (.inl (s45 170 7)))) s45) ∧ (¬ (¬ s45 170 8 = (0 : Int)) → (170 = 170 ∧ (rq_rNext t n  s45 ∧ (∀ (s46 : zS), en_rNext t n  s45 s46 → Q (some (.inr (.inl (s45 170 7)))) s46)))))) ∧ (¬ (¬ s45 170 8 = (0 : Int)) → (170 = 170 ∧ (rq_rNamed (1) (s45 170 7) s45 ∧ (∀ (r47 : Int), en_rNamed (1) (s45 170 7) s45 r47 → ((r47 = ((-1) : Int) → ((-2147483648 ≤ (1 : Int) + 1 ∧ (1 : Int) + 1 ≤ 2147483647) ∧ (((1 : Int) < (2 : Int) → ((¬ s45 170 8 = (0 : Int) → Q (some (.inr (.inl (s45 170 7)))) s45) ∧ (¬ (¬ s45 170 8 = (0 : Int)) → (170 = 170 ∧ (rq_rNext t n  s45 ∧ (∀ (s48 : zS), en_rNext t n  s45 s48 → Q (some (.inr (.inl (s45 170 7)))) s48)))))) ∧ (¬ ((1 : Int) < (2 : Int)) → _)))) ∧ (¬ (r47 = ((-1) : Int)) → (170 = 170 ∧ (rq_blame (2) (s45 170 4) s45 ∧ (∀ (s49 : zS), en_blame (2) (s45 170 4) s45 s49 → ((-2147483648 ≤ (1 : Int) + 1 ∧ (1 : Int) + 1 ≤ 2147483647) ∧ (((1 : Int) < (2 : Int) → ((¬ s49 170 8 = (0 : Int) → Q (some (.inr (.inl (s49 170 7)))) s49) ∧ (¬ (¬ s49 170 8 = (0 : Int)) → (170 = 170 ∧ (rq_rNext t n  s49 ∧ (∀ (s50 : zS), en_rNext t n  s49 s50 → Q (some (.inr (.inl (s49 170 7)))) s50)))))) ∧ (¬ ((1 : Int) < (2 : Int)) → _)))))))))))))))))))))))))))))))))))))) ∧ (¬ (s8 170 8 ≤ (0 : Int)) → Q (some (.inr (.inl 0))) s8)))))
  refine ⟨rfl, hG, fun s8 q8 => ?_⟩
  obtain ⟨gs8, fs8, p8⟩ := q8
  change (0 < st 170 8 → 0 < s8 170 8) ∧ (st 170 8 = 0 → st 170 12 = -1 → s8 170 8 = 0) ∧ (¬ st 170 12 = -1 → 0 < s8 170 8) at p8
  have g51 := g_faultKind gs8
  refine ⟨fun h52 => ?_, fun h52 => ?_⟩
  · have e53 : s8 170 3 = st 170 3 := fs8 170 3 rfl rfl
    refine ⟨fun h54 => ?_, fun h54 => ?_⟩
    · have e55 : s8 170 4 = st 170 4 := fs8 170 4 rfl rfl
      refine ⟨rfl, ⟨gs8, (show 1 ≤ (1) ∧ (1) ≤ 6 from by omega), (show -2147483648 ≤ (s8 170 4) ∧ (s8 170 4) ≤ 2147483647 from by omega)⟩, fun s9 q9 => ?_⟩
      obtain ⟨gs9, fs9, p9⟩ := q9
      change (s8 170 8 = 0 → s9 170 8 = (1)) ∧ (0 < s8 170 8 → s9 170 8 = s8 170 8) at p9
      have g56 := g_faultKind gs9
      refine ⟨fun h57 => absurd h57 (by decide), fun h57 => ?_⟩
      refine ⟨fun h58 => ?_, fun h58 => (by exfalso; omega)⟩
      have e61 : s8 170 7 = st 170 7 := fs8 170 7 rfl rfl
      have e60 : s9 170 7 = s8 170 7 := fs9 170 7 rfl rfl
      refine ⟨fun h59 => ?_, fun h59 => (by exfalso; omega)⟩
      have e62 : s9 170 4 = s8 170 4 := fs9 170 4 rfl rfl
      exact hQ _ _ ⟨gs9, (fr_tr (fr_tr (fr_rf _ _) fs8 rfl) fs9 rfl), (show -9223372036854775808 ≤ (s9 170 7) ∧ (s9 170 7) ≤ 9223372036854775807 from by omega), (show (s9 170 8 = 0 ∧ st 170 8 = 0 ∧ ∃ x : Int, tk t n (st 170 4) 1 (s9 170 7) (s9 170 4) ∧ NOwn (s9 170 7) ∧ isN6 (s9 170 7) x ∧ FrN T x ∧ RDr s9 t n) ∨ (0 < s9 170 8 ∧ st 170 8 = 0 ∧ ¬ ∃ v x e : Int, tk t n (st 170 4) 1 v e ∧ NOwn v ∧ isN6 v x ∧ FrN T x) ∨ (0 < s9 170 8 ∧ 0 < st 170 8) from (by
            by_cases z0 : st 170 8 = 0
            · refine Or.inr (Or.inl ⟨by omega, z0, fun hx => ?_⟩)
              obtain ⟨v, x, e, h1, h2, h3, h4⟩ := hx
              have z := r_wrd (rd z0) h1
              omega
            · exact Or.inr (Or.inr ⟨by omega, by omega⟩)))⟩
    · have e63 : s8 170 7 = st 170 7 := fs8 170 7 rfl rfl
      refine ⟨rfl, fun r23 q23 => ?_⟩
      have e23 := q23
      change (r23 = 1 ∧ ¬ NOwn (s8 170 7)) ∨ (r23 = 0 ∧ NOwn (s8 170 7)) at e23
      refine ⟨fun h64 => ?_, fun h64 => ?_⟩
      · refine ⟨fun h65 => absurd h65 (by decide), fun h65 => ?_⟩
        refine ⟨fun h66 => (by exfalso; omega), fun h66 => ?_⟩
        refine ⟨rfl, gs8, fun r25 q25 => ?_⟩
        obtain ⟨b25, e25⟩ := q25
        change -1 ≤ r25 ∧ r25 < 8 at b25
        change ((0) = 0 → NMD (s8 170 35) (s8 172 (s8 170 35 : Int).toNat) (s8 170 7) r25 (s8 190)) ∧ (¬ (0) = 0 → NMD (s8 170 35) (s8 181 (s8 170 35 : Int).toNat) (s8 170 7) r25 (s8 191)) at e25
        have e67 : s8 170 35 = st 170 35 := fs8 170 35 rfl rfl
        have g69 := g_places hG (st 170 35 : Int).toNat
        have e68 : s8 172 (s8 170 35 : Int).toNat = st 172 (st 170 35 : Int).toNat := (fs8 172 (s8 170 35 : Int).toNat rfl rfl).trans (by rw [e67] <;> rfl)
        have g71 := g_things hG (st 170 35 : Int).toNat
        have e70 : s8 181 (s8 170 35 : Int).toNat = st 181 (st 170 35 : Int).toNat := (fs8 181 (s8 170 35 : Int).toNat rfl rfl).trans (by rw [e67] <;> rfl)
        refine ⟨fun h72 => ?_, fun h72 => ?_⟩
        · refine ⟨by omega, ?_⟩
          refine ⟨fun h73 => absurd h73 (by decide), fun h73 => ?_⟩
          refine ⟨fun h74 => (by exfalso; omega), fun h74 => ?_⟩
          refine ⟨rfl, gs8, fun r27 q27 => ?_⟩
          obtain ⟨b27, e27⟩ := q27
          change -1 ≤ r27 ∧ r27 < 8 at b27
          change ((1) = 0 → NMD (s8 170 35) (s8 172 (s8 170 35 : Int).toNat) (s8 170 7) r27 (s8 190)) ∧ (¬ (1) = 0 → NMD (s8 170 35) (s8 181 (s8 170 35 : Int).toNat) (s8 170 7) r27 (s8 191)) at e27
          refine ⟨fun h75 => ?_, fun h75 => ?_⟩
          · refine ⟨by omega, ?_⟩
            refine ⟨fun h76 => ?_, fun h76 => absurd (by decide) h76⟩
            refine ⟨fun h77 => (by exfalso; omega), fun h77 => ?_⟩
            have e78 : s8 170 12 = st 170 12 := fs8 170 12 rfl rfl
            refine ⟨rfl, ⟨gs8, (show RDr s8 t n from (show RDr s8 t n from (RDr_of (fs8 170 2 rfl rfl) (fun i => fs8 171 i rfl rfl) (fs8 170 3 rfl rfl) (fs8 170 4 rfl rfl) (fs8 170 5 rfl rfl) (fs8 170 6 rfl rfl) (fs8 170 7 rfl rfl) (fs8 170 12 rfl rfl) (rd (by omega))))), (show s8 170 12 = -1 from by omega)⟩, fun s28 q28 => ?_⟩
            obtain ⟨gs28, fs28, rd28, nx28⟩ := q28
            change RDr s28 t n at rd28
            change NXr s8 s28 t n at nx28
            have e79 : s28 170 8 = s8 170 8 := fs28 170 8 rfl rfl
            have g80 := g_signAt gs28
            exact hQ _ _ ⟨gs28, (fr_tr (fr_tr (fr_rf _ _) fs8 rfl) fs28 rfl), (show -9223372036854775808 ≤ (s8 170 7) ∧ (s8 170 7) ≤ 9223372036854775807 from by omega), (show (s28 170 8 = 0 ∧ st 170 8 = 0 ∧ ∃ x : Int, tk t n (st 170 4) 1 (s8 170 7) (s28 170 4) ∧ NOwn (s8 170 7) ∧ isN6 (s8 170 7) x ∧ FrN T x ∧ RDr s28 t n) ∨ (0 < s28 170 8 ∧ st 170 8 = 0 ∧ ¬ ∃ v x e : Int, tk t n (st 170 4) 1 v e ∧ NOwn v ∧ isN6 v x ∧ FrN T x) ∨ (0 < s28 170 8 ∧ 0 < st 170 8) from (by
            have z0 : st 170 8 = 0 := by omega
            obtain ⟨q, hq⟩ := r_isw (rd z0) (by omega) (by omega)
            have e := NXr_e nx28 (show tk t n (s8 170 4) _ _ q from by rw [show s8 170 4 = st 170 4 from ((fs8 170 4 rfl rfl).trans (show st 170 4 = st 170 4 from rfl))]; exact hq) (by omega)
            obtain ⟨x, hx⟩ := tk_n6 hq (rd z0).2.1.1
            have nq0 := e25.1 (by omega)
            rw [show s8 170 35 = st 170 35 from by omega, show s8 172 = st 172 from funext (fun i => (fs8 172 i rfl rfl).trans ((fun _ => rfl) i)), show s8 190 = st 190 from funext (fun i => (fs8 190 i rfl rfl).trans ((fun _ => rfl) i)), rn.1, show s8 170 7 = st 170 7 from by omega] at nq0
            have nq1 := e27.2 (by omega)
            rw [show s8 170 35 = st 170 35 from by omega, show s8 181 = st 181 from funext (fun i => (fs8 181 i rfl rfl).trans ((fun _ => rfl) i)), show s8 191 = st 191 from funext (fun i => (fs8 191 i rfl rfl).trans ((fun _ => rfl) i)), rt.1, show s8 170 7 = st 170 7 from by omega] at nq1
            rw [show r25 = -1 from by omega] at nq0
            rw [show r27 = -1 from by omega] at nq1
            have hw : NOwn (st 170 7) := by
              rcases e23 with y | y
              · exfalso; omega
              · rw [show st 170 7 = s8 170 7 from by omega]; exact y.2
            rw [show s8 170 7 = st 170 7 from by omega]
            exact Or.inl ⟨by omega, z0, x, (by rw [e]; exact hq), hw, hx, NMD_fr rn rt hx nq0 nq1, rd28⟩))⟩
          · have e81 : s8 170 4 = st 170 4 := fs8 170 4 rfl rfl
            refine ⟨rfl, ⟨gs8, (show 1 ≤ (2) ∧ (2) ≤ 6 from by omega), (show -2147483648 ≤ (s8 170 4) ∧ (s8 170 4) ≤ 2147483647 from by omega)⟩, fun s29 q29 => ?_⟩
            obtain ⟨gs29, fs29, p29⟩ := q29
            change (s8 170 8 = 0 → s29 170 8 = (2)) ∧ (0 < s8 170 8 → s29 170 8 = s8 170 8) at p29
            have g82 := g_faultKind gs29
            refine ⟨by omega, ?_⟩
            refine ⟨fun h83 => ?_, fun h83 => absurd (by decide) h83⟩
            have e85 : s29 170 7 = s8 170 7 := fs29 170 7 rfl rfl
            refine ⟨fun h84 => ?_, fun h84 => (by exfalso; omega)⟩
            have e86 : s29 170 4 = s8 170 4 := fs29 170 4 rfl rfl
            exact hQ _ _ ⟨gs29, (fr_tr (fr_tr (fr_rf _ _) fs8 rfl) fs29 rfl), (show -9223372036854775808 ≤ (s29 170 7) ∧ (s29 170 7) ≤ 9223372036854775807 from by omega), (show (s29 170 8 = 0 ∧ st 170 8 = 0 ∧ ∃ x : Int, tk t n (st 170 4) 1 (s29 170 7) (s29 170 4) ∧ NOwn (s29 170 7) ∧ isN6 (s29 170 7) x ∧ FrN T x ∧ RDr s29 t n) ∨ (0 < s29 170 8 ∧ st 170 8 = 0 ∧ ¬ ∃ v x e : Int, tk t n (st 170 4) 1 v e ∧ NOwn v ∧ isN6 v x ∧ FrN T x) ∨ (0 < s29 170 8 ∧ 0 < st 170 8) from (by
            by_cases z0 : st 170 8 = 0
            · refine Or.inr (Or.inl ⟨by omega, z0, fun hx => ?_⟩)
              obtain ⟨v, x, e, h1, h2, h3, h4⟩ := hx
              have z := r_wrd (rd z0) h1
              rw [← z.2.1] at h3
              have nq1 := e27.2 (by omega)
              rw [show s8 170 35 = st 170 35 from by omega, show s8 181 = st 181 from funext (fun i => (fs8 181 i rfl rfl).trans ((fun _ => rfl) i)), show s8 191 = st 191 from funext (fun i => (fs8 191 i rfl rfl).trans ((fun _ => rfl) i)), rt.1, show s8 170 7 = st 170 7 from by omega] at nq1
              exact NMD_n2 rt h3 nq1 (by omega) h4
            · exact Or.inr (Or.inr ⟨by omega, by omega⟩)))⟩
        · have e87 : s8 170 4 = st 170 4 := fs8 170 4 rfl rfl
          refine ⟨rfl, ⟨gs8, (show 1 ≤ (2) ∧ (2) ≤ 6 from by omega), (show -2147483648 ≤ (s8 170 4) ∧ (s8 170 4) ≤ 2147483647 from by omega)⟩, fun s31 q31 => ?_⟩
          obtain ⟨gs31, fs31, p31⟩ := q31
          change (s8 170 8 = 0 → s31 170 8 = (2)) ∧ (0 < s8 170 8 → s31 170 8 = s8 170 8) at p31
          have g88 := g_faultKind gs31
          refine ⟨by omega, ?_⟩
          refine ⟨fun h89 => absurd h89 (by decide), fun h89 => ?_⟩
          refine ⟨fun h90 => ?_, fun h90 => (by exfalso; omega)⟩
          have e92 : s31 170 7 = s8 170 7 := fs31 170 7 rfl rfl
          refine ⟨fun h91 => ?_, fun h91 => (by exfalso; omega)⟩
          have e93 : s31 170 4 = s8 170 4 := fs31 170 4 rfl rfl
          exact hQ _ _ ⟨gs31, (fr_tr (fr_tr (fr_rf _ _) fs8 rfl) fs31 rfl), (show -9223372036854775808 ≤ (s31 170 7) ∧ (s31 170 7) ≤ 9223372036854775807 from by omega), (show (s31 170 8 = 0 ∧ st 170 8 = 0 ∧ ∃ x : Int, tk t n (st 170 4) 1 (s31 170 7) (s31 170 4) ∧ NOwn (s31 170 7) ∧ isN6 (s31 170 7) x ∧ FrN T x ∧ RDr s31 t n) ∨ (0 < s31 170 8 ∧ st 170 8 = 0 ∧ ¬ ∃ v x e : Int, tk t n (st 170 4) 1 v e ∧ NOwn v ∧ isN6 v x ∧ FrN T x) ∨ (0 < s31 170 8 ∧ 0 < st 170 8) from (by
            by_cases z0 : st 170 8 = 0
            · refine Or.inr (Or.inl ⟨by omega, z0, fun hx => ?_⟩)
              obtain ⟨v, x, e, h1, h2, h3, h4⟩ := hx
              have z := r_wrd (rd z0) h1
              rw [← z.2.1] at h3
              have nq0 := e25.1 (by omega)
              rw [show s8 170 35 = st 170 35 from by omega, show s8 172 = st 172 from funext (fun i => (fs8 172 i rfl rfl).trans ((fun _ => rfl) i)), show s8 190 = st 190 from funext (fun i => (fs8 190 i rfl rfl).trans ((fun _ => rfl) i)), rn.1, show s8 170 7 = st 170 7 from by omega] at nq0
              exact NMD_n1 rn h3 nq0 (by omega) h4
            · exact Or.inr (Or.inr ⟨by omega, by omega⟩)))⟩
      · have e94 : s8 170 4 = st 170 4 := fs8 170 4 rfl rfl
        refine ⟨rfl, ⟨gs8, (show 1 ≤ (1) ∧ (1) ≤ 6 from by omega), (show -2147483648 ≤ (s8 170 4) ∧ (s8 170 4) ≤ 2147483647 from by omega)⟩, fun s37 q37 => ?_⟩
        obtain ⟨gs37, fs37, p37⟩ := q37
        change (s8 170 8 = 0 → s37 170 8 = (1)) ∧ (0 < s8 170 8 → s37 170 8 = s8 170 8) at p37
        have g95 := g_faultKind gs37
        refine ⟨fun h96 => absurd h96 (by decide), fun h96 => ?_⟩
        refine ⟨fun h97 => ?_, fun h97 => (by exfalso; omega)⟩
        have e99 : s37 170 7 = s8 170 7 := fs37 170 7 rfl rfl
        refine ⟨fun h98 => ?_, fun h98 => (by exfalso; omega)⟩
        have e100 : s37 170 4 = s8 170 4 := fs37 170 4 rfl rfl
        exact hQ _ _ ⟨gs37, (fr_tr (fr_tr (fr_rf _ _) fs8 rfl) fs37 rfl), (show -9223372036854775808 ≤ (s37 170 7) ∧ (s37 170 7) ≤ 9223372036854775807 from by omega), (show (s37 170 8 = 0 ∧ st 170 8 = 0 ∧ ∃ x : Int, tk t n (st 170 4) 1 (s37 170 7) (s37 170 4) ∧ NOwn (s37 170 7) ∧ isN6 (s37 170 7) x ∧ FrN T x ∧ RDr s37 t n) ∨ (0 < s37 170 8 ∧ st 170 8 = 0 ∧ ¬ ∃ v x e : Int, tk t n (st 170 4) 1 v e ∧ NOwn v ∧ isN6 v x ∧ FrN T x) ∨ (0 < s37 170 8 ∧ 0 < st 170 8) from (by
            by_cases z0 : st 170 8 = 0
            · refine Or.inr (Or.inl ⟨by omega, z0, fun hx => ?_⟩)
              obtain ⟨v, x, e, h1, h2, h3, h4⟩ := hx
              have z := r_wrd (rd z0) h1
              rw [← z.2.1, show st 170 7 = s8 170 7 from by omega] at h2
              rcases e23 with y | y
              · first | exact y.2 h2 | (exfalso; omega)
              · exfalso; omega
            · exact Or.inr (Or.inr ⟨by omega, by omega⟩)))⟩
  · have e101 : s8 170 4 = st 170 4 := fs8 170 4 rfl rfl
    exact hQ _ _ ⟨gs8, (fr_tr (fr_rf _ _) fs8 rfl), (show -9223372036854775808 ≤ (0 : Int) ∧ (0 : Int) ≤ 9223372036854775807 from by omega), (show (s8 170 8 = 0 ∧ st 170 8 = 0 ∧ ∃ x : Int, tk t n (st 170 4) 1 (0 : Int) (s8 170 4) ∧ NOwn (0 : Int) ∧ isN6 (0 : Int) x ∧ FrN T x ∧ RDr s8 t n) ∨ (0 < s8 170 8 ∧ st 170 8 = 0 ∧ ¬ ∃ v x e : Int, tk t n (st 170 4) 1 v e ∧ NOwn v ∧ isN6 v x ∧ FrN T x) ∨ (0 < s8 170 8 ∧ 0 < st 170 8) from (by
            by_cases z0 : st 170 8 = 0
            · refine Or.inr (Or.inl ⟨by omega, z0, fun hx => ?_⟩)
              obtain ⟨v, x, e, h1, h2, h3, h4⟩ := hx
              have z := r_wrd (rd z0) h1
              omega
            · exact Or.inr (Or.inr ⟨by omega, by omega⟩)))⟩
theorem k_rFresh_m (hTb : aTb zSh rx_tb cl) {t : Int → Int} {n : Int} {T : zS} {D : Nat} (hD : 3 ≤ D) : ∀ as st (Q Q' : zQ), (∀ r st', Q r st' → Q' r st') → (k_rFresh t n T) 202 as st Q → cl D 202 as st Q' := by
  intro as st Q Q' hQ h
  unfold k_rFresh at h
  split at h
  · obtain ⟨rfl, h⟩ := h
    exact c_rFresh hTb hD (ct_rFresh_m hQ h)
  · exact h.elim
set_option maxHeartbeats 4000000 in
set_option maxRecDepth 100000 in
theorem c_rKnown (hTb : aTb zSh rx_tb cl) {t : Int → Int} {n : Int} {T : zS} {D : Nat} (hD : 3 ≤ D) {u : Int} {st : zS} {Q : zQ} (h : ct_rKnown t n T u st Q) : cl D 203 [.inr (.inr (.inl 170)), .inl u] st Q := by
  obtain ⟨d, rfl⟩ : ∃ d, D = d + 1 := ⟨D - 1, by omega⟩
  refine hTb d 203 (rx_m203, 3, 0, 0, 1) rfl _ _ _ (Nat.le_of_ble_eq_true rfl) (fun K hcl hsf hsl => ?_)
  have hcm : zmo (wcL [(181, k_rLexX), (185, k_rIsOwn), (178, k_blame), (187, k_rNamed), (201, k_has2), (149, k_rNext t n)]) (cl d) := (wcL_m (wm_cons (k_rLexX_m hTb (by omega)) (wm_cons (k_rIsOwn_m hTb (by omega)) (wm_cons (k_blame_m hTb (by omega)) (wm_cons (k_rNamed_m hTb (by omega)) (wm_cons (k_has2_m hTb (by omega)) (wm_cons (k_rNext_m hTb (by omega)) wm_nil)))))))
  obtain ⟨hR, hQ⟩ := h
  obtain ⟨hG, rd, rn⟩ := hR
  change st 170 8 = 0 → RDr st t n at rd
  change RTn (st 170 35) T st at rn
  have g1 := g_faultKind hG
  have g2 := g_in hG
  have g3 := g_sign hG
  have g4 := g_signAt hG
  have g5 := g_value hG
  have g6 := g_word hG
  have g7 := g_lexAt hG
  refine yr1_ok (Rt := Q) (wc := (wcL [(181, k_rLexX), (185, k_rIsOwn), (178, k_blame), (187, k_rNamed), (201, k_has2), (149, k_rNext t n)])) (stp := []) hcm hcl [] 79 ?_
  show (170 = 170 ∧ (rq_rLexX  st ∧ (∀ (s8 : zS), en_rLexX  st s8 → ((s8 170 8 ≤ (0 : Int) → ((¬ s8 170 3 = (1 : Int) → (170 = 170 ∧ (rq_blame (1) (s8 170 4) s8 ∧ (∀ (s9 : zS), en_blame (1) (s8 170 4) s8 s9 → ((s9 170 8 ≤ (0 : Int) → (170 = 170 ∧ (rq_rNamed (0) (s9 170 7) s9 ∧ (∀ (r10 : Int), en_rNamed (0) (s9 170 7) s9 r10 → ((¬ s9 170 8 = (0 : Int) → ((¬ s9 170 8 = (0 : Int) → ((s9 170 8 ≤ (0 : Int) → Q (some (.inl r10)) s9) ∧ (¬ (s9 170 8 ≤ (0 : Int)) → Q (some (.inl 0)) s9))) ∧ (¬ (¬ s9 170 8 = (0 : Int)) → (170 = 170 ∧ (rq_rNext t n  s9 ∧ (∀ (s11 : zS), en_rNext t n  s9 s11 → ((s11 170 8 ≤ (0 : Int) → Q (some (.inl r10)) s11) ∧ (¬ (s11 170 8 ≤ (0 : Int)) → Q (some (.inl 0)) s11)))))))) ∧ (¬ (¬ s9 170 8 = (0 : Int)) → ((r10 = ((-1) : Int) → (170 = 170 ∧ (rq_blame (3) (s9 170 4) s9 ∧ (∀ (s12 : zS), en_blame (3) (s9 170 4) s9 s12 → ((¬ s12 170 8 = (0 : Int) → ((s12 170 8 ≤ (0 : Int) → Q (some (.inl r10)) s12) ∧ (¬ (s12 170 8 ≤ (0 : Int)) → Q (some (.inl 0)) s12))) ∧ (¬ (¬ s12 170 8 = (0 : Int)) → (170 = 170 ∧ (rq_rNext t n  s12 ∧ (∀ (s13 : zS), en_rNext t n  s12 s13 → ((s13 170 8 ≤ (0 : Int) → Q (some (.inl r10)) s13) ∧ (¬ (s13 170 8 ≤ (0 : Int)) → Q (some (.inl 0)) s13))))))))))) ∧ (¬ (r10 = ((-1) : Int)) → (∀ (r14 : Int), en_has2 u r10 s9 r14 → ((r14 = (0 : Int) → ((¬ s9 170 8 = (0 : Int) → ((s9 170 8 ≤ (0 : Int) → Q (some (.inl r10)) s9) ∧ (¬ (s9 170 8 ≤ (0 : Int)) → Q (some (.inl 0)) s9))) ∧ (¬ (¬ s9 170 8 = (0 : Int)) → (170 = 170 ∧ (rq_rNext t n  s9 ∧ (∀ (s15 : zS), en_rNext t n  s9 s15 → ((s15 170 8 ≤ (0 : Int) → Q (some (.inl r10)) s15) ∧ (¬ (s15 170 8 ≤ (0 : Int)) → Q (some (.inl 0)) s15)))))))) ∧ (¬ (r14 = (0 : Int)) → (170 = 170 ∧ (rq_blame (3) (s9 170 4) s9 ∧ (∀ (s16 : zS), en_blame (3) (s9 170 4) s9 s16 → ((¬ s16 170 8 = (0 : Int) → ((s16 170 8 ≤ (0 : Int) → Q (some (.inl r10)) s16) ∧ (¬ (s16 170 8 ≤ (0 : Int)) → Q (some (.inl 0)) s16))) ∧ (¬ (¬ s16 170 8 = (0 : Int)) → (170 = 170 ∧ (rq_rNext t n  s16 ∧ (∀ (s17 : zS), en_rNext t n  s16 s17 → ((s17 170 8 ≤ (0 : Int) → Q (some (.inl r10)) s17) ∧ (¬ (s17 170 8 ≤ (0 : Int)) → Q (some (.inl 0)) s17))))))))))))))))))))) ∧ (¬ (s9 170 8 ≤ (0 : Int)) → ((¬ s9 170 8 = (0 : Int) → ((¬ s9 170 8 = (0 : Int) → ((s9 170 8 ≤ (0 : Int) → Q (some (.inl 0)) s9) ∧ (¬ (s9 170 8 ≤ (0 : Int)) → Q (some (.inl 0)) s9))) ∧ (¬ (¬ s9 170 8 = (0 : Int)) → (170 = 170 ∧ (rq_rNext t n  s9 ∧ (∀ (s18 : zS), en_rNext t n  s9 s18 → ((s18 170 8 ≤ (0 : Int) → Q (some (.inl 0)) s18) ∧ (¬ (s18 170 8 ≤ (0 : Int)) → Q (some (.inl 0)) s18)))))))) ∧ (¬ (¬ s9 170 8 = (0 : Int)) → (((0 : Int) = ((-1) : Int) → _) ∧ (¬ ((0 : Int) = ((-1) : Int)) → (∀ (r19 : Int), en_has2 u (0) s9 r19 → ((r19 = (0 : Int) → ((¬ s9 170 8 = (0 : Int) → ((s9 170 8 ≤ (0 : Int) → Q (some (.inl 0)) s9) ∧ (¬ (s9 170 8 ≤ (0 : Int)) → Q (some (.inl 0)) s9))) ∧ (¬ (¬ s9 170 8 = (0 : Int)) → (170 = 170 ∧ (rq_rNext t n  s9 ∧ (∀ (s20 : zS), en_rNext t n  s9 s20 → ((s20 170 8 ≤ (0 : Int) → Q (some (.inl 0)) s20) ∧ (¬ (s20 170 8 ≤ (0 : Int)) → Q (some (.inl 0)) s20)))))))) ∧ (¬ (r19 = (0 : Int)) → (170 = 170 ∧ (rq_blame (3) (s9 170 4) s9 ∧ (∀ (s21 : zS), en_blame (3) (s9 170 4) s9 s21 → ((¬ s21 170 8 = (0 : Int) → ((s21 170 8 ≤ (0 : Int) → Q (some (.inl 0)) s21) ∧ (¬ (s21 170 8 ≤ (0 : Int)) → Q (some (.inl 0)) s21))) ∧ (¬ (¬ s21 170 8 = (0 : Int)) → (170 = 170 ∧ (rq_rNext t n  s21 ∧ (∀ (s22 : zS), en_rNext t n  s21 s22 → ((s22 170 8 ≤ (0 : Int) → Q (some (.inl 0)) s22) ∧ (¬ (s22 170 8 ≤ (0 : Int)) → Q (some (.inl 0)) s22))))))))))))))))))))))) ∧ (¬ (¬ s8 170 3 = (1 : Int)) → (170 = 170 ∧ (∀ (r23 : Int), en_rIsOwn (s8 170 7) s8 r23 → ((r23 = (0 : Int) → ((s8 170 8 ≤ (0 : Int) → (170 = 170 ∧ (rq_rNamed (0) (s8 170 7) s8 ∧ (∀ (r24 : Int), en_rNamed (0) (s8 170 7) s8 r24 → ((¬ s8 170 8 = (0 : Int) → ((¬ s8 170 8 = (0 : Int) → ((s8 170 8 ≤ (0 : Int) → Q (some (.inl r24)) s8) ∧ (¬ (s8 170 8 ≤ (0 : Int)) → Q (some (.inl 0)) s8))) ∧ (¬ (¬ s8 170 8 = (0 : Int)) → (170 = 170 ∧ (rq_rNext t n  s8 ∧ (∀ (s25 : zS), en_rNext t n  s8 s25 → ((s25 170 8 ≤ (0 : Int) → Q (some (.inl r24)) s25) ∧ (¬ (s25 170 8 ≤ (0 : Int)) → Q (some (.inl 0)) s25)))))))) ∧ (¬ (¬ s8 170 8 = (0 : Int)) → ((r24 = ((-1) : Int) → (170 = 170 ∧ (rq_blame (3) (s8 170 4) s8 ∧ (∀ (s26 : zS), en_blame (3) (s8 170 4) s8 s26 → ((¬ s26 170 8 = (0 : Int) → ((s26 170 8 ≤ (0 : Int) → Q (some (.inl r24)) s26) ∧ (¬ (s26 170 8 ≤ (0 : Int)) → Q (some (.inl 0)) s26))) ∧ (¬ (¬ s26 170 8 = (0 : Int)) → (170 = 170 ∧ (rq_rNext t n  s26 ∧ (∀ (s27 : zS), en_rNext t n  s26 s27 → ((s27 170 8 ≤ (0 : Int) → Q (some (.inl r24)) s27) ∧ (¬ (s27 170 8 ≤ (0 : Int)) → Q (some (.inl 0)) s27))))))))))) ∧ (¬ (r24 = ((-1) : Int)) → (∀ (r28 : Int), en_has2 u r24 s8 r28 → ((r28 = (0 : Int) → ((¬ s8 170 8 = (0 : Int) → ((s8 170 8 ≤ (0 : Int) → Q (some (.inl r24)) s8) ∧ (¬ (s8 170 8 ≤ (0 : Int)) → Q (some (.inl 0)) s8))) ∧ (¬ (¬ s8 170 8 = (0 : Int)) → (170 = 170 ∧ (rq_rNext t n  s8 ∧ (∀ (s29 : zS), en_rNext t n  s8 s29 → ((s29 170 8 ≤ (0 : Int) → Q (some (.inl r24)) s29) ∧ (¬ (s29 170 8 ≤ (0 : Int)) → Q (some (.inl 0)) s29)))))))) ∧ (¬ (r28 = (0 : Int)) → (170 = 170 ∧ (rq_blame (3) (s8 170 4) s8 ∧ (∀ (s30 : zS), en_blame (3) (s8 170 4) s8 s30 → ((¬ s30 170 8 = (0 : Int) → ((s30 170 8 ≤ (0 : Int) → Q (some (.inl r24)) s30) ∧ (¬ (s30 170 8 ≤ (0 : Int)) → Q (some (.inl 0)) s30))) ∧ (¬ (¬ s30 170 8 = (0 : Int)) → (170 = 170 ∧ (rq_rNext t n  s30 ∧ (∀ (s31 : zS), en_rNext t n  s30 s31 → ((s31 170 8 ≤ (0 : Int) → Q (some (.inl r24)) s31) ∧ (¬ (s31 170 8 ≤ (0 : Int)) → Q (some (.inl 0)) s31))))))))))))))))))))) ∧ (¬ (s8 170 8 ≤ (0 : Int)) → ((¬ s8 170 8 = (0 : Int) → ((¬ s8 170 8 = (0 : Int) → ((s8 170 8 ≤ (0 : Int) → Q (some (.inl 0)) s8) ∧ (¬ (s8 170 8 ≤ (0 : Int)) → Q (some (.inl 0)) s8))) ∧ (¬ (¬ s8 170 8 = (0 : Int)) → (170 = 170 ∧ (rq_rNext t n  s8 ∧ (∀ (s32 : zS), en_rNext t n  s8 s32 → ((s32 170 8 ≤ (0 : Int) → Q (some (.inl 0)) s32) ∧ (¬ (s32 170 8 ≤ (0 : Int)) → Q (some (.inl 0)) s32)))))))) ∧ (¬ (¬ s8 170 8 = (0 : Int)) → (((0 : Int) = ((-1) : Int) → _) ∧ (¬ ((0 : Int) = ((-1) : Int)) → (∀ (r33 : Int), en_has2 u (0) s8 r33 → ((r33 = (0 : Int) → ((¬ s8 170 8 = (0 : Int) → ((s8 170 8 ≤ (0 : Int) → Q (some (.inl 0)) s8) ∧ (¬ (s8 170 8 ≤ (0 : Int)) → Q (some (.inl 0)) s8))) ∧ (¬ (¬ s8 170 8 = (0 : Int)) → (170 = 170 ∧ (rq_rNext t n  s8 ∧ (∀ (s34 : zS), en_rNext t n  s8 s34 → ((s34 170 8 ≤ (0 : Int) → Q (some (.inl 0)) s34) ∧ (¬ (s34 170 8 ≤ (0 : Int)) → Q (some (.inl 0)) s34)))))))) ∧ (¬ (r33 = (0 : Int)) → (170 = 170 ∧ (rq_blame (3) (s8 170 4) s8 ∧ (∀ (s35 : zS), en_blame (3) (s8 170 4) s8 s35 → ((¬ s35 170 8 = (0 : Int) → ((s35 170 8 ≤ (0 : Int) → Q (some (.inl 0)) s35) ∧ (¬ (s35 170 8 ≤ (0 : Int)) → Q (some (.inl 0)) s35))) ∧ (¬ (¬ s35 170 8 = (0 : Int)) → (170 = 170 ∧ (rq_rNext t n  s35 ∧ (∀ (s36 : zS), en_rNext t n  s35 s36 → ((s36 170 8 ≤ (0 : Int) → Q (some (.inl 0)) s36) ∧ (¬ (s36 170 8 ≤ (0 : Int)) → Q (some (.inl 0)) s36)))))))))))))))))))) ∧ (¬ (r23 = (0 : Int)) → (170 = 170 ∧ (rq_blame (1) (s8 170 4) s8 ∧ (∀ (s37 : zS), en_blame (1) (s8 170 4) s8 s37 → ((s37 170 8 ≤ (0 : Int) → (170 = 170 ∧ (rq_rNamed (0) (s37 170 7) s37 ∧ (∀ (r38 : Int), en_rNamed (0) (s37 170 7) s37 r38 → ((¬ s37 170 8 = (0 : Int) → ((¬ s37 170 8 = (0 : Int) → ((s37 170 8 ≤ (0 : Int) → Q (some (.inl r38)) s37) ∧ (¬ (s37 170 8 ≤ (0 : Int)) → Q (some (.inl 0)) s37))) ∧ (¬ (¬ s37 170 8 = (0 : Int)) → (170 = 170 ∧ (rq_rNext t n  s37 ∧ (∀ (s39 : zS), en_rNext t n  s37 s39 → ((s39 170 8 ≤ (0 : Int) → Q (some (.inl r38)) s39) ∧ (¬ (s39 170 8 ≤ (0 : Int)) → Q (some (.inl 0)) s39)))))))) ∧ (¬ (¬ s37 170 8 = (0 : Int)) → ((r38 = ((-1) : Int) → (170 = 170 ∧ (rq_blame (3) (s37 170 4) s37 ∧ (∀ (s40 : zS), en_blame (3) (s37 170 4) s37 s40 → ((¬ s40 170 8 = (0 : Int) → ((s40 170 8 ≤ (0 : Int) → Q (some (.inl r38)) s40) ∧ (¬ (s40 170 8 ≤ (0 : Int)) → Q (some (.inl 0)) s40))) ∧ (¬ (¬ s40 170 8 = (0 : Int)) → (170 = 170 ∧ (rq_rNext t n  s40 ∧ (∀ (s41 : zS), en_rNext t n  s40 s41 → ((s41 170 8 ≤ (0 : Int) → Q (some (.inl r38)) s41) ∧ (¬ (s41 170 8 ≤ (0 : Int)) → Q (some (.inl 0)) s41))))))))))) ∧ (¬ (r38 = ((-1) : Int)) → (∀ (r42 : Int), en_has2 u r38 s37 r42 → ((r42 = (0 : Int) → ((¬ s37 170 8 = (0 : Int) → ((s37 170 8 ≤ (0 : Int) → Q (some (.inl r38)) s37) ∧ (¬ (s37 170 8 ≤ (0 : Int)) → Q (some (.inl 0)) s37))) ∧ (¬ (¬ s37 170 8 = (0 : Int)) → (170 = 170 ∧ (rq_rNext t n  s37 ∧ (∀ (s43 : zS), en_rNext t n  s37 s43 → ((s43 170 8 ≤ (0 : Int) → Q (some (.inl r38)) s43) ∧ (¬ (s43 170 8 ≤ (0 : Int)) → Q (some (.inl 0)) s43)))))))) ∧ (¬ (r42 = (0 : Int)) → (170 = 170 ∧ (rq_blame (3) (s37 170 4) s37 ∧ (∀ (s44 : zS), en_blame (3) (s37 170 4) s37 s44 → ((¬ s44 170 8 = (0 : Int) → ((s44 170 8 ≤ (0 : Int) → Q (some (.inl r38)) s44) ∧ (¬ (s44 170 8 ≤ (0 : Int)) → Q (some (.inl 0)) s44))) ∧ (¬ (¬ s44 170 8 = (0 : Int)) → (170 = 170 ∧ (rq_rNext t n  s44 ∧ (∀ (s45 : zS), en_rNext t n  s44 s45 → ((s45 170 8 ≤ (0 : Int) → Q (some (.inl r38)) s45) ∧ (¬ (s45 170 8 ≤ (0 : Int)) → Q (some (.inl 0)) s45))))))))))))))))))))) ∧ (¬ (s37 170 8 ≤ (0 : Int)) → ((¬ s37 170 8 = (0 : Int) → ((¬ s37 170 8 = (0 : Int) → ((s37 170 8 ≤ (0 : Int) → Q (some (.inl 0)) s37) ∧ (¬ (s37 170 8 ≤ (0 : Int)) → Q (some (.inl 0)) s37))) ∧ (¬ (¬ s37 170 8 = (0 : Int)) → (170 = 170 ∧ (rq_rNext t n  s37 ∧ (∀ (s46 : zS), en_rNext t n  s37 s46 → ((s46 170 8 ≤ (0 : Int) → Q (some (.inl 0)) s46) ∧ (¬ (s46 170 8 ≤ (0 : Int)) → Q (some (.inl 0)) s46)))))))) ∧ (¬ (¬ s37 170 8 = (0 : Int)) → (((0 : Int) = ((-1) : Int) → _) ∧ (¬ ((0 : Int) = ((-1) : Int)) → (∀ (r47 : Int), en_has2 u (0) s37 r47 → ((r47 = (0 : Int) → ((¬ s37 170 8 = (0 : Int) → ((s37 170 8 ≤ (0 : Int) → Q (some (.inl 0)) s37) ∧ (¬ (s37 170 8 ≤ (0 : Int)) → Q (some (.inl 0)) s37))) ∧ (¬ (¬ s37 170 8 = (0 : Int)) → (170 = 170 ∧ (rq_rNext t n  s37 ∧ (∀ (s48 : zS), en_rNext t n  s37 s48 → ((s48 170 8 ≤ (0 : Int) → Q (some (.inl 0)) s48) ∧ (¬ (s48 170 8 ≤ (0 : Int)) → Q (some (.inl 0)) s48)))))))) ∧ (¬ (r47 = (0 : Int)) → (170 = 170 ∧ (rq_blame (3) (s37 170 4) s37 ∧ (∀ (s49 : zS), en_blame (3) (s37 170 4) s37 s49 → ((¬ s49 170 8 = (0 : Int) → ((s49 170 8 ≤ (0 : Int) → Q (some (.inl 0)) s49) ∧ (¬ (s49 170 8 ≤ (0 : Int)) → Q (some (.inl 0)) s49))) ∧ (¬ (¬ s49 170 8 = (0 : Int)) → (170 = 170 ∧ (rq_rNext t n  s49 ∧ (∀ (s50 : zS), en_rNext t n  s49 s50 → ((s50 170 8 ≤ (0 : Int) → Q (some (.inl 0)) s50) ∧ (¬ (s50 170 8 ≤ (0 : Int)) → Q (some (.inl 0)) s50))))))))))))))))))))))))))))) ∧ (¬ (s8 170 8 ≤ (0 : Int)) → Q (some (.inl 0)) s8)))))
  refine ⟨rfl, hG, fun s8 q8 => ?_⟩
  obtain ⟨gs8, fs8, p8⟩ := q8
  change (0 < st 170 8 → 0 < s8 170 8) ∧ (st 170 8 = 0 → st 170 12 = -1 → s8 170 8 = 0) ∧ (¬ st 170 12 = -1 → 0 < s8 170 8) at p8
  have g51 := g_faultKind gs8
  refine ⟨fun h52 => ?_, fun h52 => ?_⟩
  · have e53 : s8 170 3 = st 170 3 := fs8 170 3 rfl rfl
    refine ⟨fun h54 => ?_, fun h54 => ?_⟩
    · have e55 : s8 170 4 = st 170 4 := fs8 170 4 rfl rfl
      refine ⟨rfl, ⟨gs8, (show 1 ≤ (1) ∧ (1) ≤ 6 from by omega), (show -2147483648 ≤ (s8 170 4) ∧ (s8 170 4) ≤ 2147483647 from by omega)⟩, fun s9 q9 => ?_⟩
      obtain ⟨gs9, fs9, p9⟩ := q9
      change (s8 170 8 = 0 → s9 170 8 = (1)) ∧ (0 < s8 170 8 → s9 170 8 = s8 170 8) at p9
      have g56 := g_faultKind gs9
      refine ⟨fun h57 => (by exfalso; omega), fun h57 => ?_⟩
      refine ⟨fun h58 => ?_, fun h58 => (by exfalso; omega)⟩
      refine ⟨fun h59 => ?_, fun h59 => (by exfalso; omega)⟩
      refine ⟨fun h60 => (by exfalso; omega), fun h60 => ?_⟩
      have e61 : s9 170 4 = s8 170 4 := fs9 170 4 rfl rfl
      exact hQ _ _ ⟨gs9, (fr_tr (fr_tr (fr_rf _ _) fs8 rfl) fs9 rfl), (show 0 ≤ (0 : Int) ∧ (0 : Int) ≤ 7 from by omega), (show (s9 170 8 = 0 ∧ st 170 8 = 0 ∧ ∃ v : Int, tk t n (st 170 4) 1 v (s9 170 4) ∧ KnP T v (0 : Int) ∧ hb u (0 : Int) = 0 ∧ RDr s9 t n) ∨ (0 < s9 170 8 ∧ st 170 8 = 0 ∧ ¬ ∃ v a e : Int, tk t n (st 170 4) 1 v e ∧ KnP T v a ∧ hb u a = 0) ∨ (0 < s9 170 8 ∧ 0 < st 170 8) from (by
            by_cases z0 : st 170 8 = 0
            · refine Or.inr (Or.inl ⟨by omega, z0, fun hx => ?_⟩)
              obtain ⟨v, a, e, h1, h2, h3⟩ := hx
              have z := r_wrd (rd z0) h1
              omega
            · exact Or.inr (Or.inr ⟨by omega, by omega⟩)))⟩
    · have e62 : s8 170 7 = st 170 7 := fs8 170 7 rfl rfl
      refine ⟨rfl, fun r23 q23 => ?_⟩
      have e23 := q23
      change (r23 = 1 ∧ ¬ NOwn (s8 170 7)) ∨ (r23 = 0 ∧ NOwn (s8 170 7)) at e23
      refine ⟨fun h63 => ?_, fun h63 => ?_⟩
      · refine ⟨fun h64 => ?_, fun h64 => (by exfalso; omega)⟩
        refine ⟨rfl, gs8, fun r24 q24 => ?_⟩
        obtain ⟨b24, e24⟩ := q24
        change -1 ≤ r24 ∧ r24 < 8 at b24
        change ((0) = 0 → NMD (s8 170 35) (s8 172 (s8 170 35 : Int).toNat) (s8 170 7) r24 (s8 190)) ∧ (¬ (0) = 0 → NMD (s8 170 35) (s8 181 (s8 170 35 : Int).toNat) (s8 170 7) r24 (s8 191)) at e24
        have e65 : s8 170 35 = st 170 35 := fs8 170 35 rfl rfl
        have g67 := g_places hG (st 170 35 : Int).toNat
        have e66 : s8 172 (s8 170 35 : Int).toNat = st 172 (st 170 35 : Int).toNat := (fs8 172 (s8 170 35 : Int).toNat rfl rfl).trans (by rw [e65] <;> rfl)
        have g69 := g_things hG (st 170 35 : Int).toNat
        have e68 : s8 181 (s8 170 35 : Int).toNat = st 181 (st 170 35 : Int).toNat := (fs8 181 (s8 170 35 : Int).toNat rfl rfl).trans (by rw [e65] <;> rfl)
        refine ⟨fun h70 => (by exfalso; omega), fun h70 => ?_⟩
        refine ⟨fun h71 => ?_, fun h71 => ?_⟩
        · have e72 : s8 170 4 = st 170 4 := fs8 170 4 rfl rfl
          refine ⟨rfl, ⟨gs8, (show 1 ≤ (3) ∧ (3) ≤ 6 from by omega), (show -2147483648 ≤ (s8 170 4) ∧ (s8 170 4) ≤ 2147483647 from by omega)⟩, fun s26 q26 => ?_⟩
          obtain ⟨gs26, fs26, p26⟩ := q26
          change (s8 170 8 = 0 → s26 170 8 = (3)) ∧ (0 < s8 170 8 → s26 170 8 = s8 170 8) at p26
          have g73 := g_faultKind gs26
          refine ⟨fun h74 => ?_, fun h74 => (by exfalso; omega)⟩
          refine ⟨fun h75 => (by exfalso; omega), fun h75 => ?_⟩
          have e76 : s26 170 4 = s8 170 4 := fs26 170 4 rfl rfl
          exact hQ _ _ ⟨gs26, (fr_tr (fr_tr (fr_rf _ _) fs8 rfl) fs26 rfl), (show 0 ≤ (0 : Int) ∧ (0 : Int) ≤ 7 from by omega), (show (s26 170 8 = 0 ∧ st 170 8 = 0 ∧ ∃ v : Int, tk t n (st 170 4) 1 v (s26 170 4) ∧ KnP T v (0 : Int) ∧ hb u (0 : Int) = 0 ∧ RDr s26 t n) ∨ (0 < s26 170 8 ∧ st 170 8 = 0 ∧ ¬ ∃ v a e : Int, tk t n (st 170 4) 1 v e ∧ KnP T v a ∧ hb u a = 0) ∨ (0 < s26 170 8 ∧ 0 < st 170 8) from (by
            by_cases z0 : st 170 8 = 0
            · refine Or.inr (Or.inl ⟨by omega, z0, fun hx => ?_⟩)
              obtain ⟨v, a, e, h1, h2, h3⟩ := hx
              have z := r_wrd (rd z0) h1
              rw [← z.2.1] at h2
              have nq := e24.1 (by omega)
              rw [show s8 170 35 = st 170 35 from by omega, show s8 172 = st 172 from funext (fun i => (fs8 172 i rfl rfl).trans ((fun _ => rfl) i)), show s8 190 = st 190 from funext (fun i => (fs8 190 i rfl rfl).trans ((fun _ => rfl) i)), rn.1, show s8 170 7 = st 170 7 from by omega] at nq
              have ea := NMD_kk rn nq h2
              have kb := KnP_b h2
              subst ea
              omega
            · exact Or.inr (Or.inr ⟨by omega, by omega⟩)))⟩
        · refine fun r28 q28 => ?_
          have b28 := q28
          change (r28 = 0 ∨ r28 = 1) ∧ r28 = hb u r24 at b28
          refine ⟨fun h77 => ?_, fun h77 => ?_⟩
          · refine ⟨fun h78 => (by exfalso; omega), fun h78 => ?_⟩
            have e79 : s8 170 12 = st 170 12 := fs8 170 12 rfl rfl
            refine ⟨rfl, ⟨gs8, (show RDr s8 t n from (show RDr s8 t n from (RDr_of (fs8 170 2 rfl rfl) (fun i => fs8 171 i rfl rfl) (fs8 170 3 rfl rfl) (fs8 170 4 rfl rfl) (fs8 170 5 rfl rfl) (fs8 170 6 rfl rfl) (fs8 170 7 rfl rfl) (fs8 170 12 rfl rfl) (rd (by omega))))), (show s8 170 12 = -1 from by omega)⟩, fun s29 q29 => ?_⟩
            obtain ⟨gs29, fs29, rd29, nx29⟩ := q29
            change RDr s29 t n at rd29
            change NXr s8 s29 t n at nx29
            have e81 : s29 170 8 = s8 170 8 := fs29 170 8 rfl rfl
            refine ⟨fun h80 => ?_, fun h80 => (by exfalso; omega)⟩
            have g82 := g_signAt gs29
            exact hQ _ _ ⟨gs29, (fr_tr (fr_tr (fr_rf _ _) fs8 rfl) fs29 rfl), (show 0 ≤ r24 ∧ r24 ≤ 7 from by omega), (show (s29 170 8 = 0 ∧ st 170 8 = 0 ∧ ∃ v : Int, tk t n (st 170 4) 1 v (s29 170 4) ∧ KnP T v r24 ∧ hb u r24 = 0 ∧ RDr s29 t n) ∨ (0 < s29 170 8 ∧ st 170 8 = 0 ∧ ¬ ∃ v a e : Int, tk t n (st 170 4) 1 v e ∧ KnP T v a ∧ hb u a = 0) ∨ (0 < s29 170 8 ∧ 0 < st 170 8) from (by
            have z0 : st 170 8 = 0 := by omega
            obtain ⟨q, hq⟩ := r_isw (rd z0) (by omega) (by omega)
            have e := NXr_e nx29 (show tk t n (s8 170 4) _ _ q from by rw [show s8 170 4 = st 170 4 from ((fs8 170 4 rfl rfl).trans (show st 170 4 = st 170 4 from rfl))]; exact hq) (by omega)
            have nq := e24.1 (by omega)
            rw [show s8 170 35 = st 170 35 from by omega, show s8 172 = st 172 from funext (fun i => (fs8 172 i rfl rfl).trans ((fun _ => rfl) i)), show s8 190 = st 190 from funext (fun i => (fs8 190 i rfl rfl).trans ((fun _ => rfl) i)), rn.1, show s8 170 7 = st 170 7 from by omega] at nq
            have hw : NOwn (st 170 7) := by
              rcases e23 with y | y
              · exfalso; omega
              · rw [show st 170 7 = s8 170 7 from by omega]; exact y.2
            exact Or.inl ⟨by omega, z0, st 170 7, (by rw [e]; exact hq), NMD_kn rn hw (tk_n6 hq (rd z0).2.1.1) nq (by omega), (by omega), rd29⟩))⟩
          · have e83 : s8 170 4 = st 170 4 := fs8 170 4 rfl rfl
            refine ⟨rfl, ⟨gs8, (show 1 ≤ (3) ∧ (3) ≤ 6 from by omega), (show -2147483648 ≤ (s8 170 4) ∧ (s8 170 4) ≤ 2147483647 from by omega)⟩, fun s30 q30 => ?_⟩
            obtain ⟨gs30, fs30, p30⟩ := q30
            change (s8 170 8 = 0 → s30 170 8 = (3)) ∧ (0 < s8 170 8 → s30 170 8 = s8 170 8) at p30
            have g84 := g_faultKind gs30
            refine ⟨fun h85 => ?_, fun h85 => (by exfalso; omega)⟩
            refine ⟨fun h86 => (by exfalso; omega), fun h86 => ?_⟩
            have e87 : s30 170 4 = s8 170 4 := fs30 170 4 rfl rfl
            exact hQ _ _ ⟨gs30, (fr_tr (fr_tr (fr_rf _ _) fs8 rfl) fs30 rfl), (show 0 ≤ (0 : Int) ∧ (0 : Int) ≤ 7 from by omega), (show (s30 170 8 = 0 ∧ st 170 8 = 0 ∧ ∃ v : Int, tk t n (st 170 4) 1 v (s30 170 4) ∧ KnP T v (0 : Int) ∧ hb u (0 : Int) = 0 ∧ RDr s30 t n) ∨ (0 < s30 170 8 ∧ st 170 8 = 0 ∧ ¬ ∃ v a e : Int, tk t n (st 170 4) 1 v e ∧ KnP T v a ∧ hb u a = 0) ∨ (0 < s30 170 8 ∧ 0 < st 170 8) from (by
            by_cases z0 : st 170 8 = 0
            · refine Or.inr (Or.inl ⟨by omega, z0, fun hx => ?_⟩)
              obtain ⟨v, a, e, h1, h2, h3⟩ := hx
              have z := r_wrd (rd z0) h1
              rw [← z.2.1] at h2
              have nq := e24.1 (by omega)
              rw [show s8 170 35 = st 170 35 from by omega, show s8 172 = st 172 from funext (fun i => (fs8 172 i rfl rfl).trans ((fun _ => rfl) i)), show s8 190 = st 190 from funext (fun i => (fs8 190 i rfl rfl).trans ((fun _ => rfl) i)), rn.1, show s8 170 7 = st 170 7 from by omega] at nq
              have ea := NMD_kk rn nq h2
              have kb := KnP_b h2
              subst ea
              omega
            · exact Or.inr (Or.inr ⟨by omega, by omega⟩)))⟩
      · have e88 : s8 170 4 = st 170 4 := fs8 170 4 rfl rfl
        refine ⟨rfl, ⟨gs8, (show 1 ≤ (1) ∧ (1) ≤ 6 from by omega), (show -2147483648 ≤ (s8 170 4) ∧ (s8 170 4) ≤ 2147483647 from by omega)⟩, fun s37 q37 => ?_⟩
        obtain ⟨gs37, fs37, p37⟩ := q37
        change (s8 170 8 = 0 → s37 170 8 = (1)) ∧ (0 < s8 170 8 → s37 170 8 = s8 170 8) at p37
        have g89 := g_faultKind gs37
        refine ⟨fun h90 => (by exfalso; omega), fun h90 => ?_⟩
        refine ⟨fun h91 => ?_, fun h91 => (by exfalso; omega)⟩
        refine ⟨fun h92 => ?_, fun h92 => (by exfalso; omega)⟩
        refine ⟨fun h93 => (by exfalso; omega), fun h93 => ?_⟩
        have e94 : s37 170 4 = s8 170 4 := fs37 170 4 rfl rfl
        exact hQ _ _ ⟨gs37, (fr_tr (fr_tr (fr_rf _ _) fs8 rfl) fs37 rfl), (show 0 ≤ (0 : Int) ∧ (0 : Int) ≤ 7 from by omega), (show (s37 170 8 = 0 ∧ st 170 8 = 0 ∧ ∃ v : Int, tk t n (st 170 4) 1 v (s37 170 4) ∧ KnP T v (0 : Int) ∧ hb u (0 : Int) = 0 ∧ RDr s37 t n) ∨ (0 < s37 170 8 ∧ st 170 8 = 0 ∧ ¬ ∃ v a e : Int, tk t n (st 170 4) 1 v e ∧ KnP T v a ∧ hb u a = 0) ∨ (0 < s37 170 8 ∧ 0 < st 170 8) from (by
            by_cases z0 : st 170 8 = 0
            · refine Or.inr (Or.inl ⟨by omega, z0, fun hx => ?_⟩)
              obtain ⟨v, a, e, h1, h2, h3⟩ := hx
              have z := r_wrd (rd z0) h1
              have h4 := h2.1
              rw [← z.2.1, show st 170 7 = s8 170 7 from by omega] at h4
              rcases e23 with y | y
              · first | exact y.2 h4 | (exfalso; omega)
              · exfalso; omega
            · exact Or.inr (Or.inr ⟨by omega, by omega⟩)))⟩
  · have e95 : s8 170 4 = st 170 4 := fs8 170 4 rfl rfl
    exact hQ _ _ ⟨gs8, (fr_tr (fr_rf _ _) fs8 rfl), (show 0 ≤ (0 : Int) ∧ (0 : Int) ≤ 7 from by omega), (show (s8 170 8 = 0 ∧ st 170 8 = 0 ∧ ∃ v : Int, tk t n (st 170 4) 1 v (s8 170 4) ∧ KnP T v (0 : Int) ∧ hb u (0 : Int) = 0 ∧ RDr s8 t n) ∨ (0 < s8 170 8 ∧ st 170 8 = 0 ∧ ¬ ∃ v a e : Int, tk t n (st 170 4) 1 v e ∧ KnP T v a ∧ hb u a = 0) ∨ (0 < s8 170 8 ∧ 0 < st 170 8) from (by
            by_cases z0 : st 170 8 = 0
            · refine Or.inr (Or.inl ⟨by omega, z0, fun hx => ?_⟩)
              obtain ⟨v, a, e, h1, h2, h3⟩ := hx
              have z := r_wrd (rd z0) h1
              omega
            · exact Or.inr (Or.inr ⟨by omega, by omega⟩)))⟩
theorem k_rKnown_m (hTb : aTb zSh rx_tb cl) {t : Int → Int} {n : Int} {T : zS} {D : Nat} (hD : 3 ≤ D) : ∀ as st (Q Q' : zQ), (∀ r st', Q r st' → Q' r st') → (k_rKnown t n T) 203 as st Q → cl D 203 as st Q' := by
  intro as st Q Q' hQ h
  unfold k_rKnown at h
  split at h
  · obtain ⟨rfl, h⟩ := h
    exact c_rKnown hTb hD (ct_rKnown_m hQ h)
  · exact h.elim
end Rz8
