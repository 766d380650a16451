/-! printed by wip/p7/py/lt.py: letters of names, the calls -/
def rq_cLetOf (v : Int) (k : Int) (st : zS) : Prop := (0 ≤ k ∧ k < 6)
def en_cLetOf (v : Int) (k : Int) (st : zS) (r : Int) : Prop := (r = LT5 v k)
def ct_cLetOf (v : Int) (k : Int) (st : zS) (Q : zQ) : Prop := rq_cLetOf v k st ∧ (∀ (r : Int), en_cLetOf v k st r → Q (some (.inl r)) st)
theorem ct_cLetOf_m {v k : Int} {st : zS} {Q Q' : zQ} (hQ : ∀ r st', Q r st' → Q' r st') (h : ct_cLetOf v k st Q) : ct_cLetOf v k st Q' := ⟨h.1, fun x0 x1 => hQ _ _ (h.2 x0 x1)⟩
def k_cLetOf : zCall := fun _ as st Q => match as with
  | [.inl v, .inl k] => ct_cLetOf v k st Q
  | _ => False
def rq_cIsPlA (a : Int) (st : zS) : Prop := (st 0 8 = 122)
def en_cIsPlA (a : Int) (st : zS) (r : Int) : Prop := ((r = 0 ∨ r = 1) ∧ (r = 1 ↔ 0 ≤ a ∧ a < st 122 1))
def ct_cIsPlA (a : Int) (st : zS) (Q : zQ) : Prop := rq_cIsPlA a st ∧ (∀ (r : Int), en_cIsPlA a st r → Q (some (.inl r)) st)
theorem ct_cIsPlA_m {a : Int} {st : zS} {Q Q' : zQ} (hQ : ∀ r st', Q r st' → Q' r st') (h : ct_cIsPlA a st Q) : ct_cIsPlA a st Q' := ⟨h.1, fun x0 x1 => hQ _ _ (h.2 x0 x1)⟩
def k_cIsPlA : zCall := fun _ as st Q => match as with
  | [.inr (.inr (.inl z_o)), .inl a] => z_o = 0 ∧ ct_cIsPlA a st Q
  | _ => False
def rq_cIsThA (a : Int) (st : zS) : Prop := (st 0 8 = 122)
def en_cIsThA (a : Int) (st : zS) (r : Int) : Prop := ((r = 0 ∨ r = 1) ∧ (r = 1 ↔ 0 ≤ a ∧ a < st 122 8))
def ct_cIsThA (a : Int) (st : zS) (Q : zQ) : Prop := rq_cIsThA a st ∧ (∀ (r : Int), en_cIsThA a st r → Q (some (.inl r)) st)
theorem ct_cIsThA_m {a : Int} {st : zS} {Q Q' : zQ} (hQ : ∀ r st', Q r st' → Q' r st') (h : ct_cIsThA a st Q) : ct_cIsThA a st Q' := ⟨h.1, fun x0 x1 => hQ _ _ (h.2 x0 x1)⟩
def k_cIsThA : zCall := fun _ as st Q => match as with
  | [.inr (.inr (.inl z_o)), .inl a] => z_o = 0 ∧ ct_cIsThA a st Q
  | _ => False
def rq_cLetterA (so : Int) (wh : Int) (k : Int) (st : zS) : Prop := gInv zgt st ∧ (st 0 8 = 122)
def en_cLetterA (so : Int) (wh : Int) (k : Int) (st : zS) (r : Int) : Prop := ((0 ≤ k ∧ k < 6 ∧ so = 0 ∧ 0 ≤ wh ∧ wh < st 122 1 → r = LT5 (st 123 wh.toNat) k) ∧ (0 ≤ k ∧ k < 6 ∧ so = 1 ∧ 0 ≤ wh ∧ wh < st 122 8 → r = LT5 (st 128 wh.toNat) k) ∧ (¬ (0 ≤ k ∧ k < 6 ∧ so = 0 ∧ 0 ≤ wh ∧ wh < st 122 1) → ¬ (0 ≤ k ∧ k < 6 ∧ so = 1 ∧ 0 ≤ wh ∧ wh < st 122 8) → r = -1))
def ct_cLetterA (so : Int) (wh : Int) (k : Int) (st : zS) (Q : zQ) : Prop := rq_cLetterA so wh k st ∧ (∀ (r : Int), en_cLetterA so wh k st r → Q (some (.inl r)) st)
theorem ct_cLetterA_m {so wh k : Int} {st : zS} {Q Q' : zQ} (hQ : ∀ r st', Q r st' → Q' r st') (h : ct_cLetterA so wh k st Q) : ct_cLetterA so wh k st Q' := ⟨h.1, fun x0 x1 => hQ _ _ (h.2 x0 x1)⟩
def k_cLetterA : zCall := fun _ as st Q => match as with
  | [.inr (.inr (.inl z_o)), .inl so, .inl wh, .inl k] => z_o = 0 ∧ ct_cLetterA so wh k st Q
  | _ => False
def rq_cIsPlB (a : Int) (st : zS) : Prop := (st 0 8 = 135)
def en_cIsPlB (a : Int) (st : zS) (r : Int) : Prop := ((r = 0 ∨ r = 1) ∧ (r = 1 ↔ 0 ≤ a ∧ a < st 135 1))
def ct_cIsPlB (a : Int) (st : zS) (Q : zQ) : Prop := rq_cIsPlB a st ∧ (∀ (r : Int), en_cIsPlB a st r → Q (some (.inl r)) st)
theorem ct_cIsPlB_m {a : Int} {st : zS} {Q Q' : zQ} (hQ : ∀ r st', Q r st' → Q' r st') (h : ct_cIsPlB a st Q) : ct_cIsPlB a st Q' := ⟨h.1, fun x0 x1 => hQ _ _ (h.2 x0 x1)⟩
def k_cIsPlB : zCall := fun _ as st Q => match as with
  | [.inr (.inr (.inl z_o)), .inl a] => z_o = 0 ∧ ct_cIsPlB a st Q
  | _ => False
def rq_cIsThB (a : Int) (st : zS) : Prop := (st 0 8 = 135)
def en_cIsThB (a : Int) (st : zS) (r : Int) : Prop := ((r = 0 ∨ r = 1) ∧ (r = 1 ↔ 0 ≤ a ∧ a < st 135 8))
def ct_cIsThB (a : Int) (st : zS) (Q : zQ) : Prop := rq_cIsThB a st ∧ (∀ (r : Int), en_cIsThB a st r → Q (some (.inl r)) st)
theorem ct_cIsThB_m {a : Int} {st : zS} {Q Q' : zQ} (hQ : ∀ r st', Q r st' → Q' r st') (h : ct_cIsThB a st Q) : ct_cIsThB a st Q' := ⟨h.1, fun x0 x1 => hQ _ _ (h.2 x0 x1)⟩
def k_cIsThB : zCall := fun _ as st Q => match as with
  | [.inr (.inr (.inl z_o)), .inl a] => z_o = 0 ∧ ct_cIsThB a st Q
  | _ => False
def rq_cLetterB (so : Int) (wh : Int) (k : Int) (st : zS) : Prop := gInv zgt st ∧ (st 0 8 = 135)
def en_cLetterB (so : Int) (wh : Int) (k : Int) (st : zS) (r : Int) : Prop := ((0 ≤ k ∧ k < 6 ∧ so = 0 ∧ 0 ≤ wh ∧ wh < st 135 1 → r = LT5 (st 136 wh.toNat) k) ∧ (0 ≤ k ∧ k < 6 ∧ so = 1 ∧ 0 ≤ wh ∧ wh < st 135 8 → r = LT5 (st 141 wh.toNat) k) ∧ (¬ (0 ≤ k ∧ k < 6 ∧ so = 0 ∧ 0 ≤ wh ∧ wh < st 135 1) → ¬ (0 ≤ k ∧ k < 6 ∧ so = 1 ∧ 0 ≤ wh ∧ wh < st 135 8) → r = -1))
def ct_cLetterB (so : Int) (wh : Int) (k : Int) (st : zS) (Q : zQ) : Prop := rq_cLetterB so wh k st ∧ (∀ (r : Int), en_cLetterB so wh k st r → Q (some (.inl r)) st)
theorem ct_cLetterB_m {so wh k : Int} {st : zS} {Q Q' : zQ} (hQ : ∀ r st', Q r st' → Q' r st') (h : ct_cLetterB so wh k st Q) : ct_cLetterB so wh k st Q' := ⟨h.1, fun x0 x1 => hQ _ _ (h.2 x0 x1)⟩
def k_cLetterB : zCall := fun _ as st Q => match as with
  | [.inr (.inr (.inl z_o)), .inl so, .inl wh, .inl k] => z_o = 0 ∧ ct_cLetterB so wh k st Q
  | _ => False
def rq_rLetter (T : zS) (so : Int) (wh : Int) (k : Int) (st : zS) : Prop := gInv zgt st ∧ (RT (st 170 13) T st)
def en_rLetter (T : zS) (so : Int) (wh : Int) (k : Int) (st : zS) (r : Int) : Prop := ((0 ≤ k ∧ k < 6 ∧ so = 0 ∧ 0 ≤ wh ∧ wh < T 0 1 → r = LT5 (T 1 wh.toNat) k) ∧ (0 ≤ k ∧ k < 6 ∧ so = 1 ∧ 0 ≤ wh ∧ wh < T 0 8 → r = LT5 (T 6 wh.toNat) k) ∧ (¬ (0 ≤ k ∧ k < 6 ∧ so = 0 ∧ 0 ≤ wh ∧ wh < T 0 1) → ¬ (0 ≤ k ∧ k < 6 ∧ so = 1 ∧ 0 ≤ wh ∧ wh < T 0 8) → r = -1))
def ct_rLetter (T : zS) (so : Int) (wh : Int) (k : Int) (st : zS) (Q : zQ) : Prop := rq_rLetter T so wh k st ∧ (∀ (r : Int), en_rLetter T so wh k st r → Q (some (.inl r)) st)
theorem ct_rLetter_m {T : zS} {so wh k : Int} {st : zS} {Q Q' : zQ} (hQ : ∀ r st', Q r st' → Q' r st') (h : ct_rLetter T so wh k st Q) : ct_rLetter T so wh k st Q' := ⟨h.1, fun x0 x1 => hQ _ _ (h.2 x0 x1)⟩
def k_rLetter (T : zS) : zCall := fun _ as st Q => match as with
  | [.inr (.inr (.inl z_o)), .inl so, .inl wh, .inl k] => z_o = 170 ∧ ct_rLetter T so wh k st Q
  | _ => False
section RZ5
variable {cl : Nat → zCall}
set_option maxHeartbeats 4000000 in
set_option maxRecDepth 100000 in
theorem c_cLetOf (hTb : aTb zSh rx_tb cl) {D : Nat} (hD : 1 ≤ D) {v k : Int} {st : zS} {Q : zQ} (h : ct_cLetOf v k st Q) : cl D 295 [.inl v, .inl k] st Q := by
  obtain ⟨d, rfl⟩ : ∃ d, D = d + 1 := ⟨D - 1, by omega⟩
  refine hTb d 295 (rx_m295, 2, 0, 0, 1) rfl _ _ _ (Nat.le_of_ble_eq_true rfl) (fun K hcl hsf hsl => ?_)
  have hcm : zmo (zno) (cl d) := zno_m
  obtain ⟨hR, hQ⟩ := h
  have q := hR
  change 0 ≤ k ∧ k < 6 at q
  refine yr1_ok (Rt := Q) (wc := (zno)) (stp := []) hcm hcl [] 30 ?_
  show ((-2147483648 ≤ (5 : Int) - k ∧ (5 : Int) - k ≤ 2147483647) ∧ ((-2147483648 ≤ (5 : Int) * ((5 : Int) - k) ∧ (5 : Int) * ((5 : Int) - k) ≤ 2147483647) ∧ Q (some (.inl (zd (Nat.land (zi (v / zpw (((5 : Int) * ((5 : Int) - k)) % 32).toNat)) (zi 31))))) st))
  refine ⟨by omega, ?_⟩
  refine ⟨by omega, ?_⟩
  exact hQ _ (show (zd (Nat.land (zi (v / zpw (((5 : Int) * ((5 : Int) - k)) % 32).toNat)) (zi 31))) = LT5 v k from let5 q)
theorem k_cLetOf_m (hTb : aTb zSh rx_tb cl) {D : Nat} (hD : 1 ≤ D) : ∀ as st (Q Q' : zQ), (∀ r st', Q r st' → Q' r st') → k_cLetOf 295 as st Q → cl D 295 as st Q' := by
  intro as st Q Q' hQ h
  unfold k_cLetOf at h
  split at h
  · exact c_cLetOf hTb hD (ct_cLetOf_m hQ h)
  · exact h.elim
set_option maxHeartbeats 4000000 in
set_option maxRecDepth 100000 in
theorem c_cIsPlA (hTb : aTb zSh rx_tb cl) {D : Nat} (hD : 1 ≤ D) {a : Int} {st : zS} {Q : zQ} (h : ct_cIsPlA a st Q) : cl D 56 [.inr (.inr (.inl 0)), .inl a] st Q := by
  obtain ⟨d, rfl⟩ : ∃ d, D = d + 1 := ⟨D - 1, by omega⟩
  refine hTb d 56 (rx_m56, 2, 0, 0, 2) rfl _ _ _ (Nat.le_of_ble_eq_true rfl) (fun K hcl hsf hsl => ?_)
  have hcm : zmo (zno) (cl d) := zno_m
  obtain ⟨hR, hQ⟩ := h
  have dd := hR
  change st 0 8 = 122 at dd
  refine dr1_ok (Rt := Q) (wc := (zno)) (stp := []) hcm hcl [(6, 122)] [] 31 ?_
  show ((a < (0 : Int) → ((0 = (0 : Int) ∨ 0 = (1 : Int)) ∧ Q (some (.inl 0)) st)) ∧ (¬ (a < (0 : Int)) → ((st 0 8 = (122 : Int)) ∧ ((st 122 1 ≤ a → ((0 = (0 : Int) ∨ 0 = (1 : Int)) ∧ Q (some (.inl 0)) st)) ∧ (¬ (st 122 1 ≤ a) → ((1 = (0 : Int) ∨ 1 = (1 : Int)) ∧ Q (some (.inl 1)) st))))))
  refine ⟨fun h1 => ?_, fun h1 => ?_⟩
  · refine ⟨by omega, ?_⟩
    exact hQ _ (show ((0 : Int) = 0 ∨ (0 : Int) = 1) ∧ ((0 : Int) = 1 ↔ 0 ≤ a ∧ a < st 122 1) from by omega)
  · refine ⟨by omega, ?_⟩
    refine ⟨fun h2 => ?_, fun h2 => ?_⟩
    · refine ⟨by omega, ?_⟩
      exact hQ _ (show ((0 : Int) = 0 ∨ (0 : Int) = 1) ∧ ((0 : Int) = 1 ↔ 0 ≤ a ∧ a < st 122 1) from by omega)
    · refine ⟨by omega, ?_⟩
      exact hQ _ (show ((1 : Int) = 0 ∨ (1 : Int) = 1) ∧ ((1 : Int) = 1 ↔ 0 ≤ a ∧ a < st 122 1) from by omega)
theorem k_cIsPlA_m (hTb : aTb zSh rx_tb cl) {D : Nat} (hD : 1 ≤ D) : ∀ as st (Q Q' : zQ), (∀ r st', Q r st' → Q' r st') → k_cIsPlA 56 as st Q → cl D 56 as st Q' := by
  intro as st Q Q' hQ h
  unfold k_cIsPlA at h
  split at h
  · obtain ⟨rfl, h⟩ := h
    exact c_cIsPlA hTb hD (ct_cIsPlA_m hQ h)
  · exact h.elim
set_option maxHeartbeats 4000000 in
set_option maxRecDepth 100000 in
theorem c_cIsThA (hTb : aTb zSh rx_tb cl) {D : Nat} (hD : 1 ≤ D) {a : Int} {st : zS} {Q : zQ} (h : ct_cIsThA a st Q) : cl D 66 [.inr (.inr (.inl 0)), .inl a] st Q := by
  obtain ⟨d, rfl⟩ : ∃ d, D = d + 1 := ⟨D - 1, by omega⟩
  refine hTb d 66 (rx_m66, 2, 0, 0, 2) rfl _ _ _ (Nat.le_of_ble_eq_true rfl) (fun K hcl hsf hsl => ?_)
  have hcm : zmo (zno) (cl d) := zno_m
  obtain ⟨hR, hQ⟩ := h
  have dd := hR
  change st 0 8 = 122 at dd
  refine dr1_ok (Rt := Q) (wc := (zno)) (stp := []) hcm hcl [(6, 122)] [] 31 ?_
  show ((a < (0 : Int) → ((0 = (0 : Int) ∨ 0 = (1 : Int)) ∧ Q (some (.inl 0)) st)) ∧ (¬ (a < (0 : Int)) → ((st 0 8 = (122 : Int)) ∧ ((st 122 8 ≤ a → ((0 = (0 : Int) ∨ 0 = (1 : Int)) ∧ Q (some (.inl 0)) st)) ∧ (¬ (st 122 8 ≤ a) → ((1 = (0 : Int) ∨ 1 = (1 : Int)) ∧ Q (some (.inl 1)) st))))))
  refine ⟨fun h1 => ?_, fun h1 => ?_⟩
  · refine ⟨by omega, ?_⟩
    exact hQ _ (show ((0 : Int) = 0 ∨ (0 : Int) = 1) ∧ ((0 : Int) = 1 ↔ 0 ≤ a ∧ a < st 122 8) from by omega)
  · refine ⟨by omega, ?_⟩
    refine ⟨fun h2 => ?_, fun h2 => ?_⟩
    · refine ⟨by omega, ?_⟩
      exact hQ _ (show ((0 : Int) = 0 ∨ (0 : Int) = 1) ∧ ((0 : Int) = 1 ↔ 0 ≤ a ∧ a < st 122 8) from by omega)
    · refine ⟨by omega, ?_⟩
      exact hQ _ (show ((1 : Int) = 0 ∨ (1 : Int) = 1) ∧ ((1 : Int) = 1 ↔ 0 ≤ a ∧ a < st 122 8) from by omega)
theorem k_cIsThA_m (hTb : aTb zSh rx_tb cl) {D : Nat} (hD : 1 ≤ D) : ∀ as st (Q Q' : zQ), (∀ r st', Q r st' → Q' r st') → k_cIsThA 66 as st Q → cl D 66 as st Q' := by
  intro as st Q Q' hQ h
  unfold k_cIsThA at h
  split at h
  · obtain ⟨rfl, h⟩ := h
    exact c_cIsThA hTb hD (ct_cIsThA_m hQ h)
  · exact h.elim
set_option maxHeartbeats 4000000 in
set_option maxRecDepth 100000 in
theorem c_cLetterA (hTb : aTb zSh rx_tb cl) {D : Nat} (hD : 2 ≤ D) {so wh k : Int} {st : zS} {Q : zQ} (h : ct_cLetterA so wh k st Q) : cl D 44 [.inr (.inr (.inl 0)), .inl so, .inl wh, .inl k] st Q := by
  obtain ⟨d, rfl⟩ : ∃ d, D = d + 1 := ⟨D - 1, by omega⟩
  refine hTb d 44 (rx_m44, 4, 0, 0, 1) rfl _ _ _ (Nat.le_of_ble_eq_true rfl) (fun K hcl hsf hsl => ?_)
  have hcm : zmo (wcL [(56, k_cIsPlA), (66, k_cIsThA), (295, k_cLetOf)]) (cl d) := (wcL_m (wm_cons (k_cIsPlA_m hTb (by omega)) (wm_cons (k_cIsThA_m hTb (by omega)) (wm_cons (k_cLetOf_m hTb (by omega)) wm_nil))))
  obtain ⟨hR, hQ⟩ := h
  obtain ⟨hG, dd⟩ := hR
  change st 0 8 = 122 at dd
  have g1 := g_f0_8 hG
  have g2 := g_f122_1 hG
  have g3 := g_f122_8 hG
  refine dr1_ok (Rt := Q) (wc := (wcL [(56, k_cIsPlA), (66, k_cIsThA), (295, k_cLetOf)])) (stp := []) hcm hcl [(25, 122), (52, 122)] [] 58 ?_
  show ((k < (0 : Int) → Q (some (.inl (-1))) st) ∧ (¬ (k < (0 : Int)) → ((k < (6 : Int) → ((¬ so = (0 : Int) → ((¬ so = (1 : Int) → Q (some (.inl (-1))) st) ∧ (¬ (¬ so = (1 : Int)) → (0 = 0 ∧ (rq_cIsThA wh st ∧ (∀ (r4 : Int), en_cIsThA wh st r4 → ((r4 = (0 : Int) → Q (some (.inl (-1))) st) ∧ (¬ (r4 = (0 : Int)) → ((st 0 8 = (122 : Int)) ∧ ((0 ≤ wh ∧ wh < 8) ∧ (rq_cLetOf (st 128 (wh : Int).toNat) k st ∧ (∀ (r5 : Int), en_cLetOf (st 128 (wh : Int).toNat) k st r5 → Q (some (.inl r5)) st)))))))))))) ∧ (¬ (¬ so = (0 : Int)) → (0 = 0 ∧ (rq_cIsPlA wh st ∧ (∀ (r6 : Int), en_cIsPlA wh st r6 → ((r6 = (0 : Int) → ((¬ so = (1 : Int) → Q (some (.inl (-1))) st) ∧ (¬ (¬ so = (1 : Int)) → (0 = 0 ∧ (rq_cIsThA wh st ∧ (∀ (r7 : Int), en_cIsThA wh st r7 → ((r7 = (0 : Int) → Q (some (.inl (-1))) st) ∧ (¬ (r7 = (0 : Int)) → ((st 0 8 = (122 : Int)) ∧ ((0 ≤ wh ∧ wh < 8) ∧ (rq_cLetOf (st 128 (wh : Int).toNat) k st ∧ (∀ (r8 : Int), en_cLetOf (st 128 (wh : Int).toNat) k st r8 → Q (some (.inl r8)) st)))))))))))) ∧ (¬ (r6 = (0 : Int)) → ((st 0 8 = (122 : Int)) ∧ ((0 ≤ wh ∧ wh < 8) ∧ (rq_cLetOf (st 123 (wh : Int).toNat) k st ∧ (∀ (r9 : Int), en_cLetOf (st 123 (wh : Int).toNat) k st r9 → Q (some (.inl r9)) st)))))))))))) ∧ (¬ (k < (6 : Int)) → Q (some (.inl (-1))) st))))
  refine ⟨fun h10 => ?_, fun h10 => ?_⟩
  · exact hQ _ (show (0 ≤ k ∧ k < 6 ∧ so = 0 ∧ 0 ≤ wh ∧ wh < st 122 1 → ((-1) : Int) = LT5 (st 123 wh.toNat) k) ∧ (0 ≤ k ∧ k < 6 ∧ so = 1 ∧ 0 ≤ wh ∧ wh < st 122 8 → ((-1) : Int) = LT5 (st 128 wh.toNat) k) ∧ (¬ (0 ≤ k ∧ k < 6 ∧ so = 0 ∧ 0 ≤ wh ∧ wh < st 122 1) → ¬ (0 ≤ k ∧ k < 6 ∧ so = 1 ∧ 0 ≤ wh ∧ wh < st 122 8) → ((-1) : Int) = -1) from ⟨fun z => by omega, fun z => by omega, fun _ _ => rfl⟩)
  · refine ⟨fun h11 => ?_, fun h11 => ?_⟩
    · refine ⟨fun h12 => ?_, fun h12 => ?_⟩
      · refine ⟨fun h13 => ?_, fun h13 => ?_⟩
        · exact hQ _ (show (0 ≤ k ∧ k < 6 ∧ so = 0 ∧ 0 ≤ wh ∧ wh < st 122 1 → ((-1) : Int) = LT5 (st 123 wh.toNat) k) ∧ (0 ≤ k ∧ k < 6 ∧ so = 1 ∧ 0 ≤ wh ∧ wh < st 122 8 → ((-1) : Int) = LT5 (st 128 wh.toNat) k) ∧ (¬ (0 ≤ k ∧ k < 6 ∧ so = 0 ∧ 0 ≤ wh ∧ wh < st 122 1) → ¬ (0 ≤ k ∧ k < 6 ∧ so = 1 ∧ 0 ≤ wh ∧ wh < st 122 8) → ((-1) : Int) = -1) from ⟨fun z => by omega, fun z => by omega, fun _ _ => rfl⟩)
        · refine ⟨rfl, (show st 0 8 = 122 from by omega), fun r4 q4 => ?_⟩
          have b4 := q4
          change (r4 = 0 ∨ r4 = 1) ∧ (r4 = 1 ↔ 0 ≤ wh ∧ wh < st 122 8) at b4
          refine ⟨fun h14 => ?_, fun h14 => ?_⟩
          · exact hQ _ (show (0 ≤ k ∧ k < 6 ∧ so = 0 ∧ 0 ≤ wh ∧ wh < st 122 1 → ((-1) : Int) = LT5 (st 123 wh.toNat) k) ∧ (0 ≤ k ∧ k < 6 ∧ so = 1 ∧ 0 ≤ wh ∧ wh < st 122 8 → ((-1) : Int) = LT5 (st 128 wh.toNat) k) ∧ (¬ (0 ≤ k ∧ k < 6 ∧ so = 0 ∧ 0 ≤ wh ∧ wh < st 122 1) → ¬ (0 ≤ k ∧ k < 6 ∧ so = 1 ∧ 0 ≤ wh ∧ wh < st 122 8) → ((-1) : Int) = -1) from ⟨fun z => by omega, fun z => by omega, fun _ _ => rfl⟩)
          · refine ⟨by omega, ?_⟩
            have g15 := g_a128 hG (wh : Int).toNat
            refine ⟨by omega, ?_⟩
            refine ⟨(show 0 ≤ k ∧ k < 6 from by omega), fun r5 q5 => ?_⟩
            have e5 := q5
            change r5 = LT5 (st 128 (wh : Int).toNat) k at e5
            exact hQ _ (show (0 ≤ k ∧ k < 6 ∧ so = 0 ∧ 0 ≤ wh ∧ wh < st 122 1 → r5 = LT5 (st 123 wh.toNat) k) ∧ (0 ≤ k ∧ k < 6 ∧ so = 1 ∧ 0 ≤ wh ∧ wh < st 122 8 → r5 = LT5 (st 128 wh.toNat) k) ∧ (¬ (0 ≤ k ∧ k < 6 ∧ so = 0 ∧ 0 ≤ wh ∧ wh < st 122 1) → ¬ (0 ≤ k ∧ k < 6 ∧ so = 1 ∧ 0 ≤ wh ∧ wh < st 122 8) → r5 = -1) from (by first | (have y : 0 ≤ k ∧ k < 6 ∧ so = 0 ∧ 0 ≤ wh ∧ wh < st 122 1 := ⟨by omega, by omega, by omega, by omega, by omega⟩; exact ⟨fun _ => e5, fun z => by omega, fun z1 z2 => absurd y z1⟩) | (have y : 0 ≤ k ∧ k < 6 ∧ so = 1 ∧ 0 ≤ wh ∧ wh < st 122 8 := ⟨by omega, by omega, by omega, by omega, by omega⟩; exact ⟨fun z => by omega, fun _ => e5, fun z1 z2 => absurd y z2⟩)))
      · refine ⟨rfl, (show st 0 8 = 122 from by omega), fun r6 q6 => ?_⟩
        have b6 := q6
        change (r6 = 0 ∨ r6 = 1) ∧ (r6 = 1 ↔ 0 ≤ wh ∧ wh < st 122 1) at b6
        refine ⟨fun h16 => ?_, fun h16 => ?_⟩
        · refine ⟨fun h17 => ?_, fun h17 => ?_⟩
          · exact hQ _ (show (0 ≤ k ∧ k < 6 ∧ so = 0 ∧ 0 ≤ wh ∧ wh < st 122 1 → ((-1) : Int) = LT5 (st 123 wh.toNat) k) ∧ (0 ≤ k ∧ k < 6 ∧ so = 1 ∧ 0 ≤ wh ∧ wh < st 122 8 → ((-1) : Int) = LT5 (st 128 wh.toNat) k) ∧ (¬ (0 ≤ k ∧ k < 6 ∧ so = 0 ∧ 0 ≤ wh ∧ wh < st 122 1) → ¬ (0 ≤ k ∧ k < 6 ∧ so = 1 ∧ 0 ≤ wh ∧ wh < st 122 8) → ((-1) : Int) = -1) from ⟨fun z => by omega, fun z => by omega, fun _ _ => rfl⟩)
          · refine ⟨rfl, (show st 0 8 = 122 from by omega), fun r7 q7 => ?_⟩
            have b7 := q7
            change (r7 = 0 ∨ r7 = 1) ∧ (r7 = 1 ↔ 0 ≤ wh ∧ wh < st 122 8) at b7
            refine ⟨fun h18 => ?_, fun h18 => ?_⟩
            · exact hQ _ (show (0 ≤ k ∧ k < 6 ∧ so = 0 ∧ 0 ≤ wh ∧ wh < st 122 1 → ((-1) : Int) = LT5 (st 123 wh.toNat) k) ∧ (0 ≤ k ∧ k < 6 ∧ so = 1 ∧ 0 ≤ wh ∧ wh < st 122 8 → ((-1) : Int) = LT5 (st 128 wh.toNat) k) ∧ (¬ (0 ≤ k ∧ k < 6 ∧ so = 0 ∧ 0 ≤ wh ∧ wh < st 122 1) → ¬ (0 ≤ k ∧ k < 6 ∧ so = 1 ∧ 0 ≤ wh ∧ wh < st 122 8) → ((-1) : Int) = -1) from ⟨fun z => by omega, fun z => by omega, fun _ _ => rfl⟩)
            · refine ⟨by omega, ?_⟩
              have g19 := g_a128 hG (wh : Int).toNat
              refine ⟨by omega, ?_⟩
              refine ⟨(show 0 ≤ k ∧ k < 6 from by omega), fun r8 q8 => ?_⟩
              have e8 := q8
              change r8 = LT5 (st 128 (wh : Int).toNat) k at e8
              exact hQ _ (show (0 ≤ k ∧ k < 6 ∧ so = 0 ∧ 0 ≤ wh ∧ wh < st 122 1 → r8 = LT5 (st 123 wh.toNat) k) ∧ (0 ≤ k ∧ k < 6 ∧ so = 1 ∧ 0 ≤ wh ∧ wh < st 122 8 → r8 = LT5 (st 128 wh.toNat) k) ∧ (¬ (0 ≤ k ∧ k < 6 ∧ so = 0 ∧ 0 ≤ wh ∧ wh < st 122 1) → ¬ (0 ≤ k ∧ k < 6 ∧ so = 1 ∧ 0 ≤ wh ∧ wh < st 122 8) → r8 = -1) from (by first | (have y : 0 ≤ k ∧ k < 6 ∧ so = 0 ∧ 0 ≤ wh ∧ wh < st 122 1 := ⟨by omega, by omega, by omega, by omega, by omega⟩; exact ⟨fun _ => e8, fun z => by omega, fun z1 z2 => absurd y z1⟩) | (have y : 0 ≤ k ∧ k < 6 ∧ so = 1 ∧ 0 ≤ wh ∧ wh < st 122 8 := ⟨by omega, by omega, by omega, by omega, by omega⟩; exact ⟨fun z => by omega, fun _ => e8, fun z1 z2 => absurd y z2⟩)))
        · refine ⟨by omega, ?_⟩
          have g20 := g_a123 hG (wh : Int).toNat
          refine ⟨by omega, ?_⟩
          refine ⟨(show 0 ≤ k ∧ k < 6 from by omega), fun r9 q9 => ?_⟩
          have e9 := q9
          change r9 = LT5 (st 123 (wh : Int).toNat) k at e9
          exact hQ _ (show (0 ≤ k ∧ k < 6 ∧ so = 0 ∧ 0 ≤ wh ∧ wh < st 122 1 → r9 = LT5 (st 123 wh.toNat) k) ∧ (0 ≤ k ∧ k < 6 ∧ so = 1 ∧ 0 ≤ wh ∧ wh < st 122 8 → r9 = LT5 (st 128 wh.toNat) k) ∧ (¬ (0 ≤ k ∧ k < 6 ∧ so = 0 ∧ 0 ≤ wh ∧ wh < st 122 1) → ¬ (0 ≤ k ∧ k < 6 ∧ so = 1 ∧ 0 ≤ wh ∧ wh < st 122 8) → r9 = -1) from (by first | (have y : 0 ≤ k ∧ k < 6 ∧ so = 0 ∧ 0 ≤ wh ∧ wh < st 122 1 := ⟨by omega, by omega, by omega, by omega, by omega⟩; exact ⟨fun _ => e9, fun z => by omega, fun z1 z2 => absurd y z1⟩) | (have y : 0 ≤ k ∧ k < 6 ∧ so = 1 ∧ 0 ≤ wh ∧ wh < st 122 8 := ⟨by omega, by omega, by omega, by omega, by omega⟩; exact ⟨fun z => by omega, fun _ => e9, fun z1 z2 => absurd y z2⟩)))
    · exact hQ _ (show (0 ≤ k ∧ k < 6 ∧ so = 0 ∧ 0 ≤ wh ∧ wh < st 122 1 → ((-1) : Int) = LT5 (st 123 wh.toNat) k) ∧ (0 ≤ k ∧ k < 6 ∧ so = 1 ∧ 0 ≤ wh ∧ wh < st 122 8 → ((-1) : Int) = LT5 (st 128 wh.toNat) k) ∧ (¬ (0 ≤ k ∧ k < 6 ∧ so = 0 ∧ 0 ≤ wh ∧ wh < st 122 1) → ¬ (0 ≤ k ∧ k < 6 ∧ so = 1 ∧ 0 ≤ wh ∧ wh < st 122 8) → ((-1) : Int) = -1) from ⟨fun z => by omega, fun z => by omega, fun _ _ => rfl⟩)
theorem k_cLetterA_m (hTb : aTb zSh rx_tb cl) {D : Nat} (hD : 2 ≤ D) : ∀ as st (Q Q' : zQ), (∀ r st', Q r st' → Q' r st') → k_cLetterA 44 as st Q → cl D 44 as st Q' := by
  intro as st Q Q' hQ h
  unfold k_cLetterA at h
  split at h
  · obtain ⟨rfl, h⟩ := h
    exact c_cLetterA hTb hD (ct_cLetterA_m hQ h)
  · exact h.elim
set_option maxHeartbeats 4000000 in
set_option maxRecDepth 100000 in
theorem c_cIsPlB (hTb : aTb zSh rx_tb cl) {D : Nat} (hD : 1 ≤ D) {a : Int} {st : zS} {Q : zQ} (h : ct_cIsPlB a st Q) : cl D 56 [.inr (.inr (.inl 0)), .inl a] st Q := by
  obtain ⟨d, rfl⟩ : ∃ d, D = d + 1 := ⟨D - 1, by omega⟩
  refine hTb d 56 (rx_m56, 2, 0, 0, 2) rfl _ _ _ (Nat.le_of_ble_eq_true rfl) (fun K hcl hsf hsl => ?_)
  have hcm : zmo (zno) (cl d) := zno_m
  obtain ⟨hR, hQ⟩ := h
  have dd := hR
  change st 0 8 = 135 at dd
  refine dr1_ok (Rt := Q) (wc := (zno)) (stp := []) hcm hcl [(6, 135)] [] 31 ?_
  show ((a < (0 : Int) → ((0 = (0 : Int) ∨ 0 = (1 : Int)) ∧ Q (some (.inl 0)) st)) ∧ (¬ (a < (0 : Int)) → ((st 0 8 = (135 : Int)) ∧ ((st 135 1 ≤ a → ((0 = (0 : Int) ∨ 0 = (1 : Int)) ∧ Q (some (.inl 0)) st)) ∧ (¬ (st 135 1 ≤ a) → ((1 = (0 : Int) ∨ 1 = (1 : Int)) ∧ Q (some (.inl 1)) st))))))
  refine ⟨fun h1 => ?_, fun h1 => ?_⟩
  · refine ⟨by omega, ?_⟩
    exact hQ _ (show ((0 : Int) = 0 ∨ (0 : Int) = 1) ∧ ((0 : Int) = 1 ↔ 0 ≤ a ∧ a < st 135 1) from by omega)
  · refine ⟨by omega, ?_⟩
    refine ⟨fun h2 => ?_, fun h2 => ?_⟩
    · refine ⟨by omega, ?_⟩
      exact hQ _ (show ((0 : Int) = 0 ∨ (0 : Int) = 1) ∧ ((0 : Int) = 1 ↔ 0 ≤ a ∧ a < st 135 1) from by omega)
    · refine ⟨by omega, ?_⟩
      exact hQ _ (show ((1 : Int) = 0 ∨ (1 : Int) = 1) ∧ ((1 : Int) = 1 ↔ 0 ≤ a ∧ a < st 135 1) from by omega)
theorem k_cIsPlB_m (hTb : aTb zSh rx_tb cl) {D : Nat} (hD : 1 ≤ D) : ∀ as st (Q Q' : zQ), (∀ r st', Q r st' → Q' r st') → k_cIsPlB 56 as st Q → cl D 56 as st Q' := by
  intro as st Q Q' hQ h
  unfold k_cIsPlB at h
  split at h
  · obtain ⟨rfl, h⟩ := h
    exact c_cIsPlB hTb hD (ct_cIsPlB_m hQ h)
  · exact h.elim
set_option maxHeartbeats 4000000 in
set_option maxRecDepth 100000 in
theorem c_cIsThB (hTb : aTb zSh rx_tb cl) {D : Nat} (hD : 1 ≤ D) {a : Int} {st : zS} {Q : zQ} (h : ct_cIsThB a st Q) : cl D 66 [.inr (.inr (.inl 0)), .inl a] st Q := by
  obtain ⟨d, rfl⟩ : ∃ d, D = d + 1 := ⟨D - 1, by omega⟩
  refine hTb d 66 (rx_m66, 2, 0, 0, 2) rfl _ _ _ (Nat.le_of_ble_eq_true rfl) (fun K hcl hsf hsl => ?_)
  have hcm : zmo (zno) (cl d) := zno_m
  obtain ⟨hR, hQ⟩ := h
  have dd := hR
  change st 0 8 = 135 at dd
  refine dr1_ok (Rt := Q) (wc := (zno)) (stp := []) hcm hcl [(6, 135)] [] 31 ?_
  show ((a < (0 : Int) → ((0 = (0 : Int) ∨ 0 = (1 : Int)) ∧ Q (some (.inl 0)) st)) ∧ (¬ (a < (0 : Int)) → ((st 0 8 = (135 : Int)) ∧ ((st 135 8 ≤ a → ((0 = (0 : Int) ∨ 0 = (1 : Int)) ∧ Q (some (.inl 0)) st)) ∧ (¬ (st 135 8 ≤ a) → ((1 = (0 : Int) ∨ 1 = (1 : Int)) ∧ Q (some (.inl 1)) st))))))
  refine ⟨fun h1 => ?_, fun h1 => ?_⟩
  · refine ⟨by omega, ?_⟩
    exact hQ _ (show ((0 : Int) = 0 ∨ (0 : Int) = 1) ∧ ((0 : Int) = 1 ↔ 0 ≤ a ∧ a < st 135 8) from by omega)
  · refine ⟨by omega, ?_⟩
    refine ⟨fun h2 => ?_, fun h2 => ?_⟩
    · refine ⟨by omega, ?_⟩
      exact hQ _ (show ((0 : Int) = 0 ∨ (0 : Int) = 1) ∧ ((0 : Int) = 1 ↔ 0 ≤ a ∧ a < st 135 8) from by omega)
    · refine ⟨by omega, ?_⟩
      exact hQ _ (show ((1 : Int) = 0 ∨ (1 : Int) = 1) ∧ ((1 : Int) = 1 ↔ 0 ≤ a ∧ a < st 135 8) from by omega)
theorem k_cIsThB_m (hTb : aTb zSh rx_tb cl) {D : Nat} (hD : 1 ≤ D) : ∀ as st (Q Q' : zQ), (∀ r st', Q r st' → Q' r st') → k_cIsThB 66 as st Q → cl D 66 as st Q' := by
  intro as st Q Q' hQ h
  unfold k_cIsThB at h
  split at h
  · obtain ⟨rfl, h⟩ := h
    exact c_cIsThB hTb hD (ct_cIsThB_m hQ h)
  · exact h.elim
set_option maxHeartbeats 4000000 in
set_option maxRecDepth 100000 in
theorem c_cLetterB (hTb : aTb zSh rx_tb cl) {D : Nat} (hD : 2 ≤ D) {so wh k : Int} {st : zS} {Q : zQ} (h : ct_cLetterB so wh k st Q) : cl D 44 [.inr (.inr (.inl 0)), .inl so, .inl wh, .inl k] st Q := by
  obtain ⟨d, rfl⟩ : ∃ d, D = d + 1 := ⟨D - 1, by omega⟩
  refine hTb d 44 (rx_m44, 4, 0, 0, 1) rfl _ _ _ (Nat.le_of_ble_eq_true rfl) (fun K hcl hsf hsl => ?_)
  have hcm : zmo (wcL [(56, k_cIsPlB), (66, k_cIsThB), (295, k_cLetOf)]) (cl d) := (wcL_m (wm_cons (k_cIsPlB_m hTb (by omega)) (wm_cons (k_cIsThB_m hTb (by omega)) (wm_cons (k_cLetOf_m hTb (by omega)) wm_nil))))
  obtain ⟨hR, hQ⟩ := h
  obtain ⟨hG, dd⟩ := hR
  change st 0 8 = 135 at dd
  have g1 := g_f0_8 hG
  have g2 := g_f135_1 hG
  have g3 := g_f135_8 hG
  refine dr1_ok (Rt := Q) (wc := (wcL [(56, k_cIsPlB), (66, k_cIsThB), (295, k_cLetOf)])) (stp := []) hcm hcl [(25, 135), (52, 135)] [] 58 ?_
  show ((k < (0 : Int) → Q (some (.inl (-1))) st) ∧ (¬ (k < (0 : Int)) → ((k < (6 : Int) → ((¬ so = (0 : Int) → ((¬ so = (1 : Int) → Q (some (.inl (-1))) st) ∧ (¬ (¬ so = (1 : Int)) → (0 = 0 ∧ (rq_cIsThB wh st ∧ (∀ (r4 : Int), en_cIsThB wh st r4 → ((r4 = (0 : Int) → Q (some (.inl (-1))) st) ∧ (¬ (r4 = (0 : Int)) → ((st 0 8 = (135 : Int)) ∧ ((0 ≤ wh ∧ wh < 8) ∧ (rq_cLetOf (st 141 (wh : Int).toNat) k st ∧ (∀ (r5 : Int), en_cLetOf (st 141 (wh : Int).toNat) k st r5 → Q (some (.inl r5)) st)))))))))))) ∧ (¬ (¬ so = (0 : Int)) → (0 = 0 ∧ (rq_cIsPlB wh st ∧ (∀ (r6 : Int), en_cIsPlB wh st r6 → ((r6 = (0 : Int) → ((¬ so = (1 : Int) → Q (some (.inl (-1))) st) ∧ (¬ (¬ so = (1 : Int)) → (0 = 0 ∧ (rq_cIsThB wh st ∧ (∀ (r7 : Int), en_cIsThB wh st r7 → ((r7 = (0 : Int) → Q (some (.inl (-1))) st) ∧ (¬ (r7 = (0 : Int)) → ((st 0 8 = (135 : Int)) ∧ ((0 ≤ wh ∧ wh < 8) ∧ (rq_cLetOf (st 141 (wh : Int).toNat) k st ∧ (∀ (r8 : Int), en_cLetOf (st 141 (wh : Int).toNat) k st r8 → Q (some (.inl r8)) st)))))))))))) ∧ (¬ (r6 = (0 : Int)) → ((st 0 8 = (135 : Int)) ∧ ((0 ≤ wh ∧ wh < 8) ∧ (rq_cLetOf (st 136 (wh : Int).toNat) k st ∧ (∀ (r9 : Int), en_cLetOf (st 136 (wh : Int).toNat) k st r9 → Q (some (.inl r9)) st)))))))))))) ∧ (¬ (k < (6 : Int)) → Q (some (.inl (-1))) st))))
  refine ⟨fun h10 => ?_, fun h10 => ?_⟩
  · exact hQ _ (show (0 ≤ k ∧ k < 6 ∧ so = 0 ∧ 0 ≤ wh ∧ wh < st 135 1 → ((-1) : Int) = LT5 (st 136 wh.toNat) k) ∧ (0 ≤ k ∧ k < 6 ∧ so = 1 ∧ 0 ≤ wh ∧ wh < st 135 8 → ((-1) : Int) = LT5 (st 141 wh.toNat) k) ∧ (¬ (0 ≤ k ∧ k < 6 ∧ so = 0 ∧ 0 ≤ wh ∧ wh < st 135 1) → ¬ (0 ≤ k ∧ k < 6 ∧ so = 1 ∧ 0 ≤ wh ∧ wh < st 135 8) → ((-1) : Int) = -1) from ⟨fun z => by omega, fun z => by omega, fun _ _ => rfl⟩)
  · refine ⟨fun h11 => ?_, fun h11 => ?_⟩
    · refine ⟨fun h12 => ?_, fun h12 => ?_⟩
      · refine ⟨fun h13 => ?_, fun h13 => ?_⟩
        · exact hQ _ (show (0 ≤ k ∧ k < 6 ∧ so = 0 ∧ 0 ≤ wh ∧ wh < st 135 1 → ((-1) : Int) = LT5 (st 136 wh.toNat) k) ∧ (0 ≤ k ∧ k < 6 ∧ so = 1 ∧ 0 ≤ wh ∧ wh < st 135 8 → ((-1) : Int) = LT5 (st 141 wh.toNat) k) ∧ (¬ (0 ≤ k ∧ k < 6 ∧ so = 0 ∧ 0 ≤ wh ∧ wh < st 135 1) → ¬ (0 ≤ k ∧ k < 6 ∧ so = 1 ∧ 0 ≤ wh ∧ wh < st 135 8) → ((-1) : Int) = -1) from ⟨fun z => by omega, fun z => by omega, fun _ _ => rfl⟩)
        · refine ⟨rfl, (show st 0 8 = 135 from by omega), fun r4 q4 => ?_⟩
          have b4 := q4
          change (r4 = 0 ∨ r4 = 1) ∧ (r4 = 1 ↔ 0 ≤ wh ∧ wh < st 135 8) at b4
          refine ⟨fun h14 => ?_, fun h14 => ?_⟩
          · exact hQ _ (show (0 ≤ k ∧ k < 6 ∧ so = 0 ∧ 0 ≤ wh ∧ wh < st 135 1 → ((-1) : Int) = LT5 (st 136 wh.toNat) k) ∧ (0 ≤ k ∧ k < 6 ∧ so = 1 ∧ 0 ≤ wh ∧ wh < st 135 8 → ((-1) : Int) = LT5 (st 141 wh.toNat) k) ∧ (¬ (0 ≤ k ∧ k < 6 ∧ so = 0 ∧ 0 ≤ wh ∧ wh < st 135 1) → ¬ (0 ≤ k ∧ k < 6 ∧ so = 1 ∧ 0 ≤ wh ∧ wh < st 135 8) → ((-1) : Int) = -1) from ⟨fun z => by omega, fun z => by omega, fun _ _ => rfl⟩)
          · refine ⟨by omega, ?_⟩
            have g15 := g_a141 hG (wh : Int).toNat
            refine ⟨by omega, ?_⟩
            refine ⟨(show 0 ≤ k ∧ k < 6 from by omega), fun r5 q5 => ?_⟩
            have e5 := q5
            change r5 = LT5 (st 141 (wh : Int).toNat) k at e5
            exact hQ _ (show (0 ≤ k ∧ k < 6 ∧ so = 0 ∧ 0 ≤ wh ∧ wh < st 135 1 → r5 = LT5 (st 136 wh.toNat) k) ∧ (0 ≤ k ∧ k < 6 ∧ so = 1 ∧ 0 ≤ wh ∧ wh < st 135 8 → r5 = LT5 (st 141 wh.toNat) k) ∧ (¬ (0 ≤ k ∧ k < 6 ∧ so = 0 ∧ 0 ≤ wh ∧ wh < st 135 1) → ¬ (0 ≤ k ∧ k < 6 ∧ so = 1 ∧ 0 ≤ wh ∧ wh < st 135 8) → r5 = -1) from (by first | (have y : 0 ≤ k ∧ k < 6 ∧ so = 0 ∧ 0 ≤ wh ∧ wh < st 135 1 := ⟨by omega, by omega, by omega, by omega, by omega⟩; exact ⟨fun _ => e5, fun z => by omega, fun z1 z2 => absurd y z1⟩) | (have y : 0 ≤ k ∧ k < 6 ∧ so = 1 ∧ 0 ≤ wh ∧ wh < st 135 8 := ⟨by omega, by omega, by omega, by omega, by omega⟩; exact ⟨fun z => by omega, fun _ => e5, fun z1 z2 => absurd y z2⟩)))
      · refine ⟨rfl, (show st 0 8 = 135 from by omega), fun r6 q6 => ?_⟩
        have b6 := q6
        change (r6 = 0 ∨ r6 = 1) ∧ (r6 = 1 ↔ 0 ≤ wh ∧ wh < st 135 1) at b6
        refine ⟨fun h16 => ?_, fun h16 => ?_⟩
        · refine ⟨fun h17 => ?_, fun h17 => ?_⟩
          · exact hQ _ (show (0 ≤ k ∧ k < 6 ∧ so = 0 ∧ 0 ≤ wh ∧ wh < st 135 1 → ((-1) : Int) = LT5 (st 136 wh.toNat) k) ∧ (0 ≤ k ∧ k < 6 ∧ so = 1 ∧ 0 ≤ wh ∧ wh < st 135 8 → ((-1) : Int) = LT5 (st 141 wh.toNat) k) ∧ (¬ (0 ≤ k ∧ k < 6 ∧ so = 0 ∧ 0 ≤ wh ∧ wh < st 135 1) → ¬ (0 ≤ k ∧ k < 6 ∧ so = 1 ∧ 0 ≤ wh ∧ wh < st 135 8) → ((-1) : Int) = -1) from ⟨fun z => by omega, fun z => by omega, fun _ _ => rfl⟩)
          · refine ⟨rfl, (show st 0 8 = 135 from by omega), fun r7 q7 => ?_⟩
            have b7 := q7
            change (r7 = 0 ∨ r7 = 1) ∧ (r7 = 1 ↔ 0 ≤ wh ∧ wh < st 135 8) at b7
            refine ⟨fun h18 => ?_, fun h18 => ?_⟩
            · exact hQ _ (show (0 ≤ k ∧ k < 6 ∧ so = 0 ∧ 0 ≤ wh ∧ wh < st 135 1 → ((-1) : Int) = LT5 (st 136 wh.toNat) k) ∧ (0 ≤ k ∧ k < 6 ∧ so = 1 ∧ 0 ≤ wh ∧ wh < st 135 8 → ((-1) : Int) = LT5 (st 141 wh.toNat) k) ∧ (¬ (0 ≤ k ∧ k < 6 ∧ so = 0 ∧ 0 ≤ wh ∧ wh < st 135 1) → ¬ (0 ≤ k ∧ k < 6 ∧ so = 1 ∧ 0 ≤ wh ∧ wh < st 135 8) → ((-1) : Int) = -1) from ⟨fun z => by omega, fun z => by omega, fun _ _ => rfl⟩)
            · refine ⟨by omega, ?_⟩
              have g19 := g_a141 hG (wh : Int).toNat
              refine ⟨by omega, ?_⟩
              refine ⟨(show 0 ≤ k ∧ k < 6 from by omega), fun r8 q8 => ?_⟩
              have e8 := q8
              change r8 = LT5 (st 141 (wh : Int).toNat) k at e8
              exact hQ _ (show (0 ≤ k ∧ k < 6 ∧ so = 0 ∧ 0 ≤ wh ∧ wh < st 135 1 → r8 = LT5 (st 136 wh.toNat) k) ∧ (0 ≤ k ∧ k < 6 ∧ so = 1 ∧ 0 ≤ wh ∧ wh < st 135 8 → r8 = LT5 (st 141 wh.toNat) k) ∧ (¬ (0 ≤ k ∧ k < 6 ∧ so = 0 ∧ 0 ≤ wh ∧ wh < st 135 1) → ¬ (0 ≤ k ∧ k < 6 ∧ so = 1 ∧ 0 ≤ wh ∧ wh < st 135 8) → r8 = -1) from (by first | (have y : 0 ≤ k ∧ k < 6 ∧ so = 0 ∧ 0 ≤ wh ∧ wh < st 135 1 := ⟨by omega, by omega, by omega, by omega, by omega⟩; exact ⟨fun _ => e8, fun z => by omega, fun z1 z2 => absurd y z1⟩) | (have y : 0 ≤ k ∧ k < 6 ∧ so = 1 ∧ 0 ≤ wh ∧ wh < st 135 8 := ⟨by omega, by omega, by omega, by omega, by omega⟩; exact ⟨fun z => by omega, fun _ => e8, fun z1 z2 => absurd y z2⟩)))
        · refine ⟨by omega, ?_⟩
          have g20 := g_a136 hG (wh : Int).toNat
          refine ⟨by omega, ?_⟩
          refine ⟨(show 0 ≤ k ∧ k < 6 from by omega), fun r9 q9 => ?_⟩
          have e9 := q9
          change r9 = LT5 (st 136 (wh : Int).toNat) k at e9
          exact hQ _ (show (0 ≤ k ∧ k < 6 ∧ so = 0 ∧ 0 ≤ wh ∧ wh < st 135 1 → r9 = LT5 (st 136 wh.toNat) k) ∧ (0 ≤ k ∧ k < 6 ∧ so = 1 ∧ 0 ≤ wh ∧ wh < st 135 8 → r9 = LT5 (st 141 wh.toNat) k) ∧ (¬ (0 ≤ k ∧ k < 6 ∧ so = 0 ∧ 0 ≤ wh ∧ wh < st 135 1) → ¬ (0 ≤ k ∧ k < 6 ∧ so = 1 ∧ 0 ≤ wh ∧ wh < st 135 8) → r9 = -1) from (by first | (have y : 0 ≤ k ∧ k < 6 ∧ so = 0 ∧ 0 ≤ wh ∧ wh < st 135 1 := ⟨by omega, by omega, by omega, by omega, by omega⟩; exact ⟨fun _ => e9, fun z => by omega, fun z1 z2 => absurd y z1⟩) | (have y : 0 ≤ k ∧ k < 6 ∧ so = 1 ∧ 0 ≤ wh ∧ wh < st 135 8 := ⟨by omega, by omega, by omega, by omega, by omega⟩; exact ⟨fun z => by omega, fun _ => e9, fun z1 z2 => absurd y z2⟩)))
    · exact hQ _ (show (0 ≤ k ∧ k < 6 ∧ so = 0 ∧ 0 ≤ wh ∧ wh < st 135 1 → ((-1) : Int) = LT5 (st 136 wh.toNat) k) ∧ (0 ≤ k ∧ k < 6 ∧ so = 1 ∧ 0 ≤ wh ∧ wh < st 135 8 → ((-1) : Int) = LT5 (st 141 wh.toNat) k) ∧ (¬ (0 ≤ k ∧ k < 6 ∧ so = 0 ∧ 0 ≤ wh ∧ wh < st 135 1) → ¬ (0 ≤ k ∧ k < 6 ∧ so = 1 ∧ 0 ≤ wh ∧ wh < st 135 8) → ((-1) : Int) = -1) from ⟨fun z => by omega, fun z => by omega, fun _ _ => rfl⟩)
theorem k_cLetterB_m (hTb : aTb zSh rx_tb cl) {D : Nat} (hD : 2 ≤ D) : ∀ as st (Q Q' : zQ), (∀ r st', Q r st' → Q' r st') → k_cLetterB 44 as st Q → cl D 44 as st Q' := by
  intro as st Q Q' hQ h
  unfold k_cLetterB at h
  split at h
  · obtain ⟨rfl, h⟩ := h
    exact c_cLetterB hTb hD (ct_cLetterB_m hQ h)
  · exact h.elim
set_option maxHeartbeats 4000000 in
set_option maxRecDepth 100000 in
theorem c_rLetter (hTb : aTb zSh rx_tb cl) {T : zS} {D : Nat} (hD : 2 ≤ D) {so wh k : Int} {st : zS} {Q : zQ} (h : ct_rLetter T so wh k st Q) : cl D 46 [.inr (.inr (.inl 170)), .inl so, .inl wh, .inl k] st Q := by
  obtain ⟨d, rfl⟩ : ∃ d, D = d + 1 := ⟨D - 1, by omega⟩
  refine hTb d 46 (rx_m46, 9, 0, 0, 1) rfl _ _ _ (Nat.le_of_ble_eq_true rfl) (fun K hcl hsf hsl => ?_)
  have hcm : zmo (wcL [(8, k_is), (55, k_manyOf), (186, k_rNameOf)]) (cl d) := (wcL_m (wm_cons (k_is_m hTb (by omega)) (wm_cons (k_manyOf_m hTb (by omega)) (wm_cons (k_rNameOf_m hTb (by omega)) wm_nil))))
  obtain ⟨hR, hQ⟩ := h
  obtain ⟨hG, rt⟩ := hR
  change RT (st 170 13) T st at rt
  have g1 := g_bank hG
  have rn1 := rt.1.1
  have rn2 := rt.1.2.1
  have rt1 := rt.2.1.1
  have rt2 := rt.2.1.2.1
  refine yr1_ok (Rt := Q) (wc := (wcL [(8, k_is), (55, k_manyOf), (186, k_rNameOf)])) (stp := [58]) hcm hcl [] 86 ?_
  show (∀ (r2 : Int), en_is so (0) (1) st r2 → ((r2 = (0 : Int) → Q (some (.inl (-1))) st) ∧ (¬ (r2 = (0 : Int)) → (170 = 170 ∧ (rq_manyOf (st 170 13) so st ∧ (∀ (r3 : Int), en_manyOf (st 170 13) so st r3 → ((-2147483648 ≤ r3 - 1 ∧ r3 - 1 ≤ 2147483647) ∧ (∀ (r4 : Int), en_is wh (0) (r3 - 1) st r4 → ((r4 = (0 : Int) → Q (some (.inl (-1))) st) ∧ (¬ (r4 = (0 : Int)) → (∀ (r5 : Int), en_is k (0) (5) st r5 → ((¬ r5 = (0 : Int) → (170 = 170 ∧ (rq_rNameOf (st 170 13) so wh st ∧ (∀ (r6 : Int), en_rNameOf (st 170 13) so wh st r6 → K (rx_find rx_m46 58) [(7, .inr (.inl r6)), (6, .inl 0), (4, .inr (.inl r6)), (0, .inr (.inr (.inl 170))), (1, .inl so), (2, .inl wh), (3, .inl k)] [] st)))) ∧ (¬ (¬ r5 = (0 : Int)) → Q (some (.inl (-1))) st)))))))))))))
  refine fun r2 q2 => ?_
  have b2 := q2
  change (r2 = 0 ∨ r2 = 1) ∧ (r2 = 1 ↔ (0) ≤ so ∧ so ≤ (1)) at b2
  refine ⟨fun h7 => ?_, fun h7 => ?_⟩
  · exact hQ _ (show (0 ≤ k ∧ k < 6 ∧ so = 0 ∧ 0 ≤ wh ∧ wh < T 0 1 → ((-1) : Int) = LT5 (T 1 wh.toNat) k) ∧ (0 ≤ k ∧ k < 6 ∧ so = 1 ∧ 0 ≤ wh ∧ wh < T 0 8 → ((-1) : Int) = LT5 (T 6 wh.toNat) k) ∧ (¬ (0 ≤ k ∧ k < 6 ∧ so = 0 ∧ 0 ≤ wh ∧ wh < T 0 1) → ¬ (0 ≤ k ∧ k < 6 ∧ so = 1 ∧ 0 ≤ wh ∧ wh < T 0 8) → ((-1) : Int) = -1) from ⟨fun z => by omega, fun z => by omega, fun _ _ => rfl⟩)
  · refine ⟨rfl, (show 0 ≤ (st 170 13) ∧ (st 170 13) ≤ 1 from by omega), fun r3 q3 => ?_⟩
    have b3 := q3
    change (so = 0 → r3 = st 172 ((st 170 13) : Int).toNat) ∧ (¬ so = 0 → r3 = st 181 ((st 170 13) : Int).toNat) at b3
    have g8 := g_places hG ((st 170 13) : Int).toNat
    have g9 := g_things hG ((st 170 13) : Int).toNat
    refine ⟨by omega, ?_⟩
    refine fun r4 q4 => ?_
    have b4 := q4
    change (r4 = 0 ∨ r4 = 1) ∧ (r4 = 1 ↔ (0) ≤ wh ∧ wh ≤ (r3 - 1)) at b4
    refine ⟨fun h10 => ?_, fun h10 => ?_⟩
    · exact hQ _ (show (0 ≤ k ∧ k < 6 ∧ so = 0 ∧ 0 ≤ wh ∧ wh < T 0 1 → ((-1) : Int) = LT5 (T 1 wh.toNat) k) ∧ (0 ≤ k ∧ k < 6 ∧ so = 1 ∧ 0 ≤ wh ∧ wh < T 0 8 → ((-1) : Int) = LT5 (T 6 wh.toNat) k) ∧ (¬ (0 ≤ k ∧ k < 6 ∧ so = 0 ∧ 0 ≤ wh ∧ wh < T 0 1) → ¬ (0 ≤ k ∧ k < 6 ∧ so = 1 ∧ 0 ≤ wh ∧ wh < T 0 8) → ((-1) : Int) = -1) from ⟨fun z => by omega, fun z => by omega, fun _ _ => rfl⟩)
    · refine fun r5 q5 => ?_
      have b5 := q5
      change (r5 = 0 ∨ r5 = 1) ∧ (r5 = 1 ↔ (0) ≤ k ∧ k ≤ (5)) at b5
      refine ⟨fun h11 => ?_, fun h11 => ?_⟩
      · refine ⟨rfl, (show 0 ≤ (st 170 13) ∧ (st 170 13) ≤ 1 ∧ 0 ≤ wh ∧ wh < 8 from by omega), fun r6 q6 => ?_⟩
        have e6 := q6
        change (so = 0 → r6 = st 190 (8 * (st 170 13) + wh : Int).toNat) ∧ (¬ so = 0 → r6 = st 191 (8 * (st 170 13) + wh : Int).toNat) at e6
        have g12 := g_placeName hG (8 * (st 170 13) + wh : Int).toNat
        have g13 := g_thingName hG (8 * (st 170 13) + wh : Int).toNat
        have hx : ∃ x : Int, isN6 r6 x ∧ (so = 0 → x = T 1 wh.toNat) ∧ (¬ so = 0 → x = T 6 wh.toNat) := by
          by_cases hs : so = 0
          · refine ⟨T 1 wh.toNat, ?_, fun _ => rfl, fun z => absurd hs z⟩
            rw [e6.1 hs]
            exact rt.1.2.2 wh (by omega) (by omega)
          · refine ⟨T 6 wh.toNat, ?_, fun z => absurd z hs, fun _ => rfl⟩
            rw [e6.2 hs]
            exact (rt.2.1.2.2 wh (by omega) (by omega)).1
        obtain ⟨x, hx, hx0, hx1⟩ := hx
        have hw := isN6_w hx
        have lp : ∀ (u : Nat) (nn : Int) (mo : Int), (0 ≤ nn ∧ nn ≤ 6) ∧ (RM8 r6 nn mo) → (7 - nn).toNat = u → K (rx_find rx_m46 58) [(0, .inr (.inr (.inl 170))), (1, .inl so), (2, .inl wh), (3, .inl k), (4, .inr (.inl r6)), (6, .inl nn), (7, .inr (.inl mo))] [] st := by
          intro u_lp
          induction u_lp using Nat.strongRecOn with
          | _ u_lp ih_lp =>
            intro nn mo hi hu_lp
            obtain ⟨i_lp, rm_lp⟩ := hi
            refine yr1_ok (Rt := Q) (wc := (wcL [(8, k_is), (55, k_manyOf), (186, k_rNameOf)])) (stp := [58]) hcm hcl [] 86 ?_
            show (∀ (w14 : Int), (mo < 0 ∧ w14 = -1 ∨ mo = 0 ∧ w14 = 0 ∨ 0 < mo ∧ w14 = 1) → ((w14 ≤ (0 : Int) → ((k < nn → ((-2147483648 ≤ nn - 1 ∧ nn - 1 ≤ 2147483647) ∧ ((-2147483648 ≤ (nn - 1) - k ∧ (nn - 1) - k ≤ 2147483647) ∧ ((-2147483648 ≤ (8 : Int) * ((nn - 1) - k) ∧ (8 : Int) * ((nn - 1) - k) ≤ 2147483647) ∧ ((-2147483648 ≤ ze (Nat.land (zl (r6 / zpw (((8 : Int) * ((nn - 1) - k)) % 64).toNat)) (zl 255)) ∧ ze (Nat.land (zl (r6 / zpw (((8 : Int) * ((nn - 1) - k)) % 64).toNat)) (zl 255)) ≤ 2147483647) ∧ ((-2147483648 ≤ (ze (Nat.land (zl (r6 / zpw (((8 : Int) * ((nn - 1) - k)) % 64).toNat)) (zl 255))) - 97 ∧ (ze (Nat.land (zl (r6 / zpw (((8 : Int) * ((nn - 1) - k)) % 64).toNat)) (zl 255))) - 97 ≤ 2147483647) ∧ ((-2147483648 ≤ ((ze (Nat.land (zl (r6 / zpw (((8 : Int) * ((nn - 1) - k)) % 64).toNat)) (zl 255))) - 97) + 1 ∧ ((ze (Nat.land (zl (r6 / zpw (((8 : Int) * ((nn - 1) - k)) % 64).toNat)) (zl 255))) - 97) + 1 ≤ 2147483647) ∧ Q (some (.inl (((ze (Nat.land (zl (r6 / zpw (((8 : Int) * ((nn - 1) - k)) % 64).toNat)) (zl 255))) - 97) + 1))) st))))))) ∧ (¬ (k < nn) → Q (some (.inl 0)) st))) ∧ (¬ (w14 ≤ (0 : Int)) → ((-2147483648 ≤ nn + 1 ∧ nn + 1 ≤ 2147483647) ∧ K (rx_find rx_m46 58) [(7, .inr (.inl (mo / zpw ((8 : Int) % 64).toNat))), (6, .inl (nn + 1)), (0, .inr (.inr (.inl 170))), (1, .inl so), (2, .inl wh), (3, .inl k), (4, .inr (.inl r6))] [] st))))
            intro w14 hw14
            refine ⟨fun h15 => ?_, fun h15 => ?_⟩
            · refine ⟨fun h16 => ?_, fun h16 => ?_⟩
              · refine ⟨by omega, ?_⟩
                refine ⟨by omega, ?_⟩
                refine ⟨by omega, ?_⟩
                refine ⟨(by have hv := byt8 (w := r6) (d := (nn - 1) - k) (by omega); have hl := LT_ref (k := k) hx rm_lp (by omega) (by omega); have h3 := hl.2.2 (by omega); omega), ?_⟩
                refine ⟨(by have hv := byt8 (w := r6) (d := (nn - 1) - k) (by omega); have hl := LT_ref (k := k) hx rm_lp (by omega) (by omega); have h3 := hl.2.2 (by omega); omega), ?_⟩
                refine ⟨(by have hv := byt8 (w := r6) (d := (nn - 1) - k) (by omega); have hl := LT_ref (k := k) hx rm_lp (by omega) (by omega); have h3 := hl.2.2 (by omega); omega), ?_⟩
                exact hQ _ (show (0 ≤ k ∧ k < 6 ∧ so = 0 ∧ 0 ≤ wh ∧ wh < T 0 1 → (((ze (Nat.land (zl (r6 / zpw (((8 : Int) * ((nn - 1) - k)) % 64).toNat)) (zl 255))) - 97) + 1) = LT5 (T 1 wh.toNat) k) ∧ (0 ≤ k ∧ k < 6 ∧ so = 1 ∧ 0 ≤ wh ∧ wh < T 0 8 → (((ze (Nat.land (zl (r6 / zpw (((8 : Int) * ((nn - 1) - k)) % 64).toNat)) (zl 255))) - 97) + 1) = LT5 (T 6 wh.toNat) k) ∧ (¬ (0 ≤ k ∧ k < 6 ∧ so = 0 ∧ 0 ≤ wh ∧ wh < T 0 1) → ¬ (0 ≤ k ∧ k < 6 ∧ so = 1 ∧ 0 ≤ wh ∧ wh < T 0 8) → (((ze (Nat.land (zl (r6 / zpw (((8 : Int) * ((nn - 1) - k)) % 64).toNat)) (zl 255))) - 97) + 1) = -1) from (by
            have hl := LT_ref (k := k) hx rm_lp (by omega) (by omega)
            have hv := byt8 (w := r6) (d := (nn - 1) - k) (by omega)
            have hq := hl.2.1 (by omega)
            refine ⟨fun z => ?_, fun z => ?_, fun z1 z2 => ?_⟩
            · rw [← hx0 (by omega)]; omega
            · rw [← hx1 (by omega)]; omega
            · exfalso
              rcases (show so = 0 ∨ so = 1 by omega) with hs | hs
              · exact z1 ⟨by omega, by omega, hs, by omega, by omega⟩
              · exact z2 ⟨by omega, by omega, hs, by omega, by omega⟩))
              · exact hQ _ (show (0 ≤ k ∧ k < 6 ∧ so = 0 ∧ 0 ≤ wh ∧ wh < T 0 1 → (0 : Int) = LT5 (T 1 wh.toNat) k) ∧ (0 ≤ k ∧ k < 6 ∧ so = 1 ∧ 0 ≤ wh ∧ wh < T 0 8 → (0 : Int) = LT5 (T 6 wh.toNat) k) ∧ (¬ (0 ≤ k ∧ k < 6 ∧ so = 0 ∧ 0 ≤ wh ∧ wh < T 0 1) → ¬ (0 ≤ k ∧ k < 6 ∧ so = 1 ∧ 0 ≤ wh ∧ wh < T 0 8) → (0 : Int) = -1) from (by
            have hl := LT_ref (k := k) hx rm_lp (by omega) (by omega)
            have hq := hl.1 (by omega)
            refine ⟨fun z => ?_, fun z => ?_, fun z1 z2 => ?_⟩
            · rw [← hx0 (by omega)]; omega
            · rw [← hx1 (by omega)]; omega
            · exfalso
              rcases (show so = 0 ∨ so = 1 by omega) with hs | hs
              · exact z1 ⟨by omega, by omega, hs, by omega, by omega⟩
              · exact z2 ⟨by omega, by omega, hs, by omega, by omega⟩))
            · refine ⟨by omega, ?_⟩
              exact hsl _ _ _ _ _ (sb_cons (.tail _ (.tail _ (.head _))) (sb_cons (.tail _ (.tail _ (.tail _ (.head _)))) (sb_cons (.tail _ (.tail _ (.tail _ (.tail _ (.head _))))) (sb_cons (.tail _ (.tail _ (.tail _ (.tail _ (.tail _ (.head _)))))) (sb_cons (.tail _ (.tail _ (.tail _ (.tail _ (.tail _ (.tail _ (.head _))))))) (sb_cons (.tail _ (.head _)) (sb_cons (.head _) sb_nil))))))) (ih_lp _ (show (7 - (nn + 1) : Int).toNat < u_lp from by omega) (nn + 1) (mo / zpw ((8 : Int) % 64).toNat) ⟨(show 0 ≤ (nn + 1) ∧ (nn + 1) ≤ 6 from by have z := RM8_b rm_lp (by omega) (by omega); omega), (show RM8 r6 (nn + 1) (mo / zpw ((8 : Int) % 64).toNat) from (by rw [show zpw ((8 : Int) % 64).toNat = 256 from by decide]; exact RM8_s rm_lp (by omega) (by omega)))⟩ rfl)
        exact hsl _ _ _ _ _ (sb_cons (.tail _ (.tail _ (.tail _ (.head _)))) (sb_cons (.tail _ (.tail _ (.tail _ (.tail _ (.head _))))) (sb_cons (.tail _ (.tail _ (.tail _ (.tail _ (.tail _ (.head _)))))) (sb_cons (.tail _ (.tail _ (.tail _ (.tail _ (.tail _ (.tail _ (.head _))))))) (sb_cons (.tail _ (.tail _ (.head _))) (sb_cons (.tail _ (.head _)) (sb_cons (.head _) sb_nil))))))) (lp _ 0 r6 ⟨(show 0 ≤ (0 : Int) ∧ (0 : Int) ≤ 6 from by omega), (show RM8 r6 (0 : Int) r6 from (by unfold RM8; omega))⟩ rfl)
      · exact hQ _ (show (0 ≤ k ∧ k < 6 ∧ so = 0 ∧ 0 ≤ wh ∧ wh < T 0 1 → ((-1) : Int) = LT5 (T 1 wh.toNat) k) ∧ (0 ≤ k ∧ k < 6 ∧ so = 1 ∧ 0 ≤ wh ∧ wh < T 0 8 → ((-1) : Int) = LT5 (T 6 wh.toNat) k) ∧ (¬ (0 ≤ k ∧ k < 6 ∧ so = 0 ∧ 0 ≤ wh ∧ wh < T 0 1) → ¬ (0 ≤ k ∧ k < 6 ∧ so = 1 ∧ 0 ≤ wh ∧ wh < T 0 8) → ((-1) : Int) = -1) from ⟨fun z => by omega, fun z => by omega, fun _ _ => rfl⟩)
theorem k_rLetter_m (hTb : aTb zSh rx_tb cl) {T : zS} {D : Nat} (hD : 2 ≤ D) : ∀ as st (Q Q' : zQ), (∀ r st', Q r st' → Q' r st') → (k_rLetter T) 46 as st Q → cl D 46 as st Q' := by
  intro as st Q Q' hQ h
  unfold k_rLetter at h
  split at h
  · obtain ⟨rfl, h⟩ := h
    exact c_rLetter hTb hD (ct_rLetter_m hQ h)
  · exact h.elim
end RZ5
