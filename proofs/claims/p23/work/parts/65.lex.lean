/-! printed by wip/p32/lib2.py: the reference's reader of words -/
def m_ahead : aM := ([(170, 3), (170, 4), (170, 5), (170, 6), (170, 7), (170, 12)], [])
def rq_ahead  (st : zS) : Prop := gInv zgt st ∧ (st 170 5 ≤ st 170 2)
def en_ahead  (st : zS) (s1 : zS) : Prop := gInv zgt s1 ∧ aFr m_ahead st s1 ∧ (s1 170 4 ≤ s1 170 5 ∧ s1 170 5 ≤ s1 170 2 ∧ (s1 170 3 = 0 ∧ s1 170 4 = s1 170 2 ∨ 1 ≤ s1 170 3 ∧ s1 170 4 < s1 170 5) ∧ st 170 5 ≤ s1 170 4)
def ct_ahead  (st : zS) (Q : zQ) : Prop := rq_ahead  st ∧ (∀ (s1 : zS), en_ahead  st s1 → Q none s1)
theorem ct_ahead_m {st : zS} {Q Q' : zQ} (hQ : ∀ r st', Q r st' → Q' r st') (h : ct_ahead  st Q) : ct_ahead  st Q' := ⟨h.1, fun x0 x1 => hQ _ _ (h.2 x0 x1)⟩
def k_ahead : zCall := fun _ as st Q => match as with
  | [.inr (.inr (.inl z_o))] => z_o = 170 ∧ ct_ahead  st Q
  | _ => False
theorem k_ahead_mon : zmon k_ahead := by
  intro nu as st Q Q' hQ h
  unfold k_ahead at h ⊢
  split at h
  · exact ⟨h.1, ct_ahead_m hQ h.2⟩
  · exact h.elim
def en_isOwn (w : Int) (st : zS) (r : Int) : Prop := ((r = 0 ∨ r = 1))
def ct_isOwn (w : Int) (st : zS) (Q : zQ) : Prop := ∀ (r : Int), en_isOwn w st r → Q (some (.inl r)) st
theorem ct_isOwn_m {w : Int} {st : zS} {Q Q' : zQ} (hQ : ∀ r st', Q r st' → Q' r st') (h : ct_isOwn w st Q) : ct_isOwn w st Q' := fun x0 x1 => hQ _ _ (h x0 x1)
def k_isOwn : zCall := fun _ as st Q => match as with
  | [.inr (.inr (.inl z_o)), .inr (.inl w)] => z_o = 170 ∧ ct_isOwn w st Q
  | _ => False
theorem k_isOwn_mon : zmon k_isOwn := by
  intro nu as st Q Q' hQ h
  unfold k_isOwn at h ⊢
  split at h
  · exact ⟨h.1, ct_isOwn_m hQ h.2⟩
  · exact h.elim
def rq_manyOf (b : Int) (k : Int) (st : zS) : Prop := (0 ≤ b ∧ b ≤ 1)
def en_manyOf (b : Int) (k : Int) (st : zS) (r : Int) : Prop := ((k = 0 → r = st 172 (b : Int).toNat) ∧ (¬ k = 0 → r = st 181 (b : Int).toNat))
def ct_manyOf (b : Int) (k : Int) (st : zS) (Q : zQ) : Prop := rq_manyOf b k st ∧ (∀ (r : Int), en_manyOf b k st r → Q (some (.inl r)) st)
theorem ct_manyOf_m {b k : Int} {st : zS} {Q Q' : zQ} (hQ : ∀ r st', Q r st' → Q' r st') (h : ct_manyOf b k st Q) : ct_manyOf b k st Q' := ⟨h.1, fun x0 x1 => hQ _ _ (h.2 x0 x1)⟩
def k_manyOf : zCall := fun _ as st Q => match as with
  | [.inr (.inr (.inl z_o)), .inl b, .inl k] => z_o = 170 ∧ ct_manyOf b k st Q
  | _ => False
theorem k_manyOf_mon : zmon k_manyOf := by
  intro nu as st Q Q' hQ h
  unfold k_manyOf at h ⊢
  split at h
  · exact ⟨h.1, ct_manyOf_m hQ h.2⟩
  · exact h.elim
def rq_nameOf (b : Int) (k : Int) (i : Int) (st : zS) : Prop := (0 ≤ b ∧ b ≤ 1 ∧ 0 ≤ i ∧ i < 8)
def ct_nameOf (b : Int) (k : Int) (i : Int) (st : zS) (Q : zQ) : Prop := rq_nameOf b k i st ∧ (∀ (r : Int), Q (some (.inr (.inl r))) st)
theorem ct_nameOf_m {b k i : Int} {st : zS} {Q Q' : zQ} (hQ : ∀ r st', Q r st' → Q' r st') (h : ct_nameOf b k i st Q) : ct_nameOf b k i st Q' := ⟨h.1, fun x0 => hQ _ _ (h.2 x0)⟩
def k_nameOf : zCall := fun _ as st Q => match as with
  | [.inr (.inr (.inl z_o)), .inl b, .inl k, .inl i] => z_o = 170 ∧ ct_nameOf b k i st Q
  | _ => False
theorem k_nameOf_mon : zmon k_nameOf := by
  intro nu as st Q Q' hQ h
  unfold k_nameOf at h ⊢
  split at h
  · exact ⟨h.1, ct_nameOf_m hQ h.2⟩
  · exact h.elim
def rq_named (k : Int) (w : Int) (st : zS) : Prop := gInv zgt st
def en_named (k : Int) (w : Int) (st : zS) (r : Int) : Prop := (-1 ≤ r ∧ r < 8 ∧ (k = 0 → r < st 172 (st 170 35 : Int).toNat))
def ct_named (k : Int) (w : Int) (st : zS) (Q : zQ) : Prop := rq_named k w st ∧ (∀ (r : Int), en_named k w st r → Q (some (.inl r)) st)
theorem ct_named_m {k w : Int} {st : zS} {Q Q' : zQ} (hQ : ∀ r st', Q r st' → Q' r st') (h : ct_named k w st Q) : ct_named k w st Q' := ⟨h.1, fun x0 x1 => hQ _ _ (h.2 x0 x1)⟩
def k_named : zCall := fun _ as st Q => match as with
  | [.inr (.inr (.inl z_o)), .inl k, .inr (.inl w)] => z_o = 170 ∧ ct_named k w st Q
  | _ => False
theorem k_named_mon : zmon k_named := by
  intro nu as st Q Q' hQ h
  unfold k_named at h ⊢
  split at h
  · exact ⟨h.1, ct_named_m hQ h.2⟩
  · exact h.elim
def m_mustI : aM := ([(170, 3), (170, 4), (170, 5), (170, 6), (170, 7), (170, 8), (170, 9), (170, 12)], [])
def rq_mustI (c : Int) (st : zS) : Prop := gInv zgt st ∧ (st 170 4 ≤ st 170 5 ∧ st 170 5 ≤ st 170 2 ∧ (st 170 3 = 0 ∧ st 170 4 = st 170 2 ∨ 1 ≤ st 170 3 ∧ st 170 4 < st 170 5))
def en_mustI (c : Int) (st : zS) (s1 : zS) : Prop := gInv zgt s1 ∧ aFr m_mustI st s1 ∧ (s1 170 4 ≤ s1 170 5 ∧ s1 170 5 ≤ s1 170 2 ∧ (s1 170 3 = 0 ∧ s1 170 4 = s1 170 2 ∨ 1 ≤ s1 170 3 ∧ s1 170 4 < s1 170 5) ∧ st 170 4 ≤ s1 170 4 ∧ (s1 170 8 = 0 → st 170 8 = 0 ∧ st 170 5 ≤ s1 170 4 ∧ 1 ≤ st 170 3))
def ct_mustI (c : Int) (st : zS) (Q : zQ) : Prop := rq_mustI c st ∧ (∀ (s1 : zS), en_mustI c st s1 → Q none s1)
theorem ct_mustI_m {c : Int} {st : zS} {Q Q' : zQ} (hQ : ∀ r st', Q r st' → Q' r st') (h : ct_mustI c st Q) : ct_mustI c st Q' := ⟨h.1, fun x0 x1 => hQ _ _ (h.2 x0 x1)⟩
def k_mustI : zCall := fun _ as st Q => match as with
  | [.inr (.inr (.inl z_o)), .inl c] => z_o = 170 ∧ ct_mustI c st Q
  | _ => False
theorem k_mustI_mon : zmon k_mustI := by
  intro nu as st Q Q' hQ h
  unfold k_mustI at h ⊢
  split at h
  · exact ⟨h.1, ct_mustI_m hQ h.2⟩
  · exact h.elim
def m_mustJ : aM := ([(170, 3), (170, 4), (170, 5), (170, 6), (170, 7), (170, 8), (170, 9), (170, 12)], [])
def rq_mustJ (w : Int) (st : zS) : Prop := gInv zgt st ∧ (st 170 4 ≤ st 170 5 ∧ st 170 5 ≤ st 170 2 ∧ (st 170 3 = 0 ∧ st 170 4 = st 170 2 ∨ 1 ≤ st 170 3 ∧ st 170 4 < st 170 5))
def en_mustJ (w : Int) (st : zS) (s1 : zS) : Prop := gInv zgt s1 ∧ aFr m_mustJ st s1 ∧ (s1 170 4 ≤ s1 170 5 ∧ s1 170 5 ≤ s1 170 2 ∧ (s1 170 3 = 0 ∧ s1 170 4 = s1 170 2 ∨ 1 ≤ s1 170 3 ∧ s1 170 4 < s1 170 5) ∧ st 170 4 ≤ s1 170 4 ∧ (s1 170 8 = 0 → st 170 8 = 0 ∧ st 170 5 ≤ s1 170 4 ∧ 1 ≤ st 170 3))
def ct_mustJ (w : Int) (st : zS) (Q : zQ) : Prop := rq_mustJ w st ∧ (∀ (s1 : zS), en_mustJ w st s1 → Q none s1)
theorem ct_mustJ_m {w : Int} {st : zS} {Q Q' : zQ} (hQ : ∀ r st', Q r st' → Q' r st') (h : ct_mustJ w st Q) : ct_mustJ w st Q' := ⟨h.1, fun x0 x1 => hQ _ _ (h.2 x0 x1)⟩
def k_mustJ : zCall := fun _ as st Q => match as with
  | [.inr (.inr (.inl z_o)), .inr (.inl w)] => z_o = 170 ∧ ct_mustJ w st Q
  | _ => False
theorem k_mustJ_mon : zmon k_mustJ := by
  intro nu as st Q Q' hQ h
  unfold k_mustJ at h ⊢
  split at h
  · exact ⟨h.1, ct_mustJ_m hQ h.2⟩
  · exact h.elim
def m_number : aM := ([(170, 3), (170, 4), (170, 5), (170, 6), (170, 7), (170, 8), (170, 9), (170, 12)], [])
def rq_number (a : Int) (b : Int) (st : zS) : Prop := gInv zgt st ∧ (st 170 4 ≤ st 170 5 ∧ st 170 5 ≤ st 170 2 ∧ (st 170 3 = 0 ∧ st 170 4 = st 170 2 ∨ 1 ≤ st 170 3 ∧ st 170 4 < st 170 5))
def en_number (a : Int) (b : Int) (st : zS) (r : Int) (s1 : zS) : Prop := gInv zgt s1 ∧ aFr m_number st s1 ∧ (s1 170 4 ≤ s1 170 5 ∧ s1 170 5 ≤ s1 170 2 ∧ (s1 170 3 = 0 ∧ s1 170 4 = s1 170 2 ∨ 1 ≤ s1 170 3 ∧ s1 170 4 < s1 170 5) ∧ st 170 4 ≤ s1 170 4 ∧ (s1 170 8 = 0 → st 170 8 = 0 ∧ st 170 5 ≤ s1 170 4 ∧ 1 ≤ st 170 3)) ∧ (-2147483648 ≤ r ∧ r ≤ 2147483647 ∧ (s1 170 8 = 0 → a ≤ r ∧ r ≤ b))
def ct_number (a : Int) (b : Int) (st : zS) (Q : zQ) : Prop := rq_number a b st ∧ (∀ (r : Int) (s1 : zS), en_number a b st r s1 → Q (some (.inl r)) s1)
theorem ct_number_m {a b : Int} {st : zS} {Q Q' : zQ} (hQ : ∀ r st', Q r st' → Q' r st') (h : ct_number a b st Q) : ct_number a b st Q' := ⟨h.1, fun x0 x1 x2 => hQ _ _ (h.2 x0 x1 x2)⟩
def k_number : zCall := fun _ as st Q => match as with
  | [.inr (.inr (.inl z_o)), .inl a, .inl b] => z_o = 170 ∧ ct_number a b st Q
  | _ => False
theorem k_number_mon : zmon k_number := by
  intro nu as st Q Q' hQ h
  unfold k_number at h ⊢
  split at h
  · exact ⟨h.1, ct_number_m hQ h.2⟩
  · exact h.elim
def m_counts : aM := ([(170, 3), (170, 4), (170, 5), (170, 6), (170, 7), (170, 8), (170, 9), (170, 12)], [])
def rq_counts (f : Int) (st : zS) : Prop := gInv zgt st ∧ (st 170 4 ≤ st 170 5 ∧ st 170 5 ≤ st 170 2 ∧ (st 170 3 = 0 ∧ st 170 4 = st 170 2 ∨ 1 ≤ st 170 3 ∧ st 170 4 < st 170 5))
def en_counts (f : Int) (st : zS) (r : Int) (s1 : zS) : Prop := gInv zgt s1 ∧ aFr m_counts st s1 ∧ (s1 170 4 ≤ s1 170 5 ∧ s1 170 5 ≤ s1 170 2 ∧ (s1 170 3 = 0 ∧ s1 170 4 = s1 170 2 ∨ 1 ≤ s1 170 3 ∧ s1 170 4 < s1 170 5) ∧ st 170 4 ≤ s1 170 4 ∧ (s1 170 8 = 0 → st 170 8 = 0 ∧ st 170 5 ≤ s1 170 4 ∧ f = 0)) ∧ ((r = 0 ∨ r = 1) ∧ (r = 1 ↔ s1 170 8 = 0))
def ct_counts (f : Int) (st : zS) (Q : zQ) : Prop := rq_counts f st ∧ (∀ (r : Int) (s1 : zS), en_counts f st r s1 → Q (some (.inl r)) s1)
theorem ct_counts_m {f : Int} {st : zS} {Q Q' : zQ} (hQ : ∀ r st', Q r st' → Q' r st') (h : ct_counts f st Q) : ct_counts f st Q' := ⟨h.1, fun x0 x1 x2 => hQ _ _ (h.2 x0 x1 x2)⟩
def k_counts : zCall := fun _ as st Q => match as with
  | [.inr (.inr (.inl z_o)), .inl f] => z_o = 170 ∧ ct_counts f st Q
  | _ => False
theorem k_counts_mon : zmon k_counts := by
  intro nu as st Q Q' hQ h
  unfold k_counts at h ⊢
  split at h
  · exact ⟨h.1, ct_counts_m hQ h.2⟩
  · exact h.elim
def m_fresh : aM := ([(170, 3), (170, 4), (170, 5), (170, 6), (170, 7), (170, 8), (170, 9), (170, 12)], [])
def rq_fresh  (st : zS) : Prop := gInv zgt st ∧ (st 170 4 ≤ st 170 5 ∧ st 170 5 ≤ st 170 2 ∧ (st 170 3 = 0 ∧ st 170 4 = st 170 2 ∨ 1 ≤ st 170 3 ∧ st 170 4 < st 170 5))
def en_fresh  (st : zS) (r : Int) (s1 : zS) : Prop := gInv zgt s1 ∧ aFr m_fresh st s1 ∧ (s1 170 4 ≤ s1 170 5 ∧ s1 170 5 ≤ s1 170 2 ∧ (s1 170 3 = 0 ∧ s1 170 4 = s1 170 2 ∨ 1 ≤ s1 170 3 ∧ s1 170 4 < s1 170 5) ∧ st 170 4 ≤ s1 170 4 ∧ (s1 170 8 = 0 → st 170 8 = 0 ∧ st 170 5 ≤ s1 170 4 ∧ 1 ≤ st 170 3)) ∧ (-9223372036854775808 ≤ r ∧ r ≤ 9223372036854775807)
def ct_fresh  (st : zS) (Q : zQ) : Prop := rq_fresh  st ∧ (∀ (r : Int) (s1 : zS), en_fresh  st r s1 → Q (some (.inr (.inl r))) s1)
theorem ct_fresh_m {st : zS} {Q Q' : zQ} (hQ : ∀ r st', Q r st' → Q' r st') (h : ct_fresh  st Q) : ct_fresh  st Q' := ⟨h.1, fun x0 x1 x2 => hQ _ _ (h.2 x0 x1 x2)⟩
def k_fresh : zCall := fun _ as st Q => match as with
  | [.inr (.inr (.inl z_o))] => z_o = 170 ∧ ct_fresh  st Q
  | _ => False
theorem k_fresh_mon : zmon k_fresh := by
  intro nu as st Q Q' hQ h
  unfold k_fresh at h ⊢
  split at h
  · exact ⟨h.1, ct_fresh_m hQ h.2⟩
  · exact h.elim
def m_knownBut : aM := ([(170, 3), (170, 4), (170, 5), (170, 6), (170, 7), (170, 8), (170, 9), (170, 12)], [])
def rq_knownBut (u : Int) (st : zS) : Prop := gInv zgt st ∧ (st 170 4 ≤ st 170 5 ∧ st 170 5 ≤ st 170 2 ∧ (st 170 3 = 0 ∧ st 170 4 = st 170 2 ∨ 1 ≤ st 170 3 ∧ st 170 4 < st 170 5))
def en_knownBut (u : Int) (st : zS) (r : Int) (s1 : zS) : Prop := gInv zgt s1 ∧ aFr m_knownBut st s1 ∧ (s1 170 4 ≤ s1 170 5 ∧ s1 170 5 ≤ s1 170 2 ∧ (s1 170 3 = 0 ∧ s1 170 4 = s1 170 2 ∨ 1 ≤ s1 170 3 ∧ s1 170 4 < s1 170 5) ∧ st 170 4 ≤ s1 170 4 ∧ (s1 170 8 = 0 → st 170 8 = 0 ∧ st 170 5 ≤ s1 170 4 ∧ 1 ≤ st 170 3)) ∧ (0 ≤ r ∧ r ≤ 7 ∧ (s1 170 8 = 0 → r < s1 172 (s1 170 35 : Int).toNat ∧ hb u r = 0))
def ct_knownBut (u : Int) (st : zS) (Q : zQ) : Prop := rq_knownBut u st ∧ (∀ (r : Int) (s1 : zS), en_knownBut u st r s1 → Q (some (.inl r)) s1)
theorem ct_knownBut_m {u : Int} {st : zS} {Q Q' : zQ} (hQ : ∀ r st', Q r st' → Q' r st') (h : ct_knownBut u st Q) : ct_knownBut u st Q' := ⟨h.1, fun x0 x1 x2 => hQ _ _ (h.2 x0 x1 x2)⟩
def k_knownBut : zCall := fun _ as st Q => match as with
  | [.inr (.inr (.inl z_o)), .inl u] => z_o = 170 ∧ ct_knownBut u st Q
  | _ => False
theorem k_knownBut_mon : zmon k_knownBut := by
  intro nu as st Q Q' hQ h
  unfold k_knownBut at h ⊢
  split at h
  · exact ⟨h.1, ct_knownBut_m hQ h.2⟩
  · exact h.elim
section R65
variable {cl : Nat → zCall}
set_option maxRecDepth 100000 in
theorem c_ahead (hTb : aTb zSh rx_tb cl) {D : Nat} (hD : 2 ≤ D) {st : zS} {Q : zQ} (h : ct_ahead  st Q) : cl D 149 [.inr (.inr (.inl 170))] st Q := by
  obtain ⟨d, rfl⟩ : ∃ d, D = d + 1 := ⟨D - 1, by omega⟩
  refine hTb d 149 (rx_m149, 6, 0, 0, 0) rfl _ _ _ (Nat.le_of_ble_eq_true rfl) (fun K hcl hsf hsl => ?_)
  have hcm : zmo (wcL [(179, k_isLetter), (180, k_isDigit)]) (cl d) := (wcL_m (wm_cons (k_isLetter_m hTb (by omega)) (wm_cons (k_isDigit_m hTb (by omega)) wm_nil)))
  obtain ⟨hR, hQ⟩ := h
  obtain ⟨hG, le⟩ := hR
  change st 170 5 ≤ st 170 2 at le
  have lb : ∀ (u : Nat) (ax : Int) (le : Int) (di : Int) (mo : Int) (n : Int) (s_lb : zS), gInv zgt s_lb ∧ aFr m_ahead st s_lb ∧ (st 170 5 ≤ s_lb 170 4 ∧ n = ax - s_lb 170 4 ∧ 0 ≤ n ∧ ax ≤ st 170 2 ∧ 1 ≤ s_lb 170 3 ∧ ((le = 1 ∧ 1 ≤ n) ∨ (le = 0 ∧ 1 ≤ n) ∨ (n = 0 ∧ (le = 0 ∨ le = 1) ∧ ax < st 170 2 ∧ (le = 1 → 97 ≤ st 171 (ax : Int).toNat ∧ st 171 (ax : Int).toNat ≤ 122) ∧ (le = 0 → 48 ≤ st 171 (ax : Int).toNat ∧ st 171 (ax : Int).toNat ≤ 57)))) → (st 170 2 - ax).toNat = u → K (rx_find rx_m149 204) [(0, .inr (.inr (.inl 170))), (1, .inl ax), (2, .inl le), (3, .inl di), (4, .inl mo), (5, .inl n)] [] s_lb := by
    intro u
    induction u using Nat.strongRecOn with
    | _ u ih =>
      intro ax le di mo n s_lb hi hu
      obtain ⟨gI_lb, fI_lb, b_lb⟩ := hi
      have g1 := g_signEnd hG
      have g2 := g_signAt gI_lb
      have g3 := g_size hG
      have g4 := g_sign gI_lb
      have g5 := g_tape hG (ax : Int).toNat
      have m325 : ∀ (s_m325 : zS), gInv zgt s_m325 ∧ aFr m_ahead st s_m325 ∧ (st 170 5 ≤ s_m325 170 4 ∧ n = ax - s_m325 170 4 ∧ 0 ≤ n ∧ ax ≤ st 170 2 ∧ 1 ≤ s_m325 170 3 ∧ ax < st 170 2) → K (rx_find rx_m149 325) [(0, .inr (.inr (.inl 170))), (1, .inl ax), (2, .inl le), (3, .inl di), (4, .inl mo), (5, .inl n)] [] s_m325 := by
        intro  s_m325 hi
        obtain ⟨gI_m325, fI_m325, b_m325⟩ := hi
        have g6 := g_signEnd hG
        have g7 := g_signAt gI_m325
        have g8 := g_size hG
        have g9 := g_sign gI_m325
        refine yr1_ok (Rt := Q) (wc := (wcL [(179, k_isLetter), (180, k_isDigit)])) (stp := [204, 325]) hcm hcl [311, 318, 321] 206 ?_
        show ((-2147483648 ≤ n + 1 ∧ n + 1 ≤ 2147483647) ∧ ((-2147483648 ≤ ax + 1 ∧ ax + 1 ≤ 2147483647) ∧ K (rx_find rx_m149 204) [(1, .inl (ax + 1)), (5, .inl (n + 1)), (0, .inr (.inr (.inl 170))), (2, .inl le), (3, .inl di), (4, .inl mo)] [] s_m325))
        refine ⟨by omega, ?_⟩
        refine ⟨by omega, ?_⟩
        have g10 := g_tape hG ((ax + 1) : Int).toNat
        exact hsl _ _ _ _ _ (sb_cons (.tail _ (.tail _ (.head _))) (sb_cons (.head _) (sb_cons (.tail _ (.tail _ (.tail _ (.head _)))) (sb_cons (.tail _ (.tail _ (.tail _ (.tail _ (.head _))))) (sb_cons (.tail _ (.tail _ (.tail _ (.tail _ (.tail _ (.head _)))))) (sb_cons (.tail _ (.head _)) sb_nil)))))) (ih _ (by omega) (ax + 1) le di mo (n + 1) s_m325 ⟨gI_m325, fI_m325, (show st 170 5 ≤ s_m325 170 4 ∧ (n + 1) = (ax + 1) - s_m325 170 4 ∧ 0 ≤ (n + 1) ∧ (ax + 1) ≤ st 170 2 ∧ 1 ≤ s_m325 170 3 ∧ ((le = 1 ∧ 1 ≤ (n + 1)) ∨ (le = 0 ∧ 1 ≤ (n + 1)) ∨ ((n + 1) = 0 ∧ (le = 0 ∨ le = 1) ∧ (ax + 1) < st 170 2 ∧ (le = 1 → 97 ≤ st 171 ((ax + 1) : Int).toNat ∧ st 171 ((ax + 1) : Int).toNat ≤ 122) ∧ (le = 0 → 48 ≤ st 171 ((ax + 1) : Int).toNat ∧ st 171 ((ax + 1) : Int).toNat ≤ 57))) from by omega)⟩ rfl)
      have m293 : ∀ (s_m293 : zS), gInv zgt s_m293 ∧ aFr m_ahead st s_m293 ∧ (st 170 5 ≤ s_m293 170 4 ∧ n = ax - s_m293 170 4 ∧ 0 ≤ n ∧ ax ≤ st 170 2 ∧ 1 ≤ s_m293 170 3 ∧ ax < st 170 2) → K (rx_find rx_m149 293) [(0, .inr (.inr (.inl 170))), (1, .inl ax), (2, .inl le), (3, .inl di), (4, .inl mo), (5, .inl n)] [] s_m293 := by
        intro  s_m293 hi
        obtain ⟨gI_m293, fI_m293, b_m293⟩ := hi
        have g11 := g_signEnd hG
        have g12 := g_signAt gI_m293
        have g13 := g_size hG
        have g14 := g_sign gI_m293
        refine yr1_ok (Rt := Q) (wc := (wcL [(179, k_isLetter), (180, k_isDigit)])) (stp := [204, 293, 325]) hcm hcl [311, 318, 321] 206 ?_
        show ((mo ≤ n → K (rx_find rx_m149 325) [(0, .inr (.inr (.inl 170))), (1, .inl ax), (2, .inl le), (3, .inl di), (4, .inl mo), (5, .inl n)] [] s_m293) ∧ (¬ (mo ≤ n) → ((di = (0 : Int) → K (rx_find rx_m149 325) [(0, .inr (.inr (.inl 170))), (1, .inl ax), (2, .inl le), (3, .inl di), (4, .inl mo), (5, .inl n)] [] s_m293) ∧ (¬ (di = (0 : Int)) → ((0 ≤ ax ∧ ax < 1800) ∧ K (rx_find rx_m149 325) [(0, .inr (.inr (.inl 170))), (1, .inl ax), (2, .inl le), (3, .inl di), (4, .inl mo), (5, .inl n)] [] (zup s_m293 170 6 (zw ((zw ((zw ((10 : Int) * (s_m293 170 6))) + (s_m293 171 (ax : Int).toNat))) - 48))))))))
        refine ⟨fun h15 => ?_, fun h15 => ?_⟩
        · exact m325 s_m293 ⟨gI_m293, fI_m293, (show st 170 5 ≤ s_m293 170 4 ∧ n = ax - s_m293 170 4 ∧ 0 ≤ n ∧ ax ≤ st 170 2 ∧ 1 ≤ s_m293 170 3 ∧ ax < st 170 2 from by omega)⟩
        · refine ⟨fun h16 => ?_, fun h16 => ?_⟩
          · exact m325 s_m293 ⟨gI_m293, fI_m293, (show st 170 5 ≤ s_m293 170 4 ∧ n = ax - s_m293 170 4 ∧ 0 ≤ n ∧ ax ≤ st 170 2 ∧ 1 ≤ s_m293 170 3 ∧ ax < st 170 2 from by omega)⟩
          · have g17 := g_value gI_m293
            have g19 := g_tape hG (ax : Int).toNat
            have e18 : s_m293 171 (ax : Int).toNat = st 171 (ax : Int).toNat := fI_m293 171 (ax : Int).toNat rfl rfl
            refine ⟨by omega, ?_⟩
            exact m325 (zup s_m293 170 6 (zw ((zw ((zw ((10 : Int) * (s_m293 170 6))) + (s_m293 171 (ax : Int).toNat))) - 48))) ⟨(gInv_up gI_m293 (p_value (zw_ok _))), (fr_f fI_m293 rfl), (show st 170 5 ≤ s_m293 170 4 ∧ n = ax - s_m293 170 4 ∧ 0 ≤ n ∧ ax ≤ st 170 2 ∧ 1 ≤ s_m293 170 3 ∧ ax < st 170 2 from by omega)⟩
      have m263 : ∀ (s_m263 : zS), gInv zgt s_m263 ∧ aFr m_ahead st s_m263 ∧ (st 170 5 ≤ s_m263 170 4 ∧ n = ax - s_m263 170 4 ∧ 0 ≤ n ∧ ax ≤ st 170 2 ∧ 1 ≤ s_m263 170 3 ∧ ax < st 170 2) → K (rx_find rx_m149 263) [(0, .inr (.inr (.inl 170))), (1, .inl ax), (2, .inl le), (3, .inl di), (4, .inl mo), (5, .inl n)] [] s_m263 := by
        intro  s_m263 hi
        obtain ⟨gI_m263, fI_m263, b_m263⟩ := hi
        have g20 := g_signEnd hG
        have g21 := g_signAt gI_m263
        have g22 := g_size hG
        have g23 := g_sign gI_m263
        refine yr1_ok (Rt := Q) (wc := (wcL [(179, k_isLetter), (180, k_isDigit)])) (stp := [204, 263, 293, 325]) hcm hcl [311, 318, 321] 206 ?_
        show ((mo ≤ n → K (rx_find rx_m149 293) [(0, .inr (.inr (.inl 170))), (1, .inl ax), (2, .inl le), (3, .inl di), (4, .inl mo), (5, .inl n)] [] s_m263) ∧ (¬ (mo ≤ n) → ((le = (0 : Int) → K (rx_find rx_m149 293) [(0, .inr (.inr (.inl 170))), (1, .inl ax), (2, .inl le), (3, .inl di), (4, .inl mo), (5, .inl n)] [] s_m263) ∧ (¬ (le = (0 : Int)) → ((0 ≤ ax ∧ ax < 1800) ∧ K (rx_find rx_m149 293) [(0, .inr (.inr (.inl 170))), (1, .inl ax), (2, .inl le), (3, .inl di), (4, .inl mo), (5, .inl n)] [] (zup s_m263 170 7 (ze (Nat.lor (zl (ze ((zl (s_m263 170 7) * 2 ^ (zi 8 % 64)) % 18446744073709551616))) (zl (s_m263 171 (ax : Int).toNat))))))))))
        refine ⟨fun h24 => ?_, fun h24 => ?_⟩
        · exact m293 s_m263 ⟨gI_m263, fI_m263, (show st 170 5 ≤ s_m263 170 4 ∧ n = ax - s_m263 170 4 ∧ 0 ≤ n ∧ ax ≤ st 170 2 ∧ 1 ≤ s_m263 170 3 ∧ ax < st 170 2 from by omega)⟩
        · refine ⟨fun h25 => ?_, fun h25 => ?_⟩
          · exact m293 s_m263 ⟨gI_m263, fI_m263, (show st 170 5 ≤ s_m263 170 4 ∧ n = ax - s_m263 170 4 ∧ 0 ≤ n ∧ ax ≤ st 170 2 ∧ 1 ≤ s_m263 170 3 ∧ ax < st 170 2 from by omega)⟩
          · have g26 := g_word gI_m263
            have g28 := g_tape hG (ax : Int).toNat
            have e27 : s_m263 171 (ax : Int).toNat = st 171 (ax : Int).toNat := fI_m263 171 (ax : Int).toNat rfl rfl
            refine ⟨by omega, ?_⟩
            exact m293 (zup s_m263 170 7 (ze (Nat.lor (zl (ze ((zl (s_m263 170 7) * 2 ^ (zi 8 % 64)) % 18446744073709551616))) (zl (s_m263 171 (ax : Int).toNat))))) ⟨(gInv_up gI_m263 (p_word (zlor_ok _ _))), (fr_f fI_m263 rfl), (show st 170 5 ≤ s_m263 170 4 ∧ n = ax - s_m263 170 4 ∧ 0 ≤ n ∧ ax ≤ st 170 2 ∧ 1 ≤ s_m263 170 3 ∧ ax < st 170 2 from by omega)⟩
      have m243 : ∀ (s_m243 : zS), gInv zgt s_m243 ∧ aFr m_ahead st s_m243 ∧ (st 170 5 ≤ s_m243 170 4 ∧ n = ax - s_m243 170 4 ∧ 0 ≤ n ∧ ax ≤ st 170 2 ∧ 1 ≤ s_m243 170 3 ∧ ax < st 170 2) → K (rx_find rx_m149 243) [(0, .inr (.inr (.inl 170))), (1, .inl ax), (2, .inl le), (3, .inl di), (4, .inl mo), (5, .inl n)] [] s_m243 := by
        intro  s_m243 hi
        obtain ⟨gI_m243, fI_m243, b_m243⟩ := hi
        have g29 := g_signEnd hG
        have g30 := g_signAt gI_m243
        have g31 := g_size hG
        have g32 := g_sign gI_m243
        refine yr1_ok (Rt := Q) (wc := (wcL [(179, k_isLetter), (180, k_isDigit)])) (stp := [204, 243, 263, 293, 325]) hcm hcl [311, 318, 321] 206 ?_
        show ((¬ n = mo → K (rx_find rx_m149 263) [(0, .inr (.inr (.inl 170))), (1, .inl ax), (2, .inl le), (3, .inl di), (4, .inl mo), (5, .inl n)] [] s_m243) ∧ (¬ (¬ n = mo) → ((¬ s_m243 170 12 = ((-1) : Int) → K (rx_find rx_m149 263) [(0, .inr (.inr (.inl 170))), (1, .inl ax), (2, .inl le), (3, .inl di), (4, .inl mo), (5, .inl n)] [] s_m243) ∧ (¬ (¬ s_m243 170 12 = ((-1) : Int)) → K (rx_find rx_m149 263) [(0, .inr (.inr (.inl 170))), (1, .inl ax), (2, .inl le), (3, .inl di), (4, .inl mo), (5, .inl n)] [] (zup s_m243 170 12 ax)))))
        refine ⟨fun h33 => ?_, fun h33 => ?_⟩
        · exact m263 s_m243 ⟨gI_m243, fI_m243, (show st 170 5 ≤ s_m243 170 4 ∧ n = ax - s_m243 170 4 ∧ 0 ≤ n ∧ ax ≤ st 170 2 ∧ 1 ≤ s_m243 170 3 ∧ ax < st 170 2 from by omega)⟩
        · have g34 := g_lexAt gI_m243
          refine ⟨fun h35 => ?_, fun h35 => ?_⟩
          · exact m263 s_m243 ⟨gI_m243, fI_m243, (show st 170 5 ≤ s_m243 170 4 ∧ n = ax - s_m243 170 4 ∧ 0 ≤ n ∧ ax ≤ st 170 2 ∧ 1 ≤ s_m243 170 3 ∧ ax < st 170 2 from by omega)⟩
          · exact m263 (zup s_m243 170 12 ax) ⟨(gInv_up gI_m243 (p_lexAt (by omega))), (fr_f fI_m243 rfl), (show st 170 5 ≤ s_m243 170 4 ∧ n = ax - s_m243 170 4 ∧ 0 ≤ n ∧ ax ≤ st 170 2 ∧ 1 ≤ s_m243 170 3 ∧ ax < st 170 2 from by omega)⟩
      refine yr1_ok (Rt := Q) (wc := (wcL [(179, k_isLetter), (180, k_isDigit)])) (stp := [204, 243, 263, 293, 325]) hcm hcl [311, 318, 321] 206 ?_
      show ((s_lb 170 2 ≤ ax → Q none (zup s_lb 170 5 ax)) ∧ (¬ (s_lb 170 2 ≤ ax) → ((le = (0 : Int) → ((0 ≤ ax ∧ ax < 1800) ∧ (∀ (r36 : Int), en_isDigit (s_lb 171 (ax : Int).toNat) s_lb r36 → ((r36 = (0 : Int) → Q none (zup s_lb 170 5 ax)) ∧ (¬ (r36 = (0 : Int)) → K (rx_find rx_m149 243) [(0, .inr (.inr (.inl 170))), (1, .inl ax), (2, .inl le), (3, .inl di), (4, .inl mo), (5, .inl n)] [] s_lb))))) ∧ (¬ (le = (0 : Int)) → ((0 ≤ ax ∧ ax < 1800) ∧ (∀ (r37 : Int), en_isLetter (s_lb 171 (ax : Int).toNat) s_lb r37 → ((r37 = (0 : Int) → Q none (zup s_lb 170 5 ax)) ∧ (¬ (r37 = (0 : Int)) → K (rx_find rx_m149 243) [(0, .inr (.inr (.inl 170))), (1, .inl ax), (2, .inl le), (3, .inl di), (4, .inl mo), (5, .inl n)] [] s_lb))))))))
      have e38 : s_lb 170 2 = st 170 2 := fI_lb 170 2 rfl rfl
      refine ⟨fun h39 => ?_, fun h39 => ?_⟩
      · exact hQ _ ⟨(gInv_up gI_lb (p_signEnd (by omega))), (fr_f fI_lb rfl), (show s_lb 170 4 ≤ ax ∧ ax ≤ s_lb 170 2 ∧ (s_lb 170 3 = 0 ∧ s_lb 170 4 = s_lb 170 2 ∨ 1 ≤ s_lb 170 3 ∧ s_lb 170 4 < ax) ∧ st 170 5 ≤ s_lb 170 4 from by omega)⟩
      · refine ⟨fun h40 => ?_, fun h40 => ?_⟩
        · have e41 : s_lb 171 (ax : Int).toNat = st 171 (ax : Int).toNat := fI_lb 171 (ax : Int).toNat rfl rfl
          refine ⟨by omega, ?_⟩
          refine fun r36 q36 => ?_
          have b36 := q36
          change (r36 = 0 ∨ r36 = 1) ∧ (r36 = 1 ↔ 48 ≤ (s_lb 171 (ax : Int).toNat) ∧ (s_lb 171 (ax : Int).toNat) ≤ 57) at b36
          refine ⟨fun h42 => ?_, fun h42 => ?_⟩
          · exact hQ _ ⟨(gInv_up gI_lb (p_signEnd (by omega))), (fr_f fI_lb rfl), (show s_lb 170 4 ≤ ax ∧ ax ≤ s_lb 170 2 ∧ (s_lb 170 3 = 0 ∧ s_lb 170 4 = s_lb 170 2 ∨ 1 ≤ s_lb 170 3 ∧ s_lb 170 4 < ax) ∧ st 170 5 ≤ s_lb 170 4 from by omega)⟩
          · exact m243 s_lb ⟨gI_lb, fI_lb, (show st 170 5 ≤ s_lb 170 4 ∧ n = ax - s_lb 170 4 ∧ 0 ≤ n ∧ ax ≤ st 170 2 ∧ 1 ≤ s_lb 170 3 ∧ ax < st 170 2 from by omega)⟩
        · have e43 : s_lb 171 (ax : Int).toNat = st 171 (ax : Int).toNat := fI_lb 171 (ax : Int).toNat rfl rfl
          refine ⟨by omega, ?_⟩
          refine fun r37 q37 => ?_
          have b37 := q37
          change (r37 = 0 ∨ r37 = 1) ∧ (r37 = 1 ↔ 97 ≤ (s_lb 171 (ax : Int).toNat) ∧ (s_lb 171 (ax : Int).toNat) ≤ 122) at b37
          refine ⟨fun h44 => ?_, fun h44 => ?_⟩
          · exact hQ _ ⟨(gInv_up gI_lb (p_signEnd (by omega))), (fr_f fI_lb rfl), (show s_lb 170 4 ≤ ax ∧ ax ≤ s_lb 170 2 ∧ (s_lb 170 3 = 0 ∧ s_lb 170 4 = s_lb 170 2 ∨ 1 ≤ s_lb 170 3 ∧ s_lb 170 4 < ax) ∧ st 170 5 ≤ s_lb 170 4 from by omega)⟩
          · exact m243 s_lb ⟨gI_lb, fI_lb, (show st 170 5 ≤ s_lb 170 4 ∧ n = ax - s_lb 170 4 ∧ 0 ≤ n ∧ ax ≤ st 170 2 ∧ 1 ≤ s_lb 170 3 ∧ ax < st 170 2 from by omega)⟩
  have m135 : ∀ (ax : Int) (le : Int) (di : Int) (s_m135 : zS), gInv zgt s_m135 ∧ aFr m_ahead st s_m135 ∧ (st 170 5 ≤ ax ∧ ax < st 170 2 ∧ s_m135 170 4 = ax ∧ (le = 0 ∨ le = 1) ∧ (di = 0 ∨ di = 1) ∧ (le = 1 ↔ 97 ≤ st 171 (ax : Int).toNat ∧ st 171 (ax : Int).toNat ≤ 122) ∧ (di = 1 ↔ 48 ≤ st 171 (ax : Int).toNat ∧ st 171 (ax : Int).toNat ≤ 57)) → K (rx_find rx_m149 135) [(0, .inr (.inr (.inl 170))), (1, .inl ax), (2, .inl le), (3, .inl di)] [] s_m135 := by
    intro ax le di s_m135 hi
    obtain ⟨gI_m135, fI_m135, b_m135⟩ := hi
    have g45 := g_signEnd hG
    have g46 := g_size hG
    have g47 := g_signAt gI_m135
    have g48 := g_tape hG (ax : Int).toNat
    refine yr1_ok (Rt := Q) (wc := (wcL [(179, k_isLetter), (180, k_isDigit)])) (stp := [135, 204, 243, 263, 293, 325]) hcm hcl [311, 318, 321] 206 ?_
    show ((-2147483648 ≤ ax + 1 ∧ ax + 1 ≤ 2147483647) ∧ ((¬ le = (0 : Int) → ((le = (0 : Int) → ((le = (0 : Int) → K (rx_find rx_m149 204) [(5, .inl 0), (4, .inl 4), (0, .inr (.inr (.inl 170))), (1, .inl ax), (2, .inl le), (3, .inl di)] [] (zup (zup (zup (zup (zup s_m135 170 6 0) 170 7 0) 170 3 3) 170 5 (ax + 1)) 170 3 2)) ∧ (¬ (le = (0 : Int)) → K (rx_find rx_m149 204) [(5, .inl 0), (4, .inl 6), (0, .inr (.inr (.inl 170))), (1, .inl ax), (2, .inl le), (3, .inl di)] [] (zup (zup (zup (zup (zup s_m135 170 6 0) 170 7 0) 170 3 3) 170 5 (ax + 1)) 170 3 2)))) ∧ (¬ (le = (0 : Int)) → ((le = (0 : Int) → K (rx_find rx_m149 204) [(5, .inl 0), (4, .inl 4), (0, .inr (.inr (.inl 170))), (1, .inl ax), (2, .inl le), (3, .inl di)] [] (zup (zup (zup (zup (zup s_m135 170 6 0) 170 7 0) 170 3 3) 170 5 (ax + 1)) 170 3 1)) ∧ (¬ (le = (0 : Int)) → K (rx_find rx_m149 204) [(5, .inl 0), (4, .inl 6), (0, .inr (.inr (.inl 170))), (1, .inl ax), (2, .inl le), (3, .inl di)] [] (zup (zup (zup (zup (zup s_m135 170 6 0) 170 7 0) 170 3 3) 170 5 (ax + 1)) 170 3 1)))))) ∧ (¬ (¬ le = (0 : Int)) → ((¬ di = (0 : Int) → ((le = (0 : Int) → ((le = (0 : Int) → K (rx_find rx_m149 204) [(5, .inl 0), (4, .inl 4), (0, .inr (.inr (.inl 170))), (1, .inl ax), (2, .inl le), (3, .inl di)] [] (zup (zup (zup (zup (zup s_m135 170 6 0) 170 7 0) 170 3 3) 170 5 (ax + 1)) 170 3 2)) ∧ (¬ (le = (0 : Int)) → K (rx_find rx_m149 204) [(5, .inl 0), (4, .inl 6), (0, .inr (.inr (.inl 170))), (1, .inl ax), (2, .inl le), (3, .inl di)] [] (zup (zup (zup (zup (zup s_m135 170 6 0) 170 7 0) 170 3 3) 170 5 (ax + 1)) 170 3 2)))) ∧ (¬ (le = (0 : Int)) → ((le = (0 : Int) → K (rx_find rx_m149 204) [(5, .inl 0), (4, .inl 4), (0, .inr (.inr (.inl 170))), (1, .inl ax), (2, .inl le), (3, .inl di)] [] (zup (zup (zup (zup (zup s_m135 170 6 0) 170 7 0) 170 3 3) 170 5 (ax + 1)) 170 3 1)) ∧ (¬ (le = (0 : Int)) → K (rx_find rx_m149 204) [(5, .inl 0), (4, .inl 6), (0, .inr (.inr (.inl 170))), (1, .inl ax), (2, .inl le), (3, .inl di)] [] (zup (zup (zup (zup (zup s_m135 170 6 0) 170 7 0) 170 3 3) 170 5 (ax + 1)) 170 3 1)))))) ∧ (¬ (¬ di = (0 : Int)) → ((0 ≤ ax ∧ ax < 1800) ∧ Q none (zup (zup (zup (zup (zup s_m135 170 6 0) 170 7 0) 170 3 3) 170 5 (ax + 1)) 170 6 (s_m135 171 (ax : Int).toNat))))))))
    refine ⟨by omega, ?_⟩
    refine ⟨fun h49 => ?_, fun h49 => ?_⟩
    · refine ⟨fun h50 => ?_, fun h50 => ?_⟩
      · refine ⟨fun h51 => ?_, fun h51 => ?_⟩
        · exact hsl _ _ _ _ _ (sb_cons (.tail _ (.tail _ (.head _))) (sb_cons (.tail _ (.tail _ (.tail _ (.head _)))) (sb_cons (.tail _ (.tail _ (.tail _ (.tail _ (.head _))))) (sb_cons (.tail _ (.tail _ (.tail _ (.tail _ (.tail _ (.head _)))))) (sb_cons (.tail _ (.head _)) (sb_cons (.head _) sb_nil)))))) (lb _ ax le di 4 0 (zup (zup (zup (zup (zup s_m135 170 6 0) 170 7 0) 170 3 3) 170 5 (ax + 1)) 170 3 2) ⟨(gInv_up (gInv_up (gInv_up (gInv_up (gInv_up gI_m135 (p_value (by omega))) (p_word (by omega))) (p_sign (by omega))) (p_signEnd (by omega))) (p_sign (by omega))), (fr_f (fr_f (fr_f (fr_f (fr_f fI_m135 rfl) rfl) rfl) rfl) rfl), (show st 170 5 ≤ s_m135 170 4 ∧ (0 : Int) = ax - s_m135 170 4 ∧ 0 ≤ (0 : Int) ∧ ax ≤ st 170 2 ∧ 1 ≤ 2 ∧ ((le = 1 ∧ 1 ≤ (0 : Int)) ∨ (le = 0 ∧ 1 ≤ (0 : Int)) ∨ ((0 : Int) = 0 ∧ (le = 0 ∨ le = 1) ∧ ax < st 170 2 ∧ (le = 1 → 97 ≤ st 171 (ax : Int).toNat ∧ st 171 (ax : Int).toNat ≤ 122) ∧ (le = 0 → 48 ≤ st 171 (ax : Int).toNat ∧ st 171 (ax : Int).toNat ≤ 57))) from by omega)⟩ rfl)
        · exact hsl _ _ _ _ _ (sb_cons (.tail _ (.tail _ (.head _))) (sb_cons (.tail _ (.tail _ (.tail _ (.head _)))) (sb_cons (.tail _ (.tail _ (.tail _ (.tail _ (.head _))))) (sb_cons (.tail _ (.tail _ (.tail _ (.tail _ (.tail _ (.head _)))))) (sb_cons (.tail _ (.head _)) (sb_cons (.head _) sb_nil)))))) (lb _ ax le di 6 0 (zup (zup (zup (zup (zup s_m135 170 6 0) 170 7 0) 170 3 3) 170 5 (ax + 1)) 170 3 2) ⟨(gInv_up (gInv_up (gInv_up (gInv_up (gInv_up gI_m135 (p_value (by omega))) (p_word (by omega))) (p_sign (by omega))) (p_signEnd (by omega))) (p_sign (by omega))), (fr_f (fr_f (fr_f (fr_f (fr_f fI_m135 rfl) rfl) rfl) rfl) rfl), (show st 170 5 ≤ s_m135 170 4 ∧ (0 : Int) = ax - s_m135 170 4 ∧ 0 ≤ (0 : Int) ∧ ax ≤ st 170 2 ∧ 1 ≤ 2 ∧ ((le = 1 ∧ 1 ≤ (0 : Int)) ∨ (le = 0 ∧ 1 ≤ (0 : Int)) ∨ ((0 : Int) = 0 ∧ (le = 0 ∨ le = 1) ∧ ax < st 170 2 ∧ (le = 1 → 97 ≤ st 171 (ax : Int).toNat ∧ st 171 (ax : Int).toNat ≤ 122) ∧ (le = 0 → 48 ≤ st 171 (ax : Int).toNat ∧ st 171 (ax : Int).toNat ≤ 57))) from by omega)⟩ rfl)
      · refine ⟨fun h52 => ?_, fun h52 => ?_⟩
        · exact hsl _ _ _ _ _ (sb_cons (.tail _ (.tail _ (.head _))) (sb_cons (.tail _ (.tail _ (.tail _ (.head _)))) (sb_cons (.tail _ (.tail _ (.tail _ (.tail _ (.head _))))) (sb_cons (.tail _ (.tail _ (.tail _ (.tail _ (.tail _ (.head _)))))) (sb_cons (.tail _ (.head _)) (sb_cons (.head _) sb_nil)))))) (lb _ ax le di 4 0 (zup (zup (zup (zup (zup s_m135 170 6 0) 170 7 0) 170 3 3) 170 5 (ax + 1)) 170 3 1) ⟨(gInv_up (gInv_up (gInv_up (gInv_up (gInv_up gI_m135 (p_value (by omega))) (p_word (by omega))) (p_sign (by omega))) (p_signEnd (by omega))) (p_sign (by omega))), (fr_f (fr_f (fr_f (fr_f (fr_f fI_m135 rfl) rfl) rfl) rfl) rfl), (show st 170 5 ≤ s_m135 170 4 ∧ (0 : Int) = ax - s_m135 170 4 ∧ 0 ≤ (0 : Int) ∧ ax ≤ st 170 2 ∧ 1 ≤ 1 ∧ ((le = 1 ∧ 1 ≤ (0 : Int)) ∨ (le = 0 ∧ 1 ≤ (0 : Int)) ∨ ((0 : Int) = 0 ∧ (le = 0 ∨ le = 1) ∧ ax < st 170 2 ∧ (le = 1 → 97 ≤ st 171 (ax : Int).toNat ∧ st 171 (ax : Int).toNat ≤ 122) ∧ (le = 0 → 48 ≤ st 171 (ax : Int).toNat ∧ st 171 (ax : Int).toNat ≤ 57))) from by omega)⟩ rfl)
        · exact hsl _ _ _ _ _ (sb_cons (.tail _ (.tail _ (.head _))) (sb_cons (.tail _ (.tail _ (.tail _ (.head _)))) (sb_cons (.tail _ (.tail _ (.tail _ (.tail _ (.head _))))) (sb_cons (.tail _ (.tail _ (.tail _ (.tail _ (.tail _ (.head _)))))) (sb_cons (.tail _ (.head _)) (sb_cons (.head _) sb_nil)))))) (lb _ ax le di 6 0 (zup (zup (zup (zup (zup s_m135 170 6 0) 170 7 0) 170 3 3) 170 5 (ax + 1)) 170 3 1) ⟨(gInv_up (gInv_up (gInv_up (gInv_up (gInv_up gI_m135 (p_value (by omega))) (p_word (by omega))) (p_sign (by omega))) (p_signEnd (by omega))) (p_sign (by omega))), (fr_f (fr_f (fr_f (fr_f (fr_f fI_m135 rfl) rfl) rfl) rfl) rfl), (show st 170 5 ≤ s_m135 170 4 ∧ (0 : Int) = ax - s_m135 170 4 ∧ 0 ≤ (0 : Int) ∧ ax ≤ st 170 2 ∧ 1 ≤ 1 ∧ ((le = 1 ∧ 1 ≤ (0 : Int)) ∨ (le = 0 ∧ 1 ≤ (0 : Int)) ∨ ((0 : Int) = 0 ∧ (le = 0 ∨ le = 1) ∧ ax < st 170 2 ∧ (le = 1 → 97 ≤ st 171 (ax : Int).toNat ∧ st 171 (ax : Int).toNat ≤ 122) ∧ (le = 0 → 48 ≤ st 171 (ax : Int).toNat ∧ st 171 (ax : Int).toNat ≤ 57))) from by omega)⟩ rfl)
    · refine ⟨fun h53 => ?_, fun h53 => ?_⟩
      · refine ⟨fun h54 => ?_, fun h54 => ?_⟩
        · refine ⟨fun h55 => ?_, fun h55 => ?_⟩
          · exact hsl _ _ _ _ _ (sb_cons (.tail _ (.tail _ (.head _))) (sb_cons (.tail _ (.tail _ (.tail _ (.head _)))) (sb_cons (.tail _ (.tail _ (.tail _ (.tail _ (.head _))))) (sb_cons (.tail _ (.tail _ (.tail _ (.tail _ (.tail _ (.head _)))))) (sb_cons (.tail _ (.head _)) (sb_cons (.head _) sb_nil)))))) (lb _ ax le di 4 0 (zup (zup (zup (zup (zup s_m135 170 6 0) 170 7 0) 170 3 3) 170 5 (ax + 1)) 170 3 2) ⟨(gInv_up (gInv_up (gInv_up (gInv_up (gInv_up gI_m135 (p_value (by omega))) (p_word (by omega))) (p_sign (by omega))) (p_signEnd (by omega))) (p_sign (by omega))), (fr_f (fr_f (fr_f (fr_f (fr_f fI_m135 rfl) rfl) rfl) rfl) rfl), (show st 170 5 ≤ s_m135 170 4 ∧ (0 : Int) = ax - s_m135 170 4 ∧ 0 ≤ (0 : Int) ∧ ax ≤ st 170 2 ∧ 1 ≤ 2 ∧ ((le = 1 ∧ 1 ≤ (0 : Int)) ∨ (le = 0 ∧ 1 ≤ (0 : Int)) ∨ ((0 : Int) = 0 ∧ (le = 0 ∨ le = 1) ∧ ax < st 170 2 ∧ (le = 1 → 97 ≤ st 171 (ax : Int).toNat ∧ st 171 (ax : Int).toNat ≤ 122) ∧ (le = 0 → 48 ≤ st 171 (ax : Int).toNat ∧ st 171 (ax : Int).toNat ≤ 57))) from by omega)⟩ rfl)
          · exact hsl _ _ _ _ _ (sb_cons (.tail _ (.tail _ (.head _))) (sb_cons (.tail _ (.tail _ (.tail _ (.head _)))) (sb_cons (.tail _ (.tail _ (.tail _ (.tail _ (.head _))))) (sb_cons (.tail _ (.tail _ (.tail _ (.tail _ (.tail _ (.head _)))))) (sb_cons (.tail _ (.head _)) (sb_cons (.head _) sb_nil)))))) (lb _ ax le di 6 0 (zup (zup (zup (zup (zup s_m135 170 6 0) 170 7 0) 170 3 3) 170 5 (ax + 1)) 170 3 2) ⟨(gInv_up (gInv_up (gInv_up (gInv_up (gInv_up gI_m135 (p_value (by omega))) (p_word (by omega))) (p_sign (by omega))) (p_signEnd (by omega))) (p_sign (by omega))), (fr_f (fr_f (fr_f (fr_f (fr_f fI_m135 rfl) rfl) rfl) rfl) rfl), (show st 170 5 ≤ s_m135 170 4 ∧ (0 : Int) = ax - s_m135 170 4 ∧ 0 ≤ (0 : Int) ∧ ax ≤ st 170 2 ∧ 1 ≤ 2 ∧ ((le = 1 ∧ 1 ≤ (0 : Int)) ∨ (le = 0 ∧ 1 ≤ (0 : Int)) ∨ ((0 : Int) = 0 ∧ (le = 0 ∨ le = 1) ∧ ax < st 170 2 ∧ (le = 1 → 97 ≤ st 171 (ax : Int).toNat ∧ st 171 (ax : Int).toNat ≤ 122) ∧ (le = 0 → 48 ≤ st 171 (ax : Int).toNat ∧ st 171 (ax : Int).toNat ≤ 57))) from by omega)⟩ rfl)
        · refine ⟨fun h56 => ?_, fun h56 => ?_⟩
          · exact hsl _ _ _ _ _ (sb_cons (.tail _ (.tail _ (.head _))) (sb_cons (.tail _ (.tail _ (.tail _ (.head _)))) (sb_cons (.tail _ (.tail _ (.tail _ (.tail _ (.head _))))) (sb_cons (.tail _ (.tail _ (.tail _ (.tail _ (.tail _ (.head _)))))) (sb_cons (.tail _ (.head _)) (sb_cons (.head _) sb_nil)))))) (lb _ ax le di 4 0 (zup (zup (zup (zup (zup s_m135 170 6 0) 170 7 0) 170 3 3) 170 5 (ax + 1)) 170 3 1) ⟨(gInv_up (gInv_up (gInv_up (gInv_up (gInv_up gI_m135 (p_value (by omega))) (p_word (by omega))) (p_sign (by omega))) (p_signEnd (by omega))) (p_sign (by omega))), (fr_f (fr_f (fr_f (fr_f (fr_f fI_m135 rfl) rfl) rfl) rfl) rfl), (show st 170 5 ≤ s_m135 170 4 ∧ (0 : Int) = ax - s_m135 170 4 ∧ 0 ≤ (0 : Int) ∧ ax ≤ st 170 2 ∧ 1 ≤ 1 ∧ ((le = 1 ∧ 1 ≤ (0 : Int)) ∨ (le = 0 ∧ 1 ≤ (0 : Int)) ∨ ((0 : Int) = 0 ∧ (le = 0 ∨ le = 1) ∧ ax < st 170 2 ∧ (le = 1 → 97 ≤ st 171 (ax : Int).toNat ∧ st 171 (ax : Int).toNat ≤ 122) ∧ (le = 0 → 48 ≤ st 171 (ax : Int).toNat ∧ st 171 (ax : Int).toNat ≤ 57))) from by omega)⟩ rfl)
          · exact hsl _ _ _ _ _ (sb_cons (.tail _ (.tail _ (.head _))) (sb_cons (.tail _ (.tail _ (.tail _ (.head _)))) (sb_cons (.tail _ (.tail _ (.tail _ (.tail _ (.head _))))) (sb_cons (.tail _ (.tail _ (.tail _ (.tail _ (.tail _ (.head _)))))) (sb_cons (.tail _ (.head _)) (sb_cons (.head _) sb_nil)))))) (lb _ ax le di 6 0 (zup (zup (zup (zup (zup s_m135 170 6 0) 170 7 0) 170 3 3) 170 5 (ax + 1)) 170 3 1) ⟨(gInv_up (gInv_up (gInv_up (gInv_up (gInv_up gI_m135 (p_value (by omega))) (p_word (by omega))) (p_sign (by omega))) (p_signEnd (by omega))) (p_sign (by omega))), (fr_f (fr_f (fr_f (fr_f (fr_f fI_m135 rfl) rfl) rfl) rfl) rfl), (show st 170 5 ≤ s_m135 170 4 ∧ (0 : Int) = ax - s_m135 170 4 ∧ 0 ≤ (0 : Int) ∧ ax ≤ st 170 2 ∧ 1 ≤ 1 ∧ ((le = 1 ∧ 1 ≤ (0 : Int)) ∨ (le = 0 ∧ 1 ≤ (0 : Int)) ∨ ((0 : Int) = 0 ∧ (le = 0 ∨ le = 1) ∧ ax < st 170 2 ∧ (le = 1 → 97 ≤ st 171 (ax : Int).toNat ∧ st 171 (ax : Int).toNat ≤ 122) ∧ (le = 0 → 48 ≤ st 171 (ax : Int).toNat ∧ st 171 (ax : Int).toNat ≤ 57))) from by omega)⟩ rfl)
      · have e57 : s_m135 171 (ax : Int).toNat = st 171 (ax : Int).toNat := fI_m135 171 (ax : Int).toNat rfl rfl
        refine ⟨by omega, ?_⟩
        have e58 : s_m135 170 2 = st 170 2 := fI_m135 170 2 rfl rfl
        exact hQ _ ⟨(gInv_up (gInv_up (gInv_up (gInv_up (gInv_up gI_m135 (p_value (by omega))) (p_word (by omega))) (p_sign (by omega))) (p_signEnd (by omega))) (p_value (by omega))), (fr_f (fr_f (fr_f (fr_f (fr_f fI_m135 rfl) rfl) rfl) rfl) rfl), (show s_m135 170 4 ≤ (ax + 1) ∧ (ax + 1) ≤ s_m135 170 2 ∧ (3 = 0 ∧ s_m135 170 4 = s_m135 170 2 ∨ 1 ≤ 3 ∧ s_m135 170 4 < (ax + 1)) ∧ st 170 5 ≤ s_m135 170 4 from by omega)⟩
  have m41 : ∀ (ax : Int), (st 170 5 ≤ ax ∧ ax ≤ st 170 2) → K (rx_find rx_m149 41) [(0, .inr (.inr (.inl 170))), (1, .inl ax)] [] st := by
    intro ax hi
    have b_m41 := hi
    have g59 := g_signEnd hG
    have g60 := g_size hG
    refine yr1_ok (Rt := Q) (wc := (wcL [(179, k_isLetter), (180, k_isDigit)])) (stp := [41, 135, 204, 243, 263, 293, 325]) hcm hcl [311, 318, 321] 206 ?_
    show ((ax < st 170 2 → ((0 ≤ ax ∧ ax < 1800) ∧ (∀ (r61 : Int), en_isLetter (st 171 (ax : Int).toNat) (zup (zup (zup (zup st 170 4 ax) 170 5 ax) 170 3 0) 170 12 (-1)) r61 → ((0 ≤ ax ∧ ax < 1800) ∧ (∀ (r62 : Int), en_isDigit (st 171 (ax : Int).toNat) (zup (zup (zup (zup st 170 4 ax) 170 5 ax) 170 3 0) 170 12 (-1)) r62 → ((¬ r61 = (0 : Int) → ((ax ≤ (0 : Int) → K (rx_find rx_m149 135) [(3, .inl r62), (2, .inl r61), (0, .inr (.inr (.inl 170))), (1, .inl ax)] [] (zup (zup (zup (zup st 170 4 ax) 170 5 ax) 170 3 0) 170 12 (-1))) ∧ (¬ (ax ≤ (0 : Int)) → ((-2147483648 ≤ ax - 1 ∧ ax - 1 ≤ 2147483647) ∧ ((0 ≤ ax - 1 ∧ ax - 1 < 1800) ∧ (∀ (r63 : Int), en_isLetter (st 171 (ax - 1 : Int).toNat) (zup (zup (zup (zup st 170 4 ax) 170 5 ax) 170 3 0) 170 12 (-1)) r63 → ((¬ r63 = (0 : Int) → K (rx_find rx_m149 135) [(3, .inl r62), (2, .inl r61), (0, .inr (.inr (.inl 170))), (1, .inl ax)] [] (zup (zup (zup (zup (zup st 170 4 ax) 170 5 ax) 170 3 0) 170 12 (-1)) 170 12 ax)) ∧ (¬ (¬ r63 = (0 : Int)) → ((-2147483648 ≤ ax - 1 ∧ ax - 1 ≤ 2147483647) ∧ ((0 ≤ ax - 1 ∧ ax - 1 < 1800) ∧ (∀ (r64 : Int), en_isDigit (st 171 (ax - 1 : Int).toNat) (zup (zup (zup (zup st 170 4 ax) 170 5 ax) 170 3 0) 170 12 (-1)) r64 → ((r64 = (0 : Int) → K (rx_find rx_m149 135) [(3, .inl r62), (2, .inl r61), (0, .inr (.inr (.inl 170))), (1, .inl ax)] [] (zup (zup (zup (zup st 170 4 ax) 170 5 ax) 170 3 0) 170 12 (-1))) ∧ (¬ (r64 = (0 : Int)) → K (rx_find rx_m149 135) [(3, .inl r62), (2, .inl r61), (0, .inr (.inr (.inl 170))), (1, .inl ax)] [] (zup (zup (zup (zup (zup st 170 4 ax) 170 5 ax) 170 3 0) 170 12 (-1)) 170 12 ax)))))))))))))) ∧ (¬ (¬ r61 = (0 : Int)) → ((r62 = (0 : Int) → K (rx_find rx_m149 135) [(3, .inl r62), (2, .inl r61), (0, .inr (.inr (.inl 170))), (1, .inl ax)] [] (zup (zup (zup (zup st 170 4 ax) 170 5 ax) 170 3 0) 170 12 (-1))) ∧ (¬ (r62 = (0 : Int)) → ((ax ≤ (0 : Int) → K (rx_find rx_m149 135) [(3, .inl r62), (2, .inl r61), (0, .inr (.inr (.inl 170))), (1, .inl ax)] [] (zup (zup (zup (zup st 170 4 ax) 170 5 ax) 170 3 0) 170 12 (-1))) ∧ (¬ (ax ≤ (0 : Int)) → ((-2147483648 ≤ ax - 1 ∧ ax - 1 ≤ 2147483647) ∧ ((0 ≤ ax - 1 ∧ ax - 1 < 1800) ∧ (∀ (r65 : Int), en_isLetter (st 171 (ax - 1 : Int).toNat) (zup (zup (zup (zup st 170 4 ax) 170 5 ax) 170 3 0) 170 12 (-1)) r65 → ((¬ r65 = (0 : Int) → K (rx_find rx_m149 135) [(3, .inl r62), (2, .inl r61), (0, .inr (.inr (.inl 170))), (1, .inl ax)] [] (zup (zup (zup (zup (zup st 170 4 ax) 170 5 ax) 170 3 0) 170 12 (-1)) 170 12 ax)) ∧ (¬ (¬ r65 = (0 : Int)) → ((-2147483648 ≤ ax - 1 ∧ ax - 1 ≤ 2147483647) ∧ ((0 ≤ ax - 1 ∧ ax - 1 < 1800) ∧ (∀ (r66 : Int), en_isDigit (st 171 (ax - 1 : Int).toNat) (zup (zup (zup (zup st 170 4 ax) 170 5 ax) 170 3 0) 170 12 (-1)) r66 → ((r66 = (0 : Int) → K (rx_find rx_m149 135) [(3, .inl r62), (2, .inl r61), (0, .inr (.inr (.inl 170))), (1, .inl ax)] [] (zup (zup (zup (zup st 170 4 ax) 170 5 ax) 170 3 0) 170 12 (-1))) ∧ (¬ (r66 = (0 : Int)) → K (rx_find rx_m149 135) [(3, .inl r62), (2, .inl r61), (0, .inr (.inr (.inl 170))), (1, .inl ax)] [] (zup (zup (zup (zup (zup st 170 4 ax) 170 5 ax) 170 3 0) 170 12 (-1)) 170 12 ax)))))))))))))))))))))) ∧ (¬ (ax < st 170 2) → Q none (zup (zup (zup (zup st 170 4 ax) 170 5 ax) 170 3 0) 170 12 (-1))))
    refine ⟨fun h67 => ?_, fun h67 => ?_⟩
    · have g68 := g_tape hG (ax : Int).toNat
      refine ⟨by omega, ?_⟩
      refine fun r61 q61 => ?_
      have b61 := q61
      change (r61 = 0 ∨ r61 = 1) ∧ (r61 = 1 ↔ 97 ≤ (st 171 (ax : Int).toNat) ∧ (st 171 (ax : Int).toNat) ≤ 122) at b61
      refine ⟨by omega, ?_⟩
      refine fun r62 q62 => ?_
      have b62 := q62
      change (r62 = 0 ∨ r62 = 1) ∧ (r62 = 1 ↔ 48 ≤ (st 171 (ax : Int).toNat) ∧ (st 171 (ax : Int).toNat) ≤ 57) at b62
      refine ⟨fun h69 => ?_, fun h69 => ?_⟩
      · refine ⟨fun h70 => ?_, fun h70 => ?_⟩
        · exact hsl _ _ _ _ _ (sb_cons (.tail _ (.tail _ (.head _))) (sb_cons (.tail _ (.tail _ (.tail _ (.head _)))) (sb_cons (.tail _ (.head _)) (sb_cons (.head _) sb_nil)))) (m135 ax r61 r62 (zup (zup (zup (zup st 170 4 ax) 170 5 ax) 170 3 0) 170 12 (-1)) ⟨(gInv_up (gInv_up (gInv_up (gInv_up hG (p_signAt (by omega))) (p_signEnd (by omega))) (p_sign (by omega))) (p_lexAt (by omega))), (fr_f (fr_f (fr_f (fr_f (fr_rf _ _) rfl) rfl) rfl) rfl), (show st 170 5 ≤ ax ∧ ax < st 170 2 ∧ ax = ax ∧ (r61 = 0 ∨ r61 = 1) ∧ (r62 = 0 ∨ r62 = 1) ∧ (r61 = 1 ↔ 97 ≤ st 171 (ax : Int).toNat ∧ st 171 (ax : Int).toNat ≤ 122) ∧ (r62 = 1 ↔ 48 ≤ st 171 (ax : Int).toNat ∧ st 171 (ax : Int).toNat ≤ 57) from by omega)⟩)
        · refine ⟨by omega, ?_⟩
          have g71 := g_tape hG (ax - 1 : Int).toNat
          refine ⟨by omega, ?_⟩
          refine fun r63 q63 => ?_
          have b63 := q63
          change (r63 = 0 ∨ r63 = 1) ∧ (r63 = 1 ↔ 97 ≤ (st 171 (ax - 1 : Int).toNat) ∧ (st 171 (ax - 1 : Int).toNat) ≤ 122) at b63
          refine ⟨fun h72 => ?_, fun h72 => ?_⟩
          · exact hsl _ _ _ _ _ (sb_cons (.tail _ (.tail _ (.head _))) (sb_cons (.tail _ (.tail _ (.tail _ (.head _)))) (sb_cons (.tail _ (.head _)) (sb_cons (.head _) sb_nil)))) (m135 ax r61 r62 (zup (zup (zup (zup (zup st 170 4 ax) 170 5 ax) 170 3 0) 170 12 (-1)) 170 12 ax) ⟨(gInv_up (gInv_up (gInv_up (gInv_up (gInv_up hG (p_signAt (by omega))) (p_signEnd (by omega))) (p_sign (by omega))) (p_lexAt (by omega))) (p_lexAt (by omega))), (fr_f (fr_f (fr_f (fr_f (fr_f (fr_rf _ _) rfl) rfl) rfl) rfl) rfl), (show st 170 5 ≤ ax ∧ ax < st 170 2 ∧ ax = ax ∧ (r61 = 0 ∨ r61 = 1) ∧ (r62 = 0 ∨ r62 = 1) ∧ (r61 = 1 ↔ 97 ≤ st 171 (ax : Int).toNat ∧ st 171 (ax : Int).toNat ≤ 122) ∧ (r62 = 1 ↔ 48 ≤ st 171 (ax : Int).toNat ∧ st 171 (ax : Int).toNat ≤ 57) from by omega)⟩)
          · refine ⟨by omega, ?_⟩
            refine ⟨by omega, ?_⟩
            refine fun r64 q64 => ?_
            have b64 := q64
            change (r64 = 0 ∨ r64 = 1) ∧ (r64 = 1 ↔ 48 ≤ (st 171 (ax - 1 : Int).toNat) ∧ (st 171 (ax - 1 : Int).toNat) ≤ 57) at b64
            refine ⟨fun h73 => ?_, fun h73 => ?_⟩
            · exact hsl _ _ _ _ _ (sb_cons (.tail _ (.tail _ (.head _))) (sb_cons (.tail _ (.tail _ (.tail _ (.head _)))) (sb_cons (.tail _ (.head _)) (sb_cons (.head _) sb_nil)))) (m135 ax r61 r62 (zup (zup (zup (zup st 170 4 ax) 170 5 ax) 170 3 0) 170 12 (-1)) ⟨(gInv_up (gInv_up (gInv_up (gInv_up hG (p_signAt (by omega))) (p_signEnd (by omega))) (p_sign (by omega))) (p_lexAt (by omega))), (fr_f (fr_f (fr_f (fr_f (fr_rf _ _) rfl) rfl) rfl) rfl), (show st 170 5 ≤ ax ∧ ax < st 170 2 ∧ ax = ax ∧ (r61 = 0 ∨ r61 = 1) ∧ (r62 = 0 ∨ r62 = 1) ∧ (r61 = 1 ↔ 97 ≤ st 171 (ax : Int).toNat ∧ st 171 (ax : Int).toNat ≤ 122) ∧ (r62 = 1 ↔ 48 ≤ st 171 (ax : Int).toNat ∧ st 171 (ax : Int).toNat ≤ 57) from by omega)⟩)
            · exact hsl _ _ _ _ _ (sb_cons (.tail _ (.tail _ (.head _))) (sb_cons (.tail _ (.tail _ (.tail _ (.head _)))) (sb_cons (.tail _ (.head _)) (sb_cons (.head _) sb_nil)))) (m135 ax r61 r62 (zup (zup (zup (zup (zup st 170 4 ax) 170 5 ax) 170 3 0) 170 12 (-1)) 170 12 ax) ⟨(gInv_up (gInv_up (gInv_up (gInv_up (gInv_up hG (p_signAt (by omega))) (p_signEnd (by omega))) (p_sign (by omega))) (p_lexAt (by omega))) (p_lexAt (by omega))), (fr_f (fr_f (fr_f (fr_f (fr_f (fr_rf _ _) rfl) rfl) rfl) rfl) rfl), (show st 170 5 ≤ ax ∧ ax < st 170 2 ∧ ax = ax ∧ (r61 = 0 ∨ r61 = 1) ∧ (r62 = 0 ∨ r62 = 1) ∧ (r61 = 1 ↔ 97 ≤ st 171 (ax : Int).toNat ∧ st 171 (ax : Int).toNat ≤ 122) ∧ (r62 = 1 ↔ 48 ≤ st 171 (ax : Int).toNat ∧ st 171 (ax : Int).toNat ≤ 57) from by omega)⟩)
      · refine ⟨fun h74 => ?_, fun h74 => ?_⟩
        · exact hsl _ _ _ _ _ (sb_cons (.tail _ (.tail _ (.head _))) (sb_cons (.tail _ (.tail _ (.tail _ (.head _)))) (sb_cons (.tail _ (.head _)) (sb_cons (.head _) sb_nil)))) (m135 ax r61 r62 (zup (zup (zup (zup st 170 4 ax) 170 5 ax) 170 3 0) 170 12 (-1)) ⟨(gInv_up (gInv_up (gInv_up (gInv_up hG (p_signAt (by omega))) (p_signEnd (by omega))) (p_sign (by omega))) (p_lexAt (by omega))), (fr_f (fr_f (fr_f (fr_f (fr_rf _ _) rfl) rfl) rfl) rfl), (show st 170 5 ≤ ax ∧ ax < st 170 2 ∧ ax = ax ∧ (r61 = 0 ∨ r61 = 1) ∧ (r62 = 0 ∨ r62 = 1) ∧ (r61 = 1 ↔ 97 ≤ st 171 (ax : Int).toNat ∧ st 171 (ax : Int).toNat ≤ 122) ∧ (r62 = 1 ↔ 48 ≤ st 171 (ax : Int).toNat ∧ st 171 (ax : Int).toNat ≤ 57) from by omega)⟩)
        · refine ⟨fun h75 => ?_, fun h75 => ?_⟩
          · exact hsl _ _ _ _ _ (sb_cons (.tail _ (.tail _ (.head _))) (sb_cons (.tail _ (.tail _ (.tail _ (.head _)))) (sb_cons (.tail _ (.head _)) (sb_cons (.head _) sb_nil)))) (m135 ax r61 r62 (zup (zup (zup (zup st 170 4 ax) 170 5 ax) 170 3 0) 170 12 (-1)) ⟨(gInv_up (gInv_up (gInv_up (gInv_up hG (p_signAt (by omega))) (p_signEnd (by omega))) (p_sign (by omega))) (p_lexAt (by omega))), (fr_f (fr_f (fr_f (fr_f (fr_rf _ _) rfl) rfl) rfl) rfl), (show st 170 5 ≤ ax ∧ ax < st 170 2 ∧ ax = ax ∧ (r61 = 0 ∨ r61 = 1) ∧ (r62 = 0 ∨ r62 = 1) ∧ (r61 = 1 ↔ 97 ≤ st 171 (ax : Int).toNat ∧ st 171 (ax : Int).toNat ≤ 122) ∧ (r62 = 1 ↔ 48 ≤ st 171 (ax : Int).toNat ∧ st 171 (ax : Int).toNat ≤ 57) from by omega)⟩)
          · refine ⟨by omega, ?_⟩
            have g76 := g_tape hG (ax - 1 : Int).toNat
            refine ⟨by omega, ?_⟩
            refine fun r65 q65 => ?_
            have b65 := q65
            change (r65 = 0 ∨ r65 = 1) ∧ (r65 = 1 ↔ 97 ≤ (st 171 (ax - 1 : Int).toNat) ∧ (st 171 (ax - 1 : Int).toNat) ≤ 122) at b65
            refine ⟨fun h77 => ?_, fun h77 => ?_⟩
            · exact hsl _ _ _ _ _ (sb_cons (.tail _ (.tail _ (.head _))) (sb_cons (.tail _ (.tail _ (.tail _ (.head _)))) (sb_cons (.tail _ (.head _)) (sb_cons (.head _) sb_nil)))) (m135 ax r61 r62 (zup (zup (zup (zup (zup st 170 4 ax) 170 5 ax) 170 3 0) 170 12 (-1)) 170 12 ax) ⟨(gInv_up (gInv_up (gInv_up (gInv_up (gInv_up hG (p_signAt (by omega))) (p_signEnd (by omega))) (p_sign (by omega))) (p_lexAt (by omega))) (p_lexAt (by omega))), (fr_f (fr_f (fr_f (fr_f (fr_f (fr_rf _ _) rfl) rfl) rfl) rfl) rfl), (show st 170 5 ≤ ax ∧ ax < st 170 2 ∧ ax = ax ∧ (r61 = 0 ∨ r61 = 1) ∧ (r62 = 0 ∨ r62 = 1) ∧ (r61 = 1 ↔ 97 ≤ st 171 (ax : Int).toNat ∧ st 171 (ax : Int).toNat ≤ 122) ∧ (r62 = 1 ↔ 48 ≤ st 171 (ax : Int).toNat ∧ st 171 (ax : Int).toNat ≤ 57) from by omega)⟩)
            · refine ⟨by omega, ?_⟩
              refine ⟨by omega, ?_⟩
              refine fun r66 q66 => ?_
              have b66 := q66
              change (r66 = 0 ∨ r66 = 1) ∧ (r66 = 1 ↔ 48 ≤ (st 171 (ax - 1 : Int).toNat) ∧ (st 171 (ax - 1 : Int).toNat) ≤ 57) at b66
              refine ⟨fun h78 => ?_, fun h78 => ?_⟩
              · exact hsl _ _ _ _ _ (sb_cons (.tail _ (.tail _ (.head _))) (sb_cons (.tail _ (.tail _ (.tail _ (.head _)))) (sb_cons (.tail _ (.head _)) (sb_cons (.head _) sb_nil)))) (m135 ax r61 r62 (zup (zup (zup (zup st 170 4 ax) 170 5 ax) 170 3 0) 170 12 (-1)) ⟨(gInv_up (gInv_up (gInv_up (gInv_up hG (p_signAt (by omega))) (p_signEnd (by omega))) (p_sign (by omega))) (p_lexAt (by omega))), (fr_f (fr_f (fr_f (fr_f (fr_rf _ _) rfl) rfl) rfl) rfl), (show st 170 5 ≤ ax ∧ ax < st 170 2 ∧ ax = ax ∧ (r61 = 0 ∨ r61 = 1) ∧ (r62 = 0 ∨ r62 = 1) ∧ (r61 = 1 ↔ 97 ≤ st 171 (ax : Int).toNat ∧ st 171 (ax : Int).toNat ≤ 122) ∧ (r62 = 1 ↔ 48 ≤ st 171 (ax : Int).toNat ∧ st 171 (ax : Int).toNat ≤ 57) from by omega)⟩)
              · exact hsl _ _ _ _ _ (sb_cons (.tail _ (.tail _ (.head _))) (sb_cons (.tail _ (.tail _ (.tail _ (.head _)))) (sb_cons (.tail _ (.head _)) (sb_cons (.head _) sb_nil)))) (m135 ax r61 r62 (zup (zup (zup (zup (zup st 170 4 ax) 170 5 ax) 170 3 0) 170 12 (-1)) 170 12 ax) ⟨(gInv_up (gInv_up (gInv_up (gInv_up (gInv_up hG (p_signAt (by omega))) (p_signEnd (by omega))) (p_sign (by omega))) (p_lexAt (by omega))) (p_lexAt (by omega))), (fr_f (fr_f (fr_f (fr_f (fr_f (fr_rf _ _) rfl) rfl) rfl) rfl) rfl), (show st 170 5 ≤ ax ∧ ax < st 170 2 ∧ ax = ax ∧ (r61 = 0 ∨ r61 = 1) ∧ (r62 = 0 ∨ r62 = 1) ∧ (r61 = 1 ↔ 97 ≤ st 171 (ax : Int).toNat ∧ st 171 (ax : Int).toNat ≤ 122) ∧ (r62 = 1 ↔ 48 ≤ st 171 (ax : Int).toNat ∧ st 171 (ax : Int).toNat ≤ 57) from by omega)⟩)
    · exact hQ _ ⟨(gInv_up (gInv_up (gInv_up (gInv_up hG (p_signAt (by omega))) (p_signEnd (by omega))) (p_sign (by omega))) (p_lexAt (by omega))), (fr_f (fr_f (fr_f (fr_f (fr_rf _ _) rfl) rfl) rfl) rfl), (show ax ≤ ax ∧ ax ≤ st 170 2 ∧ (0 = 0 ∧ ax = st 170 2 ∨ 1 ≤ 0 ∧ ax < ax) ∧ st 170 5 ≤ ax from by omega)⟩
  have la : ∀ (u : Nat) (ax : Int), (st 170 5 ≤ ax ∧ ax ≤ st 170 2) → (st 170 2 - ax).toNat = u → K (rx_find rx_m149 5) [(0, .inr (.inr (.inl 170))), (1, .inl ax)] [] st := by
    intro u
    induction u using Nat.strongRecOn with
    | _ u ih =>
      intro ax hi hu
      have b_la := hi
      have g79 := g_signEnd hG
      have g80 := g_size hG
      refine yr1_ok (Rt := Q) (wc := (wcL [(179, k_isLetter), (180, k_isDigit)])) (stp := [5, 41, 135, 204, 243, 263, 293, 325]) hcm hcl [311, 318, 321] 206 ?_
      show ((st 170 2 ≤ ax → K (rx_find rx_m149 41) [(0, .inr (.inr (.inl 170))), (1, .inl ax)] [] st) ∧ (¬ (st 170 2 ≤ ax) → ((0 ≤ ax ∧ ax < 1800) ∧ ((st 171 (ax : Int).toNat = (32 : Int) → ((-2147483648 ≤ ax + 1 ∧ ax + 1 ≤ 2147483647) ∧ K (rx_find rx_m149 5) [(1, .inl (ax + 1)), (0, .inr (.inr (.inl 170)))] [] st)) ∧ (¬ (st 171 (ax : Int).toNat = (32 : Int)) → ((0 ≤ ax ∧ ax < 1800) ∧ ((¬ st 171 (ax : Int).toNat = (10 : Int) → K (rx_find rx_m149 41) [(0, .inr (.inr (.inl 170))), (1, .inl ax)] [] st) ∧ (¬ (¬ st 171 (ax : Int).toNat = (10 : Int)) → ((-2147483648 ≤ ax + 1 ∧ ax + 1 ≤ 2147483647) ∧ K (rx_find rx_m149 5) [(1, .inl (ax + 1)), (0, .inr (.inr (.inl 170)))] [] st)))))))))
      refine ⟨fun h81 => ?_, fun h81 => ?_⟩
      · exact m41 ax (show st 170 5 ≤ ax ∧ ax ≤ st 170 2 from by omega)
      · have g82 := g_tape hG (ax : Int).toNat
        refine ⟨by omega, ?_⟩
        refine ⟨fun h83 => ?_, fun h83 => ?_⟩
        · refine ⟨by omega, ?_⟩
          exact hsl _ _ _ _ _ (sb_cons (.tail _ (.head _)) (sb_cons (.head _) sb_nil)) (ih _ (by omega) (ax + 1) (show st 170 5 ≤ (ax + 1) ∧ (ax + 1) ≤ st 170 2 from by omega) rfl)
        · refine ⟨by omega, ?_⟩
          refine ⟨fun h84 => ?_, fun h84 => ?_⟩
          · exact m41 ax (show st 170 5 ≤ ax ∧ ax ≤ st 170 2 from by omega)
          · refine ⟨by omega, ?_⟩
            exact hsl _ _ _ _ _ (sb_cons (.tail _ (.head _)) (sb_cons (.head _) sb_nil)) (ih _ (by omega) (ax + 1) (show st 170 5 ≤ (ax + 1) ∧ (ax + 1) ≤ st 170 2 from by omega) rfl)
  have g85 := g_signEnd hG
  have g86 := g_size hG
  refine yr1_ok (Rt := Q) (wc := (wcL [(179, k_isLetter), (180, k_isDigit)])) (stp := [5, 41, 135, 204, 243, 263, 293, 325]) hcm hcl [311, 318, 321] 206 ?_
  show K (rx_find rx_m149 5) [(1, .inl (st 170 5)), (0, .inr (.inr (.inl 170)))] [] st
  exact hsl _ _ _ _ _ (sb_cons (.tail _ (.head _)) (sb_cons (.head _) sb_nil)) (la _ (st 170 5) (show st 170 5 ≤ (st 170 5) ∧ (st 170 5) ≤ st 170 2 from by omega) rfl)
theorem k_ahead_m (hTb : aTb zSh rx_tb cl) {D : Nat} (hD : 2 ≤ D) : ∀ as st (Q Q' : zQ), (∀ r st', Q r st' → Q' r st') → k_ahead 149 as st Q → cl D 149 as st Q' := by
  intro as st Q Q' hQ h
  unfold k_ahead at h
  split at h
  · obtain ⟨rfl, h⟩ := h
    exact c_ahead hTb hD (ct_ahead_m hQ h)
  · exact h.elim
set_option maxRecDepth 100000 in
theorem c_isOwn (hTb : aTb zSh rx_tb cl) {D : Nat} (hD : 1 ≤ D) {w : Int} {st : zS} {Q : zQ} (h : ct_isOwn w st Q) : cl D 185 [.inr (.inr (.inl 170)), .inr (.inl w)] st Q := by
  obtain ⟨d, rfl⟩ : ∃ d, D = d + 1 := ⟨D - 1, by omega⟩
  refine hTb d 185 (rx_m185, 3, 0, 0, 2) rfl _ _ _ (Nat.le_of_ble_eq_true rfl) (fun K hcl hsf hsl => ?_)
  have hcm : zmo (zno) (cl d) := zno_m
  have hQ := h
  refine yr1_ok (Rt := Q) (wc := (zno)) (stp := []) hcm hcl [] 138 ?_
  show (∀ (w1 : Int), (w < 482854658917 ∧ w1 = -1 ∨ w = 482854658917 ∧ w1 = 0 ∨ 482854658917 < w ∧ w1 = 1) → ((w1 = (0 : Int) → ((1 = (0 : Int) ∨ 1 = (1 : Int)) ∧ Q (some (.inl 1)) st)) ∧ (¬ (w1 = (0 : Int)) → (∀ (w2 : Int), (w < 126943972648308 ∧ w2 = -1 ∨ w = 126943972648308 ∧ w2 = 0 ∨ 126943972648308 < w ∧ w2 = 1) → ((w2 = (0 : Int) → ((1 = (0 : Int) ∨ 1 = (1 : Int)) ∧ Q (some (.inl 1)) st)) ∧ (¬ (w2 = (0 : Int)) → (∀ (w3 : Int), (w < 29807 ∧ w3 = -1 ∨ w = 29807 ∧ w3 = 0 ∨ 29807 < w ∧ w3 = 1) → ((w3 = (0 : Int) → ((1 = (0 : Int) ∨ 1 = (1 : Int)) ∧ Q (some (.inl 1)) st)) ∧ (¬ (w3 = (0 : Int)) → (∀ (w4 : Int), (w < 482670241139 ∧ w4 = -1 ∨ w = 482670241139 ∧ w4 = 0 ∨ 482670241139 < w ∧ w4 = 1) → ((w4 = (0 : Int) → ((1 = (0 : Int) ∨ 1 = (1 : Int)) ∧ Q (some (.inl 1)) st)) ∧ (¬ (w4 = (0 : Int)) → (∀ (w5 : Int), (w < 1937007984 ∧ w5 = -1 ∨ w = 1937007984 ∧ w5 = 0 ∨ 1937007984 < w ∧ w5 = 1) → ((¬ w5 = (0 : Int) → (∀ (w6 : Int), (w < 6713202 ∧ w6 = -1 ∨ w = 6713202 ∧ w6 = 0 ∨ 6713202 < w ∧ w6 = 1) → ((w6 = (0 : Int) → ((1 = (0 : Int) ∨ 1 = (1 : Int)) ∧ Q (some (.inl 1)) st)) ∧ (¬ (w6 = (0 : Int)) → (∀ (w7 : Int), (w < 499967946343 ∧ w7 = -1 ∨ w = 499967946343 ∧ w7 = 0 ∨ 499967946343 < w ∧ w7 = 1) → ((w7 = (0 : Int) → ((1 = (0 : Int) ∨ 1 = (1 : Int)) ∧ Q (some (.inl 1)) st)) ∧ (¬ (w7 = (0 : Int)) → (∀ (w8 : Int), (w < 24948 ∧ w8 = -1 ∨ w = 24948 ∧ w8 = 0 ∨ 24948 < w ∧ w8 = 1) → ((w8 = (0 : Int) → ((1 = (0 : Int) ∨ 1 = (1 : Int)) ∧ Q (some (.inl 1)) st)) ∧ (¬ (w8 = (0 : Int)) → (∀ (w9 : Int), (w < 1886743660 ∧ w9 = -1 ∨ w = 1886743660 ∧ w9 = 0 ∨ 1886743660 < w ∧ w9 = 1) → ((w9 = (0 : Int) → ((1 = (0 : Int) ∨ 1 = (1 : Int)) ∧ Q (some (.inl 1)) st)) ∧ (¬ (w9 = (0 : Int)) → (∀ (w10 : Int), (w < 126943688025203 ∧ w10 = -1 ∨ w = 126943688025203 ∧ w10 = 0 ∨ 126943688025203 < w ∧ w10 = 1) → ((¬ w10 = (0 : Int) → (∀ (w11 : Int), (w < 109317209875826 ∧ w11 = -1 ∨ w = 109317209875826 ∧ w11 = 0 ∨ 109317209875826 < w ∧ w11 = 1) → ((w11 = (0 : Int) → ((1 = (0 : Int) ∨ 1 = (1 : Int)) ∧ Q (some (.inl 1)) st)) ∧ (¬ (w11 = (0 : Int)) → (∀ (w12 : Int), (w < 1751474548 ∧ w12 = -1 ∨ w = 1751474548 ∧ w12 = 0 ∨ 1751474548 < w ∧ w12 = 1) → ((w12 = (0 : Int) → ((1 = (0 : Int) ∨ 1 = (1 : Int)) ∧ Q (some (.inl 1)) st)) ∧ (¬ (w12 = (0 : Int)) → (∀ (w13 : Int), (w < 6844276 ∧ w13 = -1 ∨ w = 6844276 ∧ w13 = 0 ∨ 6844276 < w ∧ w13 = 1) → ((w13 = (0 : Int) → ((1 = (0 : Int) ∨ 1 = (1 : Int)) ∧ Q (some (.inl 1)) st)) ∧ (¬ (w13 = (0 : Int)) → (∀ (w14 : Int), (w < 2036687218 ∧ w14 = -1 ∨ w = 2036687218 ∧ w14 = 0 ∨ 2036687218 < w ∧ w14 = 1) → ((w14 = (0 : Int) → ((1 = (0 : Int) ∨ 1 = (1 : Int)) ∧ Q (some (.inl 1)) st)) ∧ (¬ (w14 = (0 : Int)) → (∀ (w15 : Int), (w < 1953459300 ∧ w15 = -1 ∨ w = 1953459300 ∧ w15 = 0 ∨ 1953459300 < w ∧ w15 = 1) → ((¬ w15 = (0 : Int) → (∀ (w16 : Int), (w < 1650812270 ∧ w16 = -1 ∨ w = 1650812270 ∧ w16 = 0 ∨ 1650812270 < w ∧ w16 = 1) → ((w16 = (0 : Int) → ((1 = (0 : Int) ∨ 1 = (1 : Int)) ∧ Q (some (.inl 1)) st)) ∧ (¬ (w16 = (0 : Int)) → (∀ (w17 : Int), (w < 495874044019 ∧ w17 = -1 ∨ w = 495874044019 ∧ w17 = 0 ∨ 495874044019 < w ∧ w17 = 1) → ((w17 = (0 : Int) → ((1 = (0 : Int) ∨ 1 = (1 : Int)) ∧ Q (some (.inl 1)) st)) ∧ (¬ (w17 = (0 : Int)) → (∀ (w18 : Int), (w < 1953066341 ∧ w18 = -1 ∨ w = 1953066341 ∧ w18 = 0 ∨ 1953066341 < w ∧ w18 = 1) → ((w18 = (0 : Int) → ((1 = (0 : Int) ∨ 1 = (1 : Int)) ∧ Q (some (.inl 1)) st)) ∧ (¬ (w18 = (0 : Int)) → (∀ (w19 : Int), (w < 465726042227 ∧ w19 = -1 ∨ w = 465726042227 ∧ w19 = 0 ∨ 465726042227 < w ∧ w19 = 1) → ((w19 = (0 : Int) → ((1 = (0 : Int) ∨ 1 = (1 : Int)) ∧ Q (some (.inl 1)) st)) ∧ (¬ (w19 = (0 : Int)) → (∀ (w20 : Int), (w < 26982 ∧ w20 = -1 ∨ w = 26982 ∧ w20 = 0 ∨ 26982 < w ∧ w20 = 1) → ((¬ w20 = (0 : Int) → (∀ (w21 : Int), (w < 28530 ∧ w21 = -1 ∨ w = 28530 ∧ w21 = 0 ∨ 28530 < w ∧ w21 = 1) → ((w21 = (0 : Int) → ((1 = (0 : Int) ∨ 1 = (1 : Int)) ∧ Q (some (.inl 1)) st)) ∧ (¬ (w21 = (0 : Int)) → (∀ (w22 : Int), (w < 6385252 ∧ w22 = -1 ∨ w = 6385252 ∧ w22 = 0 ∨ 6385252 < w ∧ w22 = 1) → ((w22 = (0 : Int) → ((1 = (0 : Int) ∨ 1 = (1 : Int)) ∧ Q (some (.inl 1)) st)) ∧ (¬ (w22 = (0 : Int)) → (∀ (w23 : Int), (w < 7237492 ∧ w23 = -1 ∨ w = 7237492 ∧ w23 = 0 ∨ 7237492 < w ∧ w23 = 1) → ((w23 = (0 : Int) → ((1 = (0 : Int) ∨ 1 = (1 : Int)) ∧ Q (some (.inl 1)) st)) ∧ (¬ (w23 = (0 : Int)) → (∀ (w24 : Int), (w < 6384748 ∧ w24 = -1 ∨ w = 6384748 ∧ w24 = 0 ∨ 6384748 < w ∧ w24 = 1) → ((w24 = (0 : Int) → ((1 = (0 : Int) ∨ 1 = (1 : Int)) ∧ Q (some (.inl 1)) st)) ∧ (¬ (w24 = (0 : Int)) → (∀ (w25 : Int), (w < 7170414 ∧ w25 = -1 ∨ w = 7170414 ∧ w25 = 0 ∨ 7170414 < w ∧ w25 = 1) → ((¬ w25 = (0 : Int) → (∀ (w26 : Int), (w < 7168376 ∧ w26 = -1 ∨ w = 7168376 ∧ w26 = 0 ∨ 7168376 < w ∧ w26 = 1) → ((¬ w26 = (0 : Int) → ((0 = (0 : Int) ∨ 0 = (1 : Int)) ∧ Q (some (.inl 0)) st)) ∧ (¬ (¬ w26 = (0 : Int)) → ((1 = (0 : Int) ∨ 1 = (1 : Int)) ∧ Q (some (.inl 1)) st))))) ∧ (¬ (¬ w25 = (0 : Int)) → ((1 = (0 : Int) ∨ 1 = (1 : Int)) ∧ Q (some (.inl 1)) st))))))))))))))))) ∧ (¬ (¬ w20 = (0 : Int)) → ((1 = (0 : Int) ∨ 1 = (1 : Int)) ∧ Q (some (.inl 1)) st))))))))))))))))) ∧ (¬ (¬ w15 = (0 : Int)) → ((1 = (0 : Int) ∨ 1 = (1 : Int)) ∧ Q (some (.inl 1)) st))))))))))))))))) ∧ (¬ (¬ w10 = (0 : Int)) → ((1 = (0 : Int) ∨ 1 = (1 : Int)) ∧ Q (some (.inl 1)) st))))))))))))))))) ∧ (¬ (¬ w5 = (0 : Int)) → ((1 = (0 : Int) ∨ 1 = (1 : Int)) ∧ Q (some (.inl 1)) st))))))))))))))))
  intro w1 hw1
  refine ⟨fun h27 => ?_, fun h27 => ?_⟩
  · refine ⟨by omega, ?_⟩
    exact hQ _ (show ((1 : Int) = 0 ∨ (1 : Int) = 1) from by omega)
  · intro w2 hw2
    refine ⟨fun h28 => ?_, fun h28 => ?_⟩
    · refine ⟨by omega, ?_⟩
      exact hQ _ (show ((1 : Int) = 0 ∨ (1 : Int) = 1) from by omega)
    · intro w3 hw3
      refine ⟨fun h29 => ?_, fun h29 => ?_⟩
      · refine ⟨by omega, ?_⟩
        exact hQ _ (show ((1 : Int) = 0 ∨ (1 : Int) = 1) from by omega)
      · intro w4 hw4
        refine ⟨fun h30 => ?_, fun h30 => ?_⟩
        · refine ⟨by omega, ?_⟩
          exact hQ _ (show ((1 : Int) = 0 ∨ (1 : Int) = 1) from by omega)
        · intro w5 hw5
          refine ⟨fun h31 => ?_, fun h31 => ?_⟩
          · intro w6 hw6
            refine ⟨fun h32 => ?_, fun h32 => ?_⟩
            · refine ⟨by omega, ?_⟩
              exact hQ _ (show ((1 : Int) = 0 ∨ (1 : Int) = 1) from by omega)
            · intro w7 hw7
              refine ⟨fun h33 => ?_, fun h33 => ?_⟩
              · refine ⟨by omega, ?_⟩
                exact hQ _ (show ((1 : Int) = 0 ∨ (1 : Int) = 1) from by omega)
              · intro w8 hw8
                refine ⟨fun h34 => ?_, fun h34 => ?_⟩
                · refine ⟨by omega, ?_⟩
                  exact hQ _ (show ((1 : Int) = 0 ∨ (1 : Int) = 1) from by omega)
                · intro w9 hw9
                  refine ⟨fun h35 => ?_, fun h35 => ?_⟩
                  · refine ⟨by omega, ?_⟩
                    exact hQ _ (show ((1 : Int) = 0 ∨ (1 : Int) = 1) from by omega)
                  · intro w10 hw10
                    refine ⟨fun h36 => ?_, fun h36 => ?_⟩
                    · intro w11 hw11
                      refine ⟨fun h37 => ?_, fun h37 => ?_⟩
                      · refine ⟨by omega, ?_⟩
                        exact hQ _ (show ((1 : Int) = 0 ∨ (1 : Int) = 1) from by omega)
                      · intro w12 hw12
                        refine ⟨fun h38 => ?_, fun h38 => ?_⟩
                        · refine ⟨by omega, ?_⟩
                          exact hQ _ (show ((1 : Int) = 0 ∨ (1 : Int) = 1) from by omega)
                        · intro w13 hw13
                          refine ⟨fun h39 => ?_, fun h39 => ?_⟩
                          · refine ⟨by omega, ?_⟩
                            exact hQ _ (show ((1 : Int) = 0 ∨ (1 : Int) = 1) from by omega)
                          · intro w14 hw14
                            refine ⟨fun h40 => ?_, fun h40 => ?_⟩
                            · refine ⟨by omega, ?_⟩
                              exact hQ _ (show ((1 : Int) = 0 ∨ (1 : Int) = 1) from by omega)
                            · intro w15 hw15
                              refine ⟨fun h41 => ?_, fun h41 => ?_⟩
                              · intro w16 hw16
                                refine ⟨fun h42 => ?_, fun h42 => ?_⟩
                                · refine ⟨by omega, ?_⟩
                                  exact hQ _ (show ((1 : Int) = 0 ∨ (1 : Int) = 1) from by omega)
                                · intro w17 hw17
                                  refine ⟨fun h43 => ?_, fun h43 => ?_⟩
                                  · refine ⟨by omega, ?_⟩
                                    exact hQ _ (show ((1 : Int) = 0 ∨ (1 : Int) = 1) from by omega)
                                  · intro w18 hw18
                                    refine ⟨fun h44 => ?_, fun h44 => ?_⟩
                                    · refine ⟨by omega, ?_⟩
                                      exact hQ _ (show ((1 : Int) = 0 ∨ (1 : Int) = 1) from by omega)
                                    · intro w19 hw19
                                      refine ⟨fun h45 => ?_, fun h45 => ?_⟩
                                      · refine ⟨by omega, ?_⟩
                                        exact hQ _ (show ((1 : Int) = 0 ∨ (1 : Int) = 1) from by omega)
                                      · intro w20 hw20
                                        refine ⟨fun h46 => ?_, fun h46 => ?_⟩
                                        · intro w21 hw21
                                          refine ⟨fun h47 => ?_, fun h47 => ?_⟩
                                          · refine ⟨by omega, ?_⟩
                                            exact hQ _ (show ((1 : Int) = 0 ∨ (1 : Int) = 1) from by omega)
                                          · intro w22 hw22
                                            refine ⟨fun h48 => ?_, fun h48 => ?_⟩
                                            · refine ⟨by omega, ?_⟩
                                              exact hQ _ (show ((1 : Int) = 0 ∨ (1 : Int) = 1) from by omega)
                                            · intro w23 hw23
                                              refine ⟨fun h49 => ?_, fun h49 => ?_⟩
                                              · refine ⟨by omega, ?_⟩
                                                exact hQ _ (show ((1 : Int) = 0 ∨ (1 : Int) = 1) from by omega)
                                              · intro w24 hw24
                                                refine ⟨fun h50 => ?_, fun h50 => ?_⟩
                                                · refine ⟨by omega, ?_⟩
                                                  exact hQ _ (show ((1 : Int) = 0 ∨ (1 : Int) = 1) from by omega)
                                                · intro w25 hw25
                                                  refine ⟨fun h51 => ?_, fun h51 => ?_⟩
                                                  · intro w26 hw26
                                                    refine ⟨fun h52 => ?_, fun h52 => ?_⟩
                                                    · refine ⟨by omega, ?_⟩
                                                      exact hQ _ (show ((0 : Int) = 0 ∨ (0 : Int) = 1) from by omega)
                                                    · refine ⟨by omega, ?_⟩
                                                      exact hQ _ (show ((1 : Int) = 0 ∨ (1 : Int) = 1) from by omega)
                                                  · refine ⟨by omega, ?_⟩
                                                    exact hQ _ (show ((1 : Int) = 0 ∨ (1 : Int) = 1) from by omega)
                                        · refine ⟨by omega, ?_⟩
                                          exact hQ _ (show ((1 : Int) = 0 ∨ (1 : Int) = 1) from by omega)
                              · refine ⟨by omega, ?_⟩
                                exact hQ _ (show ((1 : Int) = 0 ∨ (1 : Int) = 1) from by omega)
                    · refine ⟨by omega, ?_⟩
                      exact hQ _ (show ((1 : Int) = 0 ∨ (1 : Int) = 1) from by omega)
          · refine ⟨by omega, ?_⟩
            exact hQ _ (show ((1 : Int) = 0 ∨ (1 : Int) = 1) from by omega)
theorem k_isOwn_m (hTb : aTb zSh rx_tb cl) {D : Nat} (hD : 1 ≤ D) : ∀ as st (Q Q' : zQ), (∀ r st', Q r st' → Q' r st') → k_isOwn 185 as st Q → cl D 185 as st Q' := by
  intro as st Q Q' hQ h
  unfold k_isOwn at h
  split at h
  · obtain ⟨rfl, h⟩ := h
    exact c_isOwn hTb hD (ct_isOwn_m hQ h)
  · exact h.elim
set_option maxRecDepth 100000 in
theorem c_manyOf (hTb : aTb zSh rx_tb cl) {D : Nat} (hD : 1 ≤ D) {b k : Int} {st : zS} {Q : zQ} (h : ct_manyOf b k st Q) : cl D 55 [.inr (.inr (.inl 170)), .inl b, .inl k] st Q := by
  obtain ⟨d, rfl⟩ : ∃ d, D = d + 1 := ⟨D - 1, by omega⟩
  refine hTb d 55 (rx_m55, 3, 0, 0, 1) rfl _ _ _ (Nat.le_of_ble_eq_true rfl) (fun K hcl hsf hsl => ?_)
  have hcm : zmo (zno) (cl d) := zno_m
  obtain ⟨hR, hQ⟩ := h
  have hr0 := hR
  change 0 ≤ b ∧ b ≤ 1 at hr0
  refine yr1_ok (Rt := Q) (wc := (zno)) (stp := []) hcm hcl [] 32 ?_
  show ((¬ k = (0 : Int) → ((0 ≤ b ∧ b < 2) ∧ Q (some (.inl (st 181 (b : Int).toNat))) st)) ∧ (¬ (¬ k = (0 : Int)) → ((0 ≤ b ∧ b < 2) ∧ Q (some (.inl (st 172 (b : Int).toNat))) st)))
  refine ⟨fun h1 => ?_, fun h1 => ?_⟩
  · refine ⟨by omega, ?_⟩
    exact hQ _ (show (k = 0 → (st 181 (b : Int).toNat) = st 172 (b : Int).toNat) ∧ (¬ k = 0 → (st 181 (b : Int).toNat) = st 181 (b : Int).toNat) from by omega)
  · refine ⟨by omega, ?_⟩
    exact hQ _ (show (k = 0 → (st 172 (b : Int).toNat) = st 172 (b : Int).toNat) ∧ (¬ k = 0 → (st 172 (b : Int).toNat) = st 181 (b : Int).toNat) from by omega)
theorem k_manyOf_m (hTb : aTb zSh rx_tb cl) {D : Nat} (hD : 1 ≤ D) : ∀ as st (Q Q' : zQ), (∀ r st', Q r st' → Q' r st') → k_manyOf 55 as st Q → cl D 55 as st Q' := by
  intro as st Q Q' hQ h
  unfold k_manyOf at h
  split at h
  · obtain ⟨rfl, h⟩ := h
    exact c_manyOf hTb hD (ct_manyOf_m hQ h)
  · exact h.elim
set_option maxRecDepth 100000 in
theorem c_nameOf (hTb : aTb zSh rx_tb cl) {D : Nat} (hD : 1 ≤ D) {b k i : Int} {st : zS} {Q : zQ} (h : ct_nameOf b k i st Q) : cl D 186 [.inr (.inr (.inl 170)), .inl b, .inl k, .inl i] st Q := by
  obtain ⟨d, rfl⟩ : ∃ d, D = d + 1 := ⟨D - 1, by omega⟩
  refine hTb d 186 (rx_m186, 4, 0, 0, 5) rfl _ _ _ (Nat.le_of_ble_eq_true rfl) (fun K hcl hsf hsl => ?_)
  have hcm : zmo (zno) (cl d) := zno_m
  obtain ⟨hR, hQ⟩ := h
  have hr0 := hR
  change 0 ≤ b ∧ b ≤ 1 ∧ 0 ≤ i ∧ i < 8 at hr0
  refine yr1_ok (Rt := Q) (wc := (zno)) (stp := []) hcm hcl [] 40 ?_
  show ((¬ k = (0 : Int) → ((-2147483648 ≤ (8 : Int) * b ∧ (8 : Int) * b ≤ 2147483647) ∧ ((-2147483648 ≤ ((8 : Int) * b) + i ∧ ((8 : Int) * b) + i ≤ 2147483647) ∧ ((0 ≤ ((8 : Int) * b) + i ∧ ((8 : Int) * b) + i < 16) ∧ Q (some (.inr (.inl (st 191 (((8 : Int) * b) + i : Int).toNat)))) st)))) ∧ (¬ (¬ k = (0 : Int)) → ((-2147483648 ≤ (8 : Int) * b ∧ (8 : Int) * b ≤ 2147483647) ∧ ((-2147483648 ≤ ((8 : Int) * b) + i ∧ ((8 : Int) * b) + i ≤ 2147483647) ∧ ((0 ≤ ((8 : Int) * b) + i ∧ ((8 : Int) * b) + i < 16) ∧ Q (some (.inr (.inl (st 190 (((8 : Int) * b) + i : Int).toNat)))) st)))))
  refine ⟨fun h1 => ?_, fun h1 => ?_⟩
  · refine ⟨by omega, ?_⟩
    refine ⟨by omega, ?_⟩
    refine ⟨by omega, ?_⟩
    exact hQ _
  · refine ⟨by omega, ?_⟩
    refine ⟨by omega, ?_⟩
    refine ⟨by omega, ?_⟩
    exact hQ _
theorem k_nameOf_m (hTb : aTb zSh rx_tb cl) {D : Nat} (hD : 1 ≤ D) : ∀ as st (Q Q' : zQ), (∀ r st', Q r st' → Q' r st') → k_nameOf 186 as st Q → cl D 186 as st Q' := by
  intro as st Q Q' hQ h
  unfold k_nameOf at h
  split at h
  · obtain ⟨rfl, h⟩ := h
    exact c_nameOf hTb hD (ct_nameOf_m hQ h)
  · exact h.elim
set_option maxRecDepth 100000 in
theorem c_named (hTb : aTb zSh rx_tb cl) {D : Nat} (hD : 2 ≤ D) {k w : Int} {st : zS} {Q : zQ} (h : ct_named k w st Q) : cl D 187 [.inr (.inr (.inl 170)), .inl k, .inr (.inl w)] st Q := by
  obtain ⟨d, rfl⟩ : ∃ d, D = d + 1 := ⟨D - 1, by omega⟩
  refine hTb d 187 (rx_m187, 5, 0, 0, 1) rfl _ _ _ (Nat.le_of_ble_eq_true rfl) (fun K hcl hsf hsl => ?_)
  have hcm : zmo (wcL [(55, k_manyOf), (186, k_nameOf)]) (cl d) := (wcL_m (wm_cons (k_manyOf_m hTb (by omega)) (wm_cons (k_nameOf_m hTb (by omega)) wm_nil)))
  obtain ⟨hR, hQ⟩ := h
  have hG := hR
  have lp : ∀ (u : Nat) (i : Int), (0 ≤ i ∧ i ≤ 8) → (8 - i).toNat = u → K (rx_find rx_m187 3) [(0, .inr (.inr (.inl 170))), (1, .inl k), (2, .inr (.inl w)), (4, .inl i)] [] st := by
    intro u
    induction u using Nat.strongRecOn with
    | _ u ih =>
      intro i hi hu
      have b_lp := hi
      have g1 := g_in hG
      have g2 := g_places hG (st 170 35 : Int).toNat
      have g3 := g_things hG (st 170 35 : Int).toNat
      refine yr1_ok (Rt := Q) (wc := (wcL [(55, k_manyOf), (186, k_nameOf)])) (stp := [3]) hcm hcl [] 44 ?_
      show (170 = 170 ∧ (rq_manyOf (st 170 35) k st ∧ (∀ (r4 : Int), en_manyOf (st 170 35) k st r4 → ((r4 ≤ i → Q (some (.inl (-1))) st) ∧ (¬ (r4 ≤ i) → (170 = 170 ∧ (rq_nameOf (st 170 35) k i st ∧ (∀ (r5 : Int), (∀ (w6 : Int), (r5 < w ∧ w6 = -1 ∨ r5 = w ∧ w6 = 0 ∨ w < r5 ∧ w6 = 1) → ((¬ w6 = (0 : Int) → ((-2147483648 ≤ i + 1 ∧ i + 1 ≤ 2147483647) ∧ K (rx_find rx_m187 3) [(4, .inl (i + 1)), (0, .inr (.inr (.inl 170))), (1, .inl k), (2, .inr (.inl w))] [] st)) ∧ (¬ (¬ w6 = (0 : Int)) → Q (some (.inl i)) st)))))))))))
      refine ⟨rfl, (show 0 ≤ (st 170 35) ∧ (st 170 35) ≤ 1 from by omega), fun r4 q4 => ?_⟩
      have b4 := q4
      change (k = 0 → r4 = st 172 ((st 170 35) : Int).toNat) ∧ (¬ k = 0 → r4 = st 181 ((st 170 35) : Int).toNat) at b4
      have g7 := g_places hG ((st 170 35) : Int).toNat
      have g8 := g_things hG ((st 170 35) : Int).toNat
      refine ⟨fun h9 => ?_, fun h9 => ?_⟩
      · exact hQ _ (show -1 ≤ ((-1) : Int) ∧ ((-1) : Int) < 8 ∧ (k = 0 → ((-1) : Int) < st 172 (st 170 35 : Int).toNat) from by omega)
      · refine ⟨rfl, (show 0 ≤ (st 170 35) ∧ (st 170 35) ≤ 1 ∧ 0 ≤ i ∧ i < 8 from by omega), fun r5 => ?_⟩
        intro w6 hw6
        refine ⟨fun h10 => ?_, fun h10 => ?_⟩
        · refine ⟨by omega, ?_⟩
          exact hsl _ _ _ _ _ (sb_cons (.tail _ (.head _)) (sb_cons (.tail _ (.tail _ (.head _))) (sb_cons (.tail _ (.tail _ (.tail _ (.head _)))) (sb_cons (.head _) sb_nil)))) (ih _ (by omega) (i + 1) (show 0 ≤ (i + 1) ∧ (i + 1) ≤ 8 from by omega) rfl)
        · exact hQ _ (show -1 ≤ i ∧ i < 8 ∧ (k = 0 → i < st 172 (st 170 35 : Int).toNat) from by omega)
  refine yr1_ok (Rt := Q) (wc := (wcL [(55, k_manyOf), (186, k_nameOf)])) (stp := [3]) hcm hcl [] 44 ?_
  show K (rx_find rx_m187 3) [(4, .inl 0), (0, .inr (.inr (.inl 170))), (1, .inl k), (2, .inr (.inl w))] [] st
  exact hsl _ _ _ _ _ (sb_cons (.tail _ (.head _)) (sb_cons (.tail _ (.tail _ (.head _))) (sb_cons (.tail _ (.tail _ (.tail _ (.head _)))) (sb_cons (.head _) sb_nil)))) (lp _ 0 (show 0 ≤ (0 : Int) ∧ (0 : Int) ≤ 8 from by omega) rfl)
theorem k_named_m (hTb : aTb zSh rx_tb cl) {D : Nat} (hD : 2 ≤ D) : ∀ as st (Q Q' : zQ), (∀ r st', Q r st' → Q' r st') → k_named 187 as st Q → cl D 187 as st Q' := by
  intro as st Q Q' hQ h
  unfold k_named at h
  split at h
  · obtain ⟨rfl, h⟩ := h
    exact c_named hTb hD (ct_named_m hQ h)
  · exact h.elim
set_option maxRecDepth 100000 in
theorem c_mustI (hTb : aTb zSh rx_tb cl) {D : Nat} (hD : 3 ≤ D) {c : Int} {st : zS} {Q : zQ} (h : ct_mustI c st Q) : cl D 184 [.inr (.inr (.inl 170)), .inl c] st Q := by
  obtain ⟨d, rfl⟩ : ∃ d, D = d + 1 := ⟨D - 1, by omega⟩
  refine hTb d 184 (rx_m184, 2, 0, 0, 0) rfl _ _ _ (Nat.le_of_ble_eq_true rfl) (fun K hcl hsf hsl => ?_)
  have hcm : zmo (wcL [(181, k_lex), (182, k_isSign), (178, k_blame), (149, k_ahead)]) (cl d) := (wcL_m (wm_cons (k_lex_m hTb (by omega)) (wm_cons (k_isSign_m hTb (by omega)) (wm_cons (k_blame_m hTb (by omega)) (wm_cons (k_ahead_m hTb (by omega)) wm_nil)))))
  obtain ⟨hR, hQ⟩ := h
  obtain ⟨hG, lx⟩ := hR
  change st 170 4 ≤ st 170 5 ∧ st 170 5 ≤ st 170 2 ∧ (st 170 3 = 0 ∧ st 170 4 = st 170 2 ∨ 1 ≤ st 170 3 ∧ st 170 4 < st 170 5) at lx
  have g1 := g_signAt hG
  have g2 := g_signEnd hG
  have g3 := g_size hG
  have g4 := g_sign hG
  refine yr1_ok (Rt := Q) (wc := (wcL [(181, k_lex), (182, k_isSign), (178, k_blame), (149, k_ahead)])) (stp := []) hcm hcl [] 37 ?_
  show (170 = 170 ∧ (rq_lex  st ∧ (∀ (s5 : zS), en_lex  st s5 → (170 = 170 ∧ (∀ (r6 : Int), en_isSign c s5 r6 → ((¬ r6 = (0 : Int) → ((¬ s5 170 8 = (0 : Int) → Q none s5) ∧ (¬ (¬ s5 170 8 = (0 : Int)) → (170 = 170 ∧ (rq_ahead  s5 ∧ (∀ (s7 : zS), en_ahead  s5 s7 → Q none s7)))))) ∧ (¬ (¬ r6 = (0 : Int)) → (170 = 170 ∧ (rq_blame (1) (s5 170 4) s5 ∧ (∀ (s8 : zS), en_blame (1) (s5 170 4) s5 s8 → ((¬ s8 170 8 = (0 : Int) → Q none s8) ∧ (¬ (¬ s8 170 8 = (0 : Int)) → (170 = 170 ∧ (rq_ahead  s8 ∧ (∀ (s9 : zS), en_ahead  s8 s9 → Q none s9)))))))))))))))
  refine ⟨rfl, hG, fun s5 q5 => ?_⟩
  obtain ⟨gs5, fs5, p5⟩ := q5
  change 0 < st 170 8 → 0 < s5 170 8 at p5
  have g10 := g_faultKind hG
  have g11 := g_faultKind gs5
  refine ⟨rfl, fun r6 q6 => ?_⟩
  have b6 := q6
  change (r6 = 0 ∨ r6 = 1) ∧ (r6 = 1 ↔ s5 170 3 = 3 ∧ s5 170 6 = c) at b6
  have e12 : s5 170 3 = st 170 3 := fs5 170 3 rfl rfl
  have g14 := g_value hG
  have e13 : s5 170 6 = st 170 6 := fs5 170 6 rfl rfl
  refine ⟨fun h15 => ?_, fun h15 => ?_⟩
  · refine ⟨fun h16 => ?_, fun h16 => ?_⟩
    · have e17 : s5 170 4 = st 170 4 := fs5 170 4 rfl rfl
      have e18 : s5 170 5 = st 170 5 := fs5 170 5 rfl rfl
      have e19 : s5 170 2 = st 170 2 := fs5 170 2 rfl rfl
      exact hQ _ ⟨gs5, (fr_tr (fr_rf _ _) fs5 rfl), (show s5 170 4 ≤ s5 170 5 ∧ s5 170 5 ≤ s5 170 2 ∧ (s5 170 3 = 0 ∧ s5 170 4 = s5 170 2 ∨ 1 ≤ s5 170 3 ∧ s5 170 4 < s5 170 5) ∧ st 170 4 ≤ s5 170 4 ∧ (s5 170 8 = 0 → st 170 8 = 0 ∧ st 170 5 ≤ s5 170 4 ∧ 1 ≤ st 170 3) from by omega)⟩
    · have e20 : s5 170 5 = st 170 5 := fs5 170 5 rfl rfl
      have e21 : s5 170 2 = st 170 2 := fs5 170 2 rfl rfl
      refine ⟨rfl, ⟨gs5, (show s5 170 5 ≤ s5 170 2 from by omega)⟩, fun s7 q7 => ?_⟩
      obtain ⟨gs7, fs7, p7⟩ := q7
      change s7 170 4 ≤ s7 170 5 ∧ s7 170 5 ≤ s7 170 2 ∧ (s7 170 3 = 0 ∧ s7 170 4 = s7 170 2 ∨ 1 ≤ s7 170 3 ∧ s7 170 4 < s7 170 5) ∧ s5 170 5 ≤ s7 170 4 at p7
      have g22 := g_signAt gs7
      have g23 := g_signEnd gs7
      have e24 : s7 170 2 = s5 170 2 := fs7 170 2 rfl rfl
      have g25 := g_sign gs7
      have e26 : s7 170 8 = s5 170 8 := fs7 170 8 rfl rfl
      exact hQ _ ⟨gs7, (fr_tr (fr_tr (fr_rf _ _) fs5 rfl) fs7 rfl), (show s7 170 4 ≤ s7 170 5 ∧ s7 170 5 ≤ s7 170 2 ∧ (s7 170 3 = 0 ∧ s7 170 4 = s7 170 2 ∨ 1 ≤ s7 170 3 ∧ s7 170 4 < s7 170 5) ∧ st 170 4 ≤ s7 170 4 ∧ (s7 170 8 = 0 → st 170 8 = 0 ∧ st 170 5 ≤ s7 170 4 ∧ 1 ≤ st 170 3) from by omega)⟩
  · have e27 : s5 170 4 = st 170 4 := fs5 170 4 rfl rfl
    refine ⟨rfl, ⟨gs5, (show 1 ≤ (1) ∧ (1) ≤ 6 from by omega), (show -2147483648 ≤ (s5 170 4) ∧ (s5 170 4) ≤ 2147483647 from by omega)⟩, fun s8 q8 => ?_⟩
    obtain ⟨gs8, fs8, p8⟩ := q8
    change (s5 170 8 = 0 → s8 170 8 = (1)) ∧ (0 < s5 170 8 → s8 170 8 = s5 170 8) at p8
    have g28 := g_faultKind gs8
    refine ⟨fun h29 => ?_, fun h29 => ?_⟩
    · have e30 : s8 170 4 = s5 170 4 := fs8 170 4 rfl rfl
      have e32 : s5 170 5 = st 170 5 := fs5 170 5 rfl rfl
      have e31 : s8 170 5 = s5 170 5 := fs8 170 5 rfl rfl
      have e34 : s5 170 2 = st 170 2 := fs5 170 2 rfl rfl
      have e33 : s8 170 2 = s5 170 2 := fs8 170 2 rfl rfl
      have e35 : s8 170 3 = s5 170 3 := fs8 170 3 rfl rfl
      exact hQ _ ⟨gs8, (fr_tr (fr_tr (fr_rf _ _) fs5 rfl) fs8 rfl), (show s8 170 4 ≤ s8 170 5 ∧ s8 170 5 ≤ s8 170 2 ∧ (s8 170 3 = 0 ∧ s8 170 4 = s8 170 2 ∨ 1 ≤ s8 170 3 ∧ s8 170 4 < s8 170 5) ∧ st 170 4 ≤ s8 170 4 ∧ (s8 170 8 = 0 → st 170 8 = 0 ∧ st 170 5 ≤ s8 170 4 ∧ 1 ≤ st 170 3) from by omega)⟩
    · have e37 : s5 170 5 = st 170 5 := fs5 170 5 rfl rfl
      have e36 : s8 170 5 = s5 170 5 := fs8 170 5 rfl rfl
      have e39 : s5 170 2 = st 170 2 := fs5 170 2 rfl rfl
      have e38 : s8 170 2 = s5 170 2 := fs8 170 2 rfl rfl
      refine ⟨rfl, ⟨gs8, (show s8 170 5 ≤ s8 170 2 from by omega)⟩, fun s9 q9 => ?_⟩
      obtain ⟨gs9, fs9, p9⟩ := q9
      change s9 170 4 ≤ s9 170 5 ∧ s9 170 5 ≤ s9 170 2 ∧ (s9 170 3 = 0 ∧ s9 170 4 = s9 170 2 ∨ 1 ≤ s9 170 3 ∧ s9 170 4 < s9 170 5) ∧ s8 170 5 ≤ s9 170 4 at p9
      have g40 := g_signAt gs9
      have g41 := g_signEnd gs9
      have e42 : s9 170 2 = s8 170 2 := fs9 170 2 rfl rfl
      have g43 := g_sign gs9
      have e44 : s9 170 8 = s8 170 8 := fs9 170 8 rfl rfl
      exact hQ _ ⟨gs9, (fr_tr (fr_tr (fr_tr (fr_rf _ _) fs5 rfl) fs8 rfl) fs9 rfl), (show s9 170 4 ≤ s9 170 5 ∧ s9 170 5 ≤ s9 170 2 ∧ (s9 170 3 = 0 ∧ s9 170 4 = s9 170 2 ∨ 1 ≤ s9 170 3 ∧ s9 170 4 < s9 170 5) ∧ st 170 4 ≤ s9 170 4 ∧ (s9 170 8 = 0 → st 170 8 = 0 ∧ st 170 5 ≤ s9 170 4 ∧ 1 ≤ st 170 3) from by omega)⟩
theorem k_mustI_m (hTb : aTb zSh rx_tb cl) {D : Nat} (hD : 3 ≤ D) : ∀ as st (Q Q' : zQ), (∀ r st', Q r st' → Q' r st') → k_mustI 184 as st Q → cl D 184 as st Q' := by
  intro as st Q Q' hQ h
  unfold k_mustI at h
  split at h
  · obtain ⟨rfl, h⟩ := h
    exact c_mustI hTb hD (ct_mustI_m hQ h)
  · exact h.elim
set_option maxRecDepth 100000 in
theorem c_mustJ (hTb : aTb zSh rx_tb cl) {D : Nat} (hD : 3 ≤ D) {w : Int} {st : zS} {Q : zQ} (h : ct_mustJ w st Q) : cl D 200 [.inr (.inr (.inl 170)), .inr (.inl w)] st Q := by
  obtain ⟨d, rfl⟩ : ∃ d, D = d + 1 := ⟨D - 1, by omega⟩
  refine hTb d 200 (rx_m200, 3, 0, 0, 0) rfl _ _ _ (Nat.le_of_ble_eq_true rfl) (fun K hcl hsf hsl => ?_)
  have hcm : zmo (wcL [(181, k_lex), (183, k_isWord), (178, k_blame), (149, k_ahead)]) (cl d) := (wcL_m (wm_cons (k_lex_m hTb (by omega)) (wm_cons (k_isWord_m hTb (by omega)) (wm_cons (k_blame_m hTb (by omega)) (wm_cons (k_ahead_m hTb (by omega)) wm_nil)))))
  obtain ⟨hR, hQ⟩ := h
  obtain ⟨hG, lx⟩ := hR
  change st 170 4 ≤ st 170 5 ∧ st 170 5 ≤ st 170 2 ∧ (st 170 3 = 0 ∧ st 170 4 = st 170 2 ∨ 1 ≤ st 170 3 ∧ st 170 4 < st 170 5) at lx
  have g1 := g_signAt hG
  have g2 := g_signEnd hG
  have g3 := g_size hG
  have g4 := g_sign hG
  refine yr1_ok (Rt := Q) (wc := (wcL [(181, k_lex), (183, k_isWord), (178, k_blame), (149, k_ahead)])) (stp := []) hcm hcl [] 41 ?_
  show (170 = 170 ∧ (rq_lex  st ∧ (∀ (s5 : zS), en_lex  st s5 → ((s5 170 8 ≤ (0 : Int) → (170 = 170 ∧ (∀ (r6 : Int), en_isWord w s5 r6 → ((¬ r6 = (0 : Int) → ((¬ s5 170 8 = (0 : Int) → Q none s5) ∧ (¬ (¬ s5 170 8 = (0 : Int)) → (170 = 170 ∧ (rq_ahead  s5 ∧ (∀ (s7 : zS), en_ahead  s5 s7 → Q none s7)))))) ∧ (¬ (¬ r6 = (0 : Int)) → (170 = 170 ∧ (rq_blame (1) (s5 170 4) s5 ∧ (∀ (s8 : zS), en_blame (1) (s5 170 4) s5 s8 → ((¬ s8 170 8 = (0 : Int) → Q none s8) ∧ (¬ (¬ s8 170 8 = (0 : Int)) → (170 = 170 ∧ (rq_ahead  s8 ∧ (∀ (s9 : zS), en_ahead  s8 s9 → Q none s9))))))))))))) ∧ (¬ (s5 170 8 ≤ (0 : Int)) → Q none s5)))))
  refine ⟨rfl, hG, fun s5 q5 => ?_⟩
  obtain ⟨gs5, fs5, p5⟩ := q5
  change 0 < st 170 8 → 0 < s5 170 8 at p5
  have g10 := g_faultKind hG
  have g11 := g_faultKind gs5
  refine ⟨fun h12 => ?_, fun h12 => ?_⟩
  · refine ⟨rfl, fun r6 q6 => ?_⟩
    have b6 := q6
    change (r6 = 0 ∨ r6 = 1) ∧ (r6 = 1 ↔ s5 170 3 = 1 ∧ s5 170 7 = w) at b6
    have e13 : s5 170 3 = st 170 3 := fs5 170 3 rfl rfl
    have g15 := g_word hG
    have e14 : s5 170 7 = st 170 7 := fs5 170 7 rfl rfl
    refine ⟨fun h16 => ?_, fun h16 => ?_⟩
    · refine ⟨fun h17 => ?_, fun h17 => ?_⟩
      · have e18 : s5 170 4 = st 170 4 := fs5 170 4 rfl rfl
        have e19 : s5 170 5 = st 170 5 := fs5 170 5 rfl rfl
        have e20 : s5 170 2 = st 170 2 := fs5 170 2 rfl rfl
        exact hQ _ ⟨gs5, (fr_tr (fr_rf _ _) fs5 rfl), (show s5 170 4 ≤ s5 170 5 ∧ s5 170 5 ≤ s5 170 2 ∧ (s5 170 3 = 0 ∧ s5 170 4 = s5 170 2 ∨ 1 ≤ s5 170 3 ∧ s5 170 4 < s5 170 5) ∧ st 170 4 ≤ s5 170 4 ∧ (s5 170 8 = 0 → st 170 8 = 0 ∧ st 170 5 ≤ s5 170 4 ∧ 1 ≤ st 170 3) from by omega)⟩
      · have e21 : s5 170 5 = st 170 5 := fs5 170 5 rfl rfl
        have e22 : s5 170 2 = st 170 2 := fs5 170 2 rfl rfl
        refine ⟨rfl, ⟨gs5, (show s5 170 5 ≤ s5 170 2 from by omega)⟩, fun s7 q7 => ?_⟩
        obtain ⟨gs7, fs7, p7⟩ := q7
        change s7 170 4 ≤ s7 170 5 ∧ s7 170 5 ≤ s7 170 2 ∧ (s7 170 3 = 0 ∧ s7 170 4 = s7 170 2 ∨ 1 ≤ s7 170 3 ∧ s7 170 4 < s7 170 5) ∧ s5 170 5 ≤ s7 170 4 at p7
        have g23 := g_signAt gs7
        have g24 := g_signEnd gs7
        have e25 : s7 170 2 = s5 170 2 := fs7 170 2 rfl rfl
        have g26 := g_sign gs7
        have e27 : s7 170 8 = s5 170 8 := fs7 170 8 rfl rfl
        exact hQ _ ⟨gs7, (fr_tr (fr_tr (fr_rf _ _) fs5 rfl) fs7 rfl), (show s7 170 4 ≤ s7 170 5 ∧ s7 170 5 ≤ s7 170 2 ∧ (s7 170 3 = 0 ∧ s7 170 4 = s7 170 2 ∨ 1 ≤ s7 170 3 ∧ s7 170 4 < s7 170 5) ∧ st 170 4 ≤ s7 170 4 ∧ (s7 170 8 = 0 → st 170 8 = 0 ∧ st 170 5 ≤ s7 170 4 ∧ 1 ≤ st 170 3) from by omega)⟩
    · have e28 : s5 170 4 = st 170 4 := fs5 170 4 rfl rfl
      refine ⟨rfl, ⟨gs5, (show 1 ≤ (1) ∧ (1) ≤ 6 from by omega), (show -2147483648 ≤ (s5 170 4) ∧ (s5 170 4) ≤ 2147483647 from by omega)⟩, fun s8 q8 => ?_⟩
      obtain ⟨gs8, fs8, p8⟩ := q8
      change (s5 170 8 = 0 → s8 170 8 = (1)) ∧ (0 < s5 170 8 → s8 170 8 = s5 170 8) at p8
      have g29 := g_faultKind gs8
      refine ⟨fun h30 => ?_, fun h30 => ?_⟩
      · have e31 : s8 170 4 = s5 170 4 := fs8 170 4 rfl rfl
        have e33 : s5 170 5 = st 170 5 := fs5 170 5 rfl rfl
        have e32 : s8 170 5 = s5 170 5 := fs8 170 5 rfl rfl
        have e35 : s5 170 2 = st 170 2 := fs5 170 2 rfl rfl
        have e34 : s8 170 2 = s5 170 2 := fs8 170 2 rfl rfl
        have e36 : s8 170 3 = s5 170 3 := fs8 170 3 rfl rfl
        exact hQ _ ⟨gs8, (fr_tr (fr_tr (fr_rf _ _) fs5 rfl) fs8 rfl), (show s8 170 4 ≤ s8 170 5 ∧ s8 170 5 ≤ s8 170 2 ∧ (s8 170 3 = 0 ∧ s8 170 4 = s8 170 2 ∨ 1 ≤ s8 170 3 ∧ s8 170 4 < s8 170 5) ∧ st 170 4 ≤ s8 170 4 ∧ (s8 170 8 = 0 → st 170 8 = 0 ∧ st 170 5 ≤ s8 170 4 ∧ 1 ≤ st 170 3) from by omega)⟩
      · have e38 : s5 170 5 = st 170 5 := fs5 170 5 rfl rfl
        have e37 : s8 170 5 = s5 170 5 := fs8 170 5 rfl rfl
        have e40 : s5 170 2 = st 170 2 := fs5 170 2 rfl rfl
        have e39 : s8 170 2 = s5 170 2 := fs8 170 2 rfl rfl
        refine ⟨rfl, ⟨gs8, (show s8 170 5 ≤ s8 170 2 from by omega)⟩, fun s9 q9 => ?_⟩
        obtain ⟨gs9, fs9, p9⟩ := q9
        change s9 170 4 ≤ s9 170 5 ∧ s9 170 5 ≤ s9 170 2 ∧ (s9 170 3 = 0 ∧ s9 170 4 = s9 170 2 ∨ 1 ≤ s9 170 3 ∧ s9 170 4 < s9 170 5) ∧ s8 170 5 ≤ s9 170 4 at p9
        have g41 := g_signAt gs9
        have g42 := g_signEnd gs9
        have e43 : s9 170 2 = s8 170 2 := fs9 170 2 rfl rfl
        have g44 := g_sign gs9
        have e45 : s9 170 8 = s8 170 8 := fs9 170 8 rfl rfl
        exact hQ _ ⟨gs9, (fr_tr (fr_tr (fr_tr (fr_rf _ _) fs5 rfl) fs8 rfl) fs9 rfl), (show s9 170 4 ≤ s9 170 5 ∧ s9 170 5 ≤ s9 170 2 ∧ (s9 170 3 = 0 ∧ s9 170 4 = s9 170 2 ∨ 1 ≤ s9 170 3 ∧ s9 170 4 < s9 170 5) ∧ st 170 4 ≤ s9 170 4 ∧ (s9 170 8 = 0 → st 170 8 = 0 ∧ st 170 5 ≤ s9 170 4 ∧ 1 ≤ st 170 3) from by omega)⟩
  · have e46 : s5 170 4 = st 170 4 := fs5 170 4 rfl rfl
    have e47 : s5 170 5 = st 170 5 := fs5 170 5 rfl rfl
    have e48 : s5 170 2 = st 170 2 := fs5 170 2 rfl rfl
    have e49 : s5 170 3 = st 170 3 := fs5 170 3 rfl rfl
    exact hQ _ ⟨gs5, (fr_tr (fr_rf _ _) fs5 rfl), (show s5 170 4 ≤ s5 170 5 ∧ s5 170 5 ≤ s5 170 2 ∧ (s5 170 3 = 0 ∧ s5 170 4 = s5 170 2 ∨ 1 ≤ s5 170 3 ∧ s5 170 4 < s5 170 5) ∧ st 170 4 ≤ s5 170 4 ∧ (s5 170 8 = 0 → st 170 8 = 0 ∧ st 170 5 ≤ s5 170 4 ∧ 1 ≤ st 170 3) from by omega)⟩
theorem k_mustJ_m (hTb : aTb zSh rx_tb cl) {D : Nat} (hD : 3 ≤ D) : ∀ as st (Q Q' : zQ), (∀ r st', Q r st' → Q' r st') → k_mustJ 200 as st Q → cl D 200 as st Q' := by
  intro as st Q Q' hQ h
  unfold k_mustJ at h
  split at h
  · obtain ⟨rfl, h⟩ := h
    exact c_mustJ hTb hD (ct_mustJ_m hQ h)
  · exact h.elim
set_option maxRecDepth 100000 in
theorem c_number (hTb : aTb zSh rx_tb cl) {D : Nat} (hD : 3 ≤ D) {a b : Int} {st : zS} {Q : zQ} (h : ct_number a b st Q) : cl D 188 [.inr (.inr (.inl 170)), .inl a, .inl b] st Q := by
  obtain ⟨d, rfl⟩ : ∃ d, D = d + 1 := ⟨D - 1, by omega⟩
  refine hTb d 188 (rx_m188, 4, 0, 0, 1) rfl _ _ _ (Nat.le_of_ble_eq_true rfl) (fun K hcl hsf hsl => ?_)
  have hcm : zmo (wcL [(181, k_lex), (178, k_blame), (8, k_is), (149, k_ahead)]) (cl d) := (wcL_m (wm_cons (k_lex_m hTb (by omega)) (wm_cons (k_blame_m hTb (by omega)) (wm_cons (k_is_m hTb (by omega)) (wm_cons (k_ahead_m hTb (by omega)) wm_nil)))))
  obtain ⟨hR, hQ⟩ := h
  obtain ⟨hG, lx⟩ := hR
  change st 170 4 ≤ st 170 5 ∧ st 170 5 ≤ st 170 2 ∧ (st 170 3 = 0 ∧ st 170 4 = st 170 2 ∨ 1 ≤ st 170 3 ∧ st 170 4 < st 170 5) at lx
  have g1 := g_signAt hG
  have g2 := g_signEnd hG
  have g3 := g_size hG
  have g4 := g_sign hG
  refine yr1_ok (Rt := Q) (wc := (wcL [(181, k_lex), (178, k_blame), (8, k_is), (149, k_ahead)])) (stp := []) hcm hcl [] 60 ?_
  show (170 = 170 ∧ (rq_lex  st ∧ (∀ (s5 : zS), en_lex  st s5 → ((s5 170 8 ≤ (0 : Int) → ((s5 170 3 = (2 : Int) → ((¬ s5 170 8 = (0 : Int) → ((¬ s5 170 8 = (0 : Int) → Q (some (.inl (s5 170 6))) s5) ∧ (¬ (¬ s5 170 8 = (0 : Int)) → (170 = 170 ∧ (rq_ahead  s5 ∧ (∀ (s6 : zS), en_ahead  s5 s6 → Q (some (.inl (s5 170 6))) s6)))))) ∧ (¬ (¬ s5 170 8 = (0 : Int)) → (∀ (r7 : Int), en_is (s5 170 6) a b s5 r7 → ((¬ r7 = (0 : Int) → ((¬ s5 170 8 = (0 : Int) → Q (some (.inl (s5 170 6))) s5) ∧ (¬ (¬ s5 170 8 = (0 : Int)) → (170 = 170 ∧ (rq_ahead  s5 ∧ (∀ (s8 : zS), en_ahead  s5 s8 → Q (some (.inl (s5 170 6))) s8)))))) ∧ (¬ (¬ r7 = (0 : Int)) → (170 = 170 ∧ (rq_blame (4) (s5 170 4) s5 ∧ (∀ (s9 : zS), en_blame (4) (s5 170 4) s5 s9 → ((¬ s9 170 8 = (0 : Int) → Q (some (.inl (s9 170 6))) s9) ∧ (¬ (¬ s9 170 8 = (0 : Int)) → (170 = 170 ∧ (rq_ahead  s9 ∧ (∀ (s10 : zS), en_ahead  s9 s10 → Q (some (.inl (s9 170 6))) s10)))))))))))))) ∧ (¬ (s5 170 3 = (2 : Int)) → (170 = 170 ∧ (rq_blame (1) (s5 170 4) s5 ∧ (∀ (s11 : zS), en_blame (1) (s5 170 4) s5 s11 → ((¬ s11 170 8 = (0 : Int) → ((¬ s11 170 8 = (0 : Int) → Q (some (.inl (s11 170 6))) s11) ∧ (¬ (¬ s11 170 8 = (0 : Int)) → (170 = 170 ∧ (rq_ahead  s11 ∧ (∀ (s12 : zS), en_ahead  s11 s12 → Q (some (.inl (s11 170 6))) s12)))))) ∧ (¬ (¬ s11 170 8 = (0 : Int)) → (∀ (r13 : Int), en_is (s11 170 6) a b s11 r13 → ((¬ r13 = (0 : Int) → ((¬ s11 170 8 = (0 : Int) → Q (some (.inl (s11 170 6))) s11) ∧ (¬ (¬ s11 170 8 = (0 : Int)) → (170 = 170 ∧ (rq_ahead  s11 ∧ (∀ (s14 : zS), en_ahead  s11 s14 → Q (some (.inl (s11 170 6))) s14)))))) ∧ (¬ (¬ r13 = (0 : Int)) → (170 = 170 ∧ (rq_blame (4) (s11 170 4) s11 ∧ (∀ (s15 : zS), en_blame (4) (s11 170 4) s11 s15 → ((¬ s15 170 8 = (0 : Int) → Q (some (.inl (s15 170 6))) s15) ∧ (¬ (¬ s15 170 8 = (0 : Int)) → (170 = 170 ∧ (rq_ahead  s15 ∧ (∀ (s16 : zS), en_ahead  s15 s16 → Q (some (.inl (s15 170 6))) s16))))))))))))))))))) ∧ (¬ (s5 170 8 ≤ (0 : Int)) → Q (some (.inl 0)) s5)))))
  refine ⟨rfl, hG, fun s5 q5 => ?_⟩
  obtain ⟨gs5, fs5, p5⟩ := q5
  change 0 < st 170 8 → 0 < s5 170 8 at p5
  have g17 := g_faultKind hG
  have g18 := g_faultKind gs5
  refine ⟨fun h19 => ?_, fun h19 => ?_⟩
  · have e20 : s5 170 3 = st 170 3 := fs5 170 3 rfl rfl
    refine ⟨fun h21 => ?_, fun h21 => ?_⟩
    · refine ⟨fun h22 => ?_, fun h22 => ?_⟩
      · have g24 := g_value hG
        have e23 : s5 170 6 = st 170 6 := fs5 170 6 rfl rfl
        refine ⟨fun h25 => ?_, fun h25 => ?_⟩
        · have e26 : s5 170 4 = st 170 4 := fs5 170 4 rfl rfl
          have e27 : s5 170 5 = st 170 5 := fs5 170 5 rfl rfl
          have e28 : s5 170 2 = st 170 2 := fs5 170 2 rfl rfl
          exact hQ _ _ ⟨gs5, (fr_tr (fr_rf _ _) fs5 rfl), (show s5 170 4 ≤ s5 170 5 ∧ s5 170 5 ≤ s5 170 2 ∧ (s5 170 3 = 0 ∧ s5 170 4 = s5 170 2 ∨ 1 ≤ s5 170 3 ∧ s5 170 4 < s5 170 5) ∧ st 170 4 ≤ s5 170 4 ∧ (s5 170 8 = 0 → st 170 8 = 0 ∧ st 170 5 ≤ s5 170 4 ∧ 1 ≤ st 170 3) from by omega), (show -2147483648 ≤ (s5 170 6) ∧ (s5 170 6) ≤ 2147483647 ∧ (s5 170 8 = 0 → a ≤ (s5 170 6) ∧ (s5 170 6) ≤ b) from by omega)⟩
        · have e29 : s5 170 5 = st 170 5 := fs5 170 5 rfl rfl
          have e30 : s5 170 2 = st 170 2 := fs5 170 2 rfl rfl
          refine ⟨rfl, ⟨gs5, (show s5 170 5 ≤ s5 170 2 from by omega)⟩, fun s6 q6 => ?_⟩
          obtain ⟨gs6, fs6, p6⟩ := q6
          change s6 170 4 ≤ s6 170 5 ∧ s6 170 5 ≤ s6 170 2 ∧ (s6 170 3 = 0 ∧ s6 170 4 = s6 170 2 ∨ 1 ≤ s6 170 3 ∧ s6 170 4 < s6 170 5) ∧ s5 170 5 ≤ s6 170 4 at p6
          have g31 := g_signAt gs6
          have g32 := g_signEnd gs6
          have e33 : s6 170 2 = s5 170 2 := fs6 170 2 rfl rfl
          have g34 := g_sign gs6
          have e35 : s6 170 8 = s5 170 8 := fs6 170 8 rfl rfl
          exact hQ _ _ ⟨gs6, (fr_tr (fr_tr (fr_rf _ _) fs5 rfl) fs6 rfl), (show s6 170 4 ≤ s6 170 5 ∧ s6 170 5 ≤ s6 170 2 ∧ (s6 170 3 = 0 ∧ s6 170 4 = s6 170 2 ∨ 1 ≤ s6 170 3 ∧ s6 170 4 < s6 170 5) ∧ st 170 4 ≤ s6 170 4 ∧ (s6 170 8 = 0 → st 170 8 = 0 ∧ st 170 5 ≤ s6 170 4 ∧ 1 ≤ st 170 3) from by omega), (show -2147483648 ≤ (s5 170 6) ∧ (s5 170 6) ≤ 2147483647 ∧ (s6 170 8 = 0 → a ≤ (s5 170 6) ∧ (s5 170 6) ≤ b) from by omega)⟩
      · have g37 := g_value hG
        have e36 : s5 170 6 = st 170 6 := fs5 170 6 rfl rfl
        refine fun r7 q7 => ?_
        have b7 := q7
        change (r7 = 0 ∨ r7 = 1) ∧ (r7 = 1 ↔ a ≤ (s5 170 6) ∧ (s5 170 6) ≤ b) at b7
        refine ⟨fun h38 => ?_, fun h38 => ?_⟩
        · refine ⟨fun h39 => ?_, fun h39 => ?_⟩
          · have e40 : s5 170 4 = st 170 4 := fs5 170 4 rfl rfl
            have e41 : s5 170 5 = st 170 5 := fs5 170 5 rfl rfl
            have e42 : s5 170 2 = st 170 2 := fs5 170 2 rfl rfl
            exact hQ _ _ ⟨gs5, (fr_tr (fr_rf _ _) fs5 rfl), (show s5 170 4 ≤ s5 170 5 ∧ s5 170 5 ≤ s5 170 2 ∧ (s5 170 3 = 0 ∧ s5 170 4 = s5 170 2 ∨ 1 ≤ s5 170 3 ∧ s5 170 4 < s5 170 5) ∧ st 170 4 ≤ s5 170 4 ∧ (s5 170 8 = 0 → st 170 8 = 0 ∧ st 170 5 ≤ s5 170 4 ∧ 1 ≤ st 170 3) from by omega), (show -2147483648 ≤ (s5 170 6) ∧ (s5 170 6) ≤ 2147483647 ∧ (s5 170 8 = 0 → a ≤ (s5 170 6) ∧ (s5 170 6) ≤ b) from by omega)⟩
          · have e43 : s5 170 5 = st 170 5 := fs5 170 5 rfl rfl
            have e44 : s5 170 2 = st 170 2 := fs5 170 2 rfl rfl
            refine ⟨rfl, ⟨gs5, (show s5 170 5 ≤ s5 170 2 from by omega)⟩, fun s8 q8 => ?_⟩
            obtain ⟨gs8, fs8, p8⟩ := q8
            change s8 170 4 ≤ s8 170 5 ∧ s8 170 5 ≤ s8 170 2 ∧ (s8 170 3 = 0 ∧ s8 170 4 = s8 170 2 ∨ 1 ≤ s8 170 3 ∧ s8 170 4 < s8 170 5) ∧ s5 170 5 ≤ s8 170 4 at p8
            have g45 := g_signAt gs8
            have g46 := g_signEnd gs8
            have e47 : s8 170 2 = s5 170 2 := fs8 170 2 rfl rfl
            have g48 := g_sign gs8
            have e49 : s8 170 8 = s5 170 8 := fs8 170 8 rfl rfl
            exact hQ _ _ ⟨gs8, (fr_tr (fr_tr (fr_rf _ _) fs5 rfl) fs8 rfl), (show s8 170 4 ≤ s8 170 5 ∧ s8 170 5 ≤ s8 170 2 ∧ (s8 170 3 = 0 ∧ s8 170 4 = s8 170 2 ∨ 1 ≤ s8 170 3 ∧ s8 170 4 < s8 170 5) ∧ st 170 4 ≤ s8 170 4 ∧ (s8 170 8 = 0 → st 170 8 = 0 ∧ st 170 5 ≤ s8 170 4 ∧ 1 ≤ st 170 3) from by omega), (show -2147483648 ≤ (s5 170 6) ∧ (s5 170 6) ≤ 2147483647 ∧ (s8 170 8 = 0 → a ≤ (s5 170 6) ∧ (s5 170 6) ≤ b) from by omega)⟩
        · have e50 : s5 170 4 = st 170 4 := fs5 170 4 rfl rfl
          refine ⟨rfl, ⟨gs5, (show 1 ≤ (4) ∧ (4) ≤ 6 from by omega), (show -2147483648 ≤ (s5 170 4) ∧ (s5 170 4) ≤ 2147483647 from by omega)⟩, fun s9 q9 => ?_⟩
          obtain ⟨gs9, fs9, p9⟩ := q9
          change (s5 170 8 = 0 → s9 170 8 = (4)) ∧ (0 < s5 170 8 → s9 170 8 = s5 170 8) at p9
          have g51 := g_faultKind gs9
          have e52 : s9 170 6 = s5 170 6 := fs9 170 6 rfl rfl
          refine ⟨fun h53 => ?_, fun h53 => ?_⟩
          · have e54 : s9 170 4 = s5 170 4 := fs9 170 4 rfl rfl
            have e56 : s5 170 5 = st 170 5 := fs5 170 5 rfl rfl
            have e55 : s9 170 5 = s5 170 5 := fs9 170 5 rfl rfl
            have e58 : s5 170 2 = st 170 2 := fs5 170 2 rfl rfl
            have e57 : s9 170 2 = s5 170 2 := fs9 170 2 rfl rfl
            have e59 : s9 170 3 = s5 170 3 := fs9 170 3 rfl rfl
            exact hQ _ _ ⟨gs9, (fr_tr (fr_tr (fr_rf _ _) fs5 rfl) fs9 rfl), (show s9 170 4 ≤ s9 170 5 ∧ s9 170 5 ≤ s9 170 2 ∧ (s9 170 3 = 0 ∧ s9 170 4 = s9 170 2 ∨ 1 ≤ s9 170 3 ∧ s9 170 4 < s9 170 5) ∧ st 170 4 ≤ s9 170 4 ∧ (s9 170 8 = 0 → st 170 8 = 0 ∧ st 170 5 ≤ s9 170 4 ∧ 1 ≤ st 170 3) from by omega), (show -2147483648 ≤ (s9 170 6) ∧ (s9 170 6) ≤ 2147483647 ∧ (s9 170 8 = 0 → a ≤ (s9 170 6) ∧ (s9 170 6) ≤ b) from by omega)⟩
          · have e61 : s5 170 5 = st 170 5 := fs5 170 5 rfl rfl
            have e60 : s9 170 5 = s5 170 5 := fs9 170 5 rfl rfl
            have e63 : s5 170 2 = st 170 2 := fs5 170 2 rfl rfl
            have e62 : s9 170 2 = s5 170 2 := fs9 170 2 rfl rfl
            refine ⟨rfl, ⟨gs9, (show s9 170 5 ≤ s9 170 2 from by omega)⟩, fun s10 q10 => ?_⟩
            obtain ⟨gs10, fs10, p10⟩ := q10
            change s10 170 4 ≤ s10 170 5 ∧ s10 170 5 ≤ s10 170 2 ∧ (s10 170 3 = 0 ∧ s10 170 4 = s10 170 2 ∨ 1 ≤ s10 170 3 ∧ s10 170 4 < s10 170 5) ∧ s9 170 5 ≤ s10 170 4 at p10
            have g64 := g_signAt gs10
            have g65 := g_signEnd gs10
            have e66 : s10 170 2 = s9 170 2 := fs10 170 2 rfl rfl
            have g67 := g_sign gs10
            have e68 : s10 170 8 = s9 170 8 := fs10 170 8 rfl rfl
            exact hQ _ _ ⟨gs10, (fr_tr (fr_tr (fr_tr (fr_rf _ _) fs5 rfl) fs9 rfl) fs10 rfl), (show s10 170 4 ≤ s10 170 5 ∧ s10 170 5 ≤ s10 170 2 ∧ (s10 170 3 = 0 ∧ s10 170 4 = s10 170 2 ∨ 1 ≤ s10 170 3 ∧ s10 170 4 < s10 170 5) ∧ st 170 4 ≤ s10 170 4 ∧ (s10 170 8 = 0 → st 170 8 = 0 ∧ st 170 5 ≤ s10 170 4 ∧ 1 ≤ st 170 3) from by omega), (show -2147483648 ≤ (s9 170 6) ∧ (s9 170 6) ≤ 2147483647 ∧ (s10 170 8 = 0 → a ≤ (s9 170 6) ∧ (s9 170 6) ≤ b) from by omega)⟩
    · have e69 : s5 170 4 = st 170 4 := fs5 170 4 rfl rfl
      refine ⟨rfl, ⟨gs5, (show 1 ≤ (1) ∧ (1) ≤ 6 from by omega), (show -2147483648 ≤ (s5 170 4) ∧ (s5 170 4) ≤ 2147483647 from by omega)⟩, fun s11 q11 => ?_⟩
      obtain ⟨gs11, fs11, p11⟩ := q11
      change (s5 170 8 = 0 → s11 170 8 = (1)) ∧ (0 < s5 170 8 → s11 170 8 = s5 170 8) at p11
      have g70 := g_faultKind gs11
      refine ⟨fun h71 => ?_, fun h71 => ?_⟩
      · have g74 := g_value hG
        have e73 : s5 170 6 = st 170 6 := fs5 170 6 rfl rfl
        have e72 : s11 170 6 = s5 170 6 := fs11 170 6 rfl rfl
        refine ⟨fun h75 => ?_, fun h75 => ?_⟩
        · have e76 : s11 170 4 = s5 170 4 := fs11 170 4 rfl rfl
          have e78 : s5 170 5 = st 170 5 := fs5 170 5 rfl rfl
          have e77 : s11 170 5 = s5 170 5 := fs11 170 5 rfl rfl
          have e80 : s5 170 2 = st 170 2 := fs5 170 2 rfl rfl
          have e79 : s11 170 2 = s5 170 2 := fs11 170 2 rfl rfl
          have e81 : s11 170 3 = s5 170 3 := fs11 170 3 rfl rfl
          exact hQ _ _ ⟨gs11, (fr_tr (fr_tr (fr_rf _ _) fs5 rfl) fs11 rfl), (show s11 170 4 ≤ s11 170 5 ∧ s11 170 5 ≤ s11 170 2 ∧ (s11 170 3 = 0 ∧ s11 170 4 = s11 170 2 ∨ 1 ≤ s11 170 3 ∧ s11 170 4 < s11 170 5) ∧ st 170 4 ≤ s11 170 4 ∧ (s11 170 8 = 0 → st 170 8 = 0 ∧ st 170 5 ≤ s11 170 4 ∧ 1 ≤ st 170 3) from by omega), (show -2147483648 ≤ (s11 170 6) ∧ (s11 170 6) ≤ 2147483647 ∧ (s11 170 8 = 0 → a ≤ (s11 170 6) ∧ (s11 170 6) ≤ b) from by omega)⟩
        · have e83 : s5 170 5 = st 170 5 := fs5 170 5 rfl rfl
          have e82 : s11 170 5 = s5 170 5 := fs11 170 5 rfl rfl
          have e85 : s5 170 2 = st 170 2 := fs5 170 2 rfl rfl
          have e84 : s11 170 2 = s5 170 2 := fs11 170 2 rfl rfl
          refine ⟨rfl, ⟨gs11, (show s11 170 5 ≤ s11 170 2 from by omega)⟩, fun s12 q12 => ?_⟩
          obtain ⟨gs12, fs12, p12⟩ := q12
          change s12 170 4 ≤ s12 170 5 ∧ s12 170 5 ≤ s12 170 2 ∧ (s12 170 3 = 0 ∧ s12 170 4 = s12 170 2 ∨ 1 ≤ s12 170 3 ∧ s12 170 4 < s12 170 5) ∧ s11 170 5 ≤ s12 170 4 at p12
          have g86 := g_signAt gs12
          have g87 := g_signEnd gs12
          have e88 : s12 170 2 = s11 170 2 := fs12 170 2 rfl rfl
          have g89 := g_sign gs12
          have e90 : s12 170 8 = s11 170 8 := fs12 170 8 rfl rfl
          exact hQ _ _ ⟨gs12, (fr_tr (fr_tr (fr_tr (fr_rf _ _) fs5 rfl) fs11 rfl) fs12 rfl), (show s12 170 4 ≤ s12 170 5 ∧ s12 170 5 ≤ s12 170 2 ∧ (s12 170 3 = 0 ∧ s12 170 4 = s12 170 2 ∨ 1 ≤ s12 170 3 ∧ s12 170 4 < s12 170 5) ∧ st 170 4 ≤ s12 170 4 ∧ (s12 170 8 = 0 → st 170 8 = 0 ∧ st 170 5 ≤ s12 170 4 ∧ 1 ≤ st 170 3) from by omega), (show -2147483648 ≤ (s11 170 6) ∧ (s11 170 6) ≤ 2147483647 ∧ (s12 170 8 = 0 → a ≤ (s11 170 6) ∧ (s11 170 6) ≤ b) from by omega)⟩
      · have g93 := g_value hG
        have e92 : s5 170 6 = st 170 6 := fs5 170 6 rfl rfl
        have e91 : s11 170 6 = s5 170 6 := fs11 170 6 rfl rfl
        refine fun r13 q13 => ?_
        have b13 := q13
        change (r13 = 0 ∨ r13 = 1) ∧ (r13 = 1 ↔ a ≤ (s11 170 6) ∧ (s11 170 6) ≤ b) at b13
        refine ⟨fun h94 => ?_, fun h94 => ?_⟩
        · refine ⟨fun h95 => ?_, fun h95 => ?_⟩
          · have e96 : s11 170 4 = s5 170 4 := fs11 170 4 rfl rfl
            have e98 : s5 170 5 = st 170 5 := fs5 170 5 rfl rfl
            have e97 : s11 170 5 = s5 170 5 := fs11 170 5 rfl rfl
            have e100 : s5 170 2 = st 170 2 := fs5 170 2 rfl rfl
            have e99 : s11 170 2 = s5 170 2 := fs11 170 2 rfl rfl
            have e101 : s11 170 3 = s5 170 3 := fs11 170 3 rfl rfl
            exact hQ _ _ ⟨gs11, (fr_tr (fr_tr (fr_rf _ _) fs5 rfl) fs11 rfl), (show s11 170 4 ≤ s11 170 5 ∧ s11 170 5 ≤ s11 170 2 ∧ (s11 170 3 = 0 ∧ s11 170 4 = s11 170 2 ∨ 1 ≤ s11 170 3 ∧ s11 170 4 < s11 170 5) ∧ st 170 4 ≤ s11 170 4 ∧ (s11 170 8 = 0 → st 170 8 = 0 ∧ st 170 5 ≤ s11 170 4 ∧ 1 ≤ st 170 3) from by omega), (show -2147483648 ≤ (s11 170 6) ∧ (s11 170 6) ≤ 2147483647 ∧ (s11 170 8 = 0 → a ≤ (s11 170 6) ∧ (s11 170 6) ≤ b) from by omega)⟩
          · have e103 : s5 170 5 = st 170 5 := fs5 170 5 rfl rfl
            have e102 : s11 170 5 = s5 170 5 := fs11 170 5 rfl rfl
            have e105 : s5 170 2 = st 170 2 := fs5 170 2 rfl rfl
            have e104 : s11 170 2 = s5 170 2 := fs11 170 2 rfl rfl
            refine ⟨rfl, ⟨gs11, (show s11 170 5 ≤ s11 170 2 from by omega)⟩, fun s14 q14 => ?_⟩
            obtain ⟨gs14, fs14, p14⟩ := q14
            change s14 170 4 ≤ s14 170 5 ∧ s14 170 5 ≤ s14 170 2 ∧ (s14 170 3 = 0 ∧ s14 170 4 = s14 170 2 ∨ 1 ≤ s14 170 3 ∧ s14 170 4 < s14 170 5) ∧ s11 170 5 ≤ s14 170 4 at p14
            have g106 := g_signAt gs14
            have g107 := g_signEnd gs14
            have e108 : s14 170 2 = s11 170 2 := fs14 170 2 rfl rfl
            have g109 := g_sign gs14
            have e110 : s14 170 8 = s11 170 8 := fs14 170 8 rfl rfl
            exact hQ _ _ ⟨gs14, (fr_tr (fr_tr (fr_tr (fr_rf _ _) fs5 rfl) fs11 rfl) fs14 rfl), (show s14 170 4 ≤ s14 170 5 ∧ s14 170 5 ≤ s14 170 2 ∧ (s14 170 3 = 0 ∧ s14 170 4 = s14 170 2 ∨ 1 ≤ s14 170 3 ∧ s14 170 4 < s14 170 5) ∧ st 170 4 ≤ s14 170 4 ∧ (s14 170 8 = 0 → st 170 8 = 0 ∧ st 170 5 ≤ s14 170 4 ∧ 1 ≤ st 170 3) from by omega), (show -2147483648 ≤ (s11 170 6) ∧ (s11 170 6) ≤ 2147483647 ∧ (s14 170 8 = 0 → a ≤ (s11 170 6) ∧ (s11 170 6) ≤ b) from by omega)⟩
        · have e111 : s11 170 4 = s5 170 4 := fs11 170 4 rfl rfl
          refine ⟨rfl, ⟨gs11, (show 1 ≤ (4) ∧ (4) ≤ 6 from by omega), (show -2147483648 ≤ (s11 170 4) ∧ (s11 170 4) ≤ 2147483647 from by omega)⟩, fun s15 q15 => ?_⟩
          obtain ⟨gs15, fs15, p15⟩ := q15
          change (s11 170 8 = 0 → s15 170 8 = (4)) ∧ (0 < s11 170 8 → s15 170 8 = s11 170 8) at p15
          have g112 := g_faultKind gs15
          have e113 : s15 170 6 = s11 170 6 := fs15 170 6 rfl rfl
          refine ⟨fun h114 => ?_, fun h114 => ?_⟩
          · have e115 : s15 170 4 = s11 170 4 := fs15 170 4 rfl rfl
            have e118 : s5 170 5 = st 170 5 := fs5 170 5 rfl rfl
            have e117 : s11 170 5 = s5 170 5 := fs11 170 5 rfl rfl
            have e116 : s15 170 5 = s11 170 5 := fs15 170 5 rfl rfl
            have e121 : s5 170 2 = st 170 2 := fs5 170 2 rfl rfl
            have e120 : s11 170 2 = s5 170 2 := fs11 170 2 rfl rfl
            have e119 : s15 170 2 = s11 170 2 := fs15 170 2 rfl rfl
            have e123 : s11 170 3 = s5 170 3 := fs11 170 3 rfl rfl
            have e122 : s15 170 3 = s11 170 3 := fs15 170 3 rfl rfl
            exact hQ _ _ ⟨gs15, (fr_tr (fr_tr (fr_tr (fr_rf _ _) fs5 rfl) fs11 rfl) fs15 rfl), (show s15 170 4 ≤ s15 170 5 ∧ s15 170 5 ≤ s15 170 2 ∧ (s15 170 3 = 0 ∧ s15 170 4 = s15 170 2 ∨ 1 ≤ s15 170 3 ∧ s15 170 4 < s15 170 5) ∧ st 170 4 ≤ s15 170 4 ∧ (s15 170 8 = 0 → st 170 8 = 0 ∧ st 170 5 ≤ s15 170 4 ∧ 1 ≤ st 170 3) from by omega), (show -2147483648 ≤ (s15 170 6) ∧ (s15 170 6) ≤ 2147483647 ∧ (s15 170 8 = 0 → a ≤ (s15 170 6) ∧ (s15 170 6) ≤ b) from by omega)⟩
          · have e126 : s5 170 5 = st 170 5 := fs5 170 5 rfl rfl
            have e125 : s11 170 5 = s5 170 5 := fs11 170 5 rfl rfl
            have e124 : s15 170 5 = s11 170 5 := fs15 170 5 rfl rfl
            have e129 : s5 170 2 = st 170 2 := fs5 170 2 rfl rfl
            have e128 : s11 170 2 = s5 170 2 := fs11 170 2 rfl rfl
            have e127 : s15 170 2 = s11 170 2 := fs15 170 2 rfl rfl
            refine ⟨rfl, ⟨gs15, (show s15 170 5 ≤ s15 170 2 from by omega)⟩, fun s16 q16 => ?_⟩
            obtain ⟨gs16, fs16, p16⟩ := q16
            change s16 170 4 ≤ s16 170 5 ∧ s16 170 5 ≤ s16 170 2 ∧ (s16 170 3 = 0 ∧ s16 170 4 = s16 170 2 ∨ 1 ≤ s16 170 3 ∧ s16 170 4 < s16 170 5) ∧ s15 170 5 ≤ s16 170 4 at p16
            have g130 := g_signAt gs16
            have g131 := g_signEnd gs16
            have e132 : s16 170 2 = s15 170 2 := fs16 170 2 rfl rfl
            have g133 := g_sign gs16
            have e134 : s16 170 8 = s15 170 8 := fs16 170 8 rfl rfl
            exact hQ _ _ ⟨gs16, (fr_tr (fr_tr (fr_tr (fr_tr (fr_rf _ _) fs5 rfl) fs11 rfl) fs15 rfl) fs16 rfl), (show s16 170 4 ≤ s16 170 5 ∧ s16 170 5 ≤ s16 170 2 ∧ (s16 170 3 = 0 ∧ s16 170 4 = s16 170 2 ∨ 1 ≤ s16 170 3 ∧ s16 170 4 < s16 170 5) ∧ st 170 4 ≤ s16 170 4 ∧ (s16 170 8 = 0 → st 170 8 = 0 ∧ st 170 5 ≤ s16 170 4 ∧ 1 ≤ st 170 3) from by omega), (show -2147483648 ≤ (s15 170 6) ∧ (s15 170 6) ≤ 2147483647 ∧ (s16 170 8 = 0 → a ≤ (s15 170 6) ∧ (s15 170 6) ≤ b) from by omega)⟩
  · have e135 : s5 170 4 = st 170 4 := fs5 170 4 rfl rfl
    have e136 : s5 170 5 = st 170 5 := fs5 170 5 rfl rfl
    have e137 : s5 170 2 = st 170 2 := fs5 170 2 rfl rfl
    have e138 : s5 170 3 = st 170 3 := fs5 170 3 rfl rfl
    exact hQ _ _ ⟨gs5, (fr_tr (fr_rf _ _) fs5 rfl), (show s5 170 4 ≤ s5 170 5 ∧ s5 170 5 ≤ s5 170 2 ∧ (s5 170 3 = 0 ∧ s5 170 4 = s5 170 2 ∨ 1 ≤ s5 170 3 ∧ s5 170 4 < s5 170 5) ∧ st 170 4 ≤ s5 170 4 ∧ (s5 170 8 = 0 → st 170 8 = 0 ∧ st 170 5 ≤ s5 170 4 ∧ 1 ≤ st 170 3) from by omega), (show -2147483648 ≤ (0 : Int) ∧ (0 : Int) ≤ 2147483647 ∧ (s5 170 8 = 0 → a ≤ (0 : Int) ∧ (0 : Int) ≤ b) from by omega)⟩
theorem k_number_m (hTb : aTb zSh rx_tb cl) {D : Nat} (hD : 3 ≤ D) : ∀ as st (Q Q' : zQ), (∀ r st', Q r st' → Q' r st') → k_number 188 as st Q → cl D 188 as st Q' := by
  intro as st Q Q' hQ h
  unfold k_number at h
  split at h
  · obtain ⟨rfl, h⟩ := h
    exact c_number hTb hD (ct_number_m hQ h)
  · exact h.elim
set_option maxRecDepth 100000 in
theorem c_counts (hTb : aTb zSh rx_tb cl) {D : Nat} (hD : 3 ≤ D) {f : Int} {st : zS} {Q : zQ} (h : ct_counts f st Q) : cl D 199 [.inr (.inr (.inl 170)), .inl f] st Q := by
  obtain ⟨d, rfl⟩ : ∃ d, D = d + 1 := ⟨D - 1, by omega⟩
  refine hTb d 199 (rx_m199, 2, 0, 0, 2) rfl _ _ _ (Nat.le_of_ble_eq_true rfl) (fun K hcl hsf hsl => ?_)
  have hcm : zmo (wcL [(178, k_blame), (149, k_ahead)]) (cl d) := (wcL_m (wm_cons (k_blame_m hTb (by omega)) (wm_cons (k_ahead_m hTb (by omega)) wm_nil)))
  obtain ⟨hR, hQ⟩ := h
  obtain ⟨hG, lx⟩ := hR
  change st 170 4 ≤ st 170 5 ∧ st 170 5 ≤ st 170 2 ∧ (st 170 3 = 0 ∧ st 170 4 = st 170 2 ∨ 1 ≤ st 170 3 ∧ st 170 4 < st 170 5) at lx
  have g1 := g_signAt hG
  have g2 := g_signEnd hG
  have g3 := g_size hG
  have g4 := g_sign hG
  refine yr1_ok (Rt := Q) (wc := (wcL [(178, k_blame), (149, k_ahead)])) (stp := []) hcm hcl [] 42 ?_
  show ((¬ st 170 8 = (0 : Int) → ((¬ st 170 8 = (0 : Int) → ((¬ st 170 8 = (0 : Int) → ((0 = (0 : Int) ∨ 0 = (1 : Int)) ∧ Q (some (.inl 0)) st)) ∧ (¬ (¬ st 170 8 = (0 : Int)) → ((1 = (0 : Int) ∨ 1 = (1 : Int)) ∧ Q (some (.inl 1)) st)))) ∧ (¬ (¬ st 170 8 = (0 : Int)) → (170 = 170 ∧ (rq_ahead  st ∧ (∀ (s5 : zS), en_ahead  st s5 → ((¬ s5 170 8 = (0 : Int) → ((0 = (0 : Int) ∨ 0 = (1 : Int)) ∧ Q (some (.inl 0)) s5)) ∧ (¬ (¬ s5 170 8 = (0 : Int)) → ((1 = (0 : Int) ∨ 1 = (1 : Int)) ∧ Q (some (.inl 1)) s5))))))))) ∧ (¬ (¬ st 170 8 = (0 : Int)) → ((f = (0 : Int) → ((¬ st 170 8 = (0 : Int) → ((¬ st 170 8 = (0 : Int) → ((0 = (0 : Int) ∨ 0 = (1 : Int)) ∧ Q (some (.inl 0)) st)) ∧ (¬ (¬ st 170 8 = (0 : Int)) → ((1 = (0 : Int) ∨ 1 = (1 : Int)) ∧ Q (some (.inl 1)) st)))) ∧ (¬ (¬ st 170 8 = (0 : Int)) → (170 = 170 ∧ (rq_ahead  st ∧ (∀ (s6 : zS), en_ahead  st s6 → ((¬ s6 170 8 = (0 : Int) → ((0 = (0 : Int) ∨ 0 = (1 : Int)) ∧ Q (some (.inl 0)) s6)) ∧ (¬ (¬ s6 170 8 = (0 : Int)) → ((1 = (0 : Int) ∨ 1 = (1 : Int)) ∧ Q (some (.inl 1)) s6))))))))) ∧ (¬ (f = (0 : Int)) → (170 = 170 ∧ (rq_blame (6) (st 170 4) st ∧ (∀ (s7 : zS), en_blame (6) (st 170 4) st s7 → ((¬ s7 170 8 = (0 : Int) → ((¬ s7 170 8 = (0 : Int) → ((0 = (0 : Int) ∨ 0 = (1 : Int)) ∧ Q (some (.inl 0)) s7)) ∧ (¬ (¬ s7 170 8 = (0 : Int)) → ((1 = (0 : Int) ∨ 1 = (1 : Int)) ∧ Q (some (.inl 1)) s7)))) ∧ (¬ (¬ s7 170 8 = (0 : Int)) → (170 = 170 ∧ (rq_ahead  s7 ∧ (∀ (s8 : zS), en_ahead  s7 s8 → ((¬ s8 170 8 = (0 : Int) → ((0 = (0 : Int) ∨ 0 = (1 : Int)) ∧ Q (some (.inl 0)) s8)) ∧ (¬ (¬ s8 170 8 = (0 : Int)) → ((1 = (0 : Int) ∨ 1 = (1 : Int)) ∧ Q (some (.inl 1)) s8)))))))))))))))
  have g9 := g_faultKind hG
  refine ⟨fun h10 => ?_, fun h10 => ?_⟩
  · refine ⟨fun h11 => ?_, fun h11 => ?_⟩
    · refine ⟨fun h12 => ?_, fun h12 => ?_⟩
      · refine ⟨by omega, ?_⟩
        exact hQ _ _ ⟨hG, (fr_rf _ _), (show st 170 4 ≤ st 170 5 ∧ st 170 5 ≤ st 170 2 ∧ (st 170 3 = 0 ∧ st 170 4 = st 170 2 ∨ 1 ≤ st 170 3 ∧ st 170 4 < st 170 5) ∧ st 170 4 ≤ st 170 4 ∧ (st 170 8 = 0 → st 170 8 = 0 ∧ st 170 5 ≤ st 170 4 ∧ f = 0) from by omega), (show ((0 : Int) = 0 ∨ (0 : Int) = 1) ∧ ((0 : Int) = 1 ↔ st 170 8 = 0) from by omega)⟩
      · refine ⟨by omega, ?_⟩
        exact hQ _ _ ⟨hG, (fr_rf _ _), (show st 170 4 ≤ st 170 5 ∧ st 170 5 ≤ st 170 2 ∧ (st 170 3 = 0 ∧ st 170 4 = st 170 2 ∨ 1 ≤ st 170 3 ∧ st 170 4 < st 170 5) ∧ st 170 4 ≤ st 170 4 ∧ (st 170 8 = 0 → st 170 8 = 0 ∧ st 170 5 ≤ st 170 4 ∧ f = 0) from by omega), (show ((1 : Int) = 0 ∨ (1 : Int) = 1) ∧ ((1 : Int) = 1 ↔ st 170 8 = 0) from by omega)⟩
    · refine ⟨rfl, ⟨hG, (show st 170 5 ≤ st 170 2 from by omega)⟩, fun s5 q5 => ?_⟩
      obtain ⟨gs5, fs5, p5⟩ := q5
      change s5 170 4 ≤ s5 170 5 ∧ s5 170 5 ≤ s5 170 2 ∧ (s5 170 3 = 0 ∧ s5 170 4 = s5 170 2 ∨ 1 ≤ s5 170 3 ∧ s5 170 4 < s5 170 5) ∧ st 170 5 ≤ s5 170 4 at p5
      have g13 := g_signAt gs5
      have g14 := g_signEnd gs5
      have e15 : s5 170 2 = st 170 2 := fs5 170 2 rfl rfl
      have g16 := g_sign gs5
      have e17 : s5 170 8 = st 170 8 := fs5 170 8 rfl rfl
      refine ⟨fun h18 => ?_, fun h18 => ?_⟩
      · refine ⟨by omega, ?_⟩
        exact hQ _ _ ⟨gs5, (fr_tr (fr_rf _ _) fs5 rfl), (show s5 170 4 ≤ s5 170 5 ∧ s5 170 5 ≤ s5 170 2 ∧ (s5 170 3 = 0 ∧ s5 170 4 = s5 170 2 ∨ 1 ≤ s5 170 3 ∧ s5 170 4 < s5 170 5) ∧ st 170 4 ≤ s5 170 4 ∧ (s5 170 8 = 0 → st 170 8 = 0 ∧ st 170 5 ≤ s5 170 4 ∧ f = 0) from by omega), (show ((0 : Int) = 0 ∨ (0 : Int) = 1) ∧ ((0 : Int) = 1 ↔ s5 170 8 = 0) from by omega)⟩
      · refine ⟨by omega, ?_⟩
        exact hQ _ _ ⟨gs5, (fr_tr (fr_rf _ _) fs5 rfl), (show s5 170 4 ≤ s5 170 5 ∧ s5 170 5 ≤ s5 170 2 ∧ (s5 170 3 = 0 ∧ s5 170 4 = s5 170 2 ∨ 1 ≤ s5 170 3 ∧ s5 170 4 < s5 170 5) ∧ st 170 4 ≤ s5 170 4 ∧ (s5 170 8 = 0 → st 170 8 = 0 ∧ st 170 5 ≤ s5 170 4 ∧ f = 0) from by omega), (show ((1 : Int) = 0 ∨ (1 : Int) = 1) ∧ ((1 : Int) = 1 ↔ s5 170 8 = 0) from by omega)⟩
  · refine ⟨fun h19 => ?_, fun h19 => ?_⟩
    · refine ⟨fun h20 => ?_, fun h20 => ?_⟩
      · refine ⟨fun h21 => ?_, fun h21 => ?_⟩
        · refine ⟨by omega, ?_⟩
          exact hQ _ _ ⟨hG, (fr_rf _ _), (show st 170 4 ≤ st 170 5 ∧ st 170 5 ≤ st 170 2 ∧ (st 170 3 = 0 ∧ st 170 4 = st 170 2 ∨ 1 ≤ st 170 3 ∧ st 170 4 < st 170 5) ∧ st 170 4 ≤ st 170 4 ∧ (st 170 8 = 0 → st 170 8 = 0 ∧ st 170 5 ≤ st 170 4 ∧ f = 0) from by omega), (show ((0 : Int) = 0 ∨ (0 : Int) = 1) ∧ ((0 : Int) = 1 ↔ st 170 8 = 0) from by omega)⟩
        · refine ⟨by omega, ?_⟩
          exact hQ _ _ ⟨hG, (fr_rf _ _), (show st 170 4 ≤ st 170 5 ∧ st 170 5 ≤ st 170 2 ∧ (st 170 3 = 0 ∧ st 170 4 = st 170 2 ∨ 1 ≤ st 170 3 ∧ st 170 4 < st 170 5) ∧ st 170 4 ≤ st 170 4 ∧ (st 170 8 = 0 → st 170 8 = 0 ∧ st 170 5 ≤ st 170 4 ∧ f = 0) from by omega), (show ((1 : Int) = 0 ∨ (1 : Int) = 1) ∧ ((1 : Int) = 1 ↔ st 170 8 = 0) from by omega)⟩
      · refine ⟨rfl, ⟨hG, (show st 170 5 ≤ st 170 2 from by omega)⟩, fun s6 q6 => ?_⟩
        obtain ⟨gs6, fs6, p6⟩ := q6
        change s6 170 4 ≤ s6 170 5 ∧ s6 170 5 ≤ s6 170 2 ∧ (s6 170 3 = 0 ∧ s6 170 4 = s6 170 2 ∨ 1 ≤ s6 170 3 ∧ s6 170 4 < s6 170 5) ∧ st 170 5 ≤ s6 170 4 at p6
        have g22 := g_signAt gs6
        have g23 := g_signEnd gs6
        have e24 : s6 170 2 = st 170 2 := fs6 170 2 rfl rfl
        have g25 := g_sign gs6
        have e26 : s6 170 8 = st 170 8 := fs6 170 8 rfl rfl
        refine ⟨fun h27 => ?_, fun h27 => ?_⟩
        · refine ⟨by omega, ?_⟩
          exact hQ _ _ ⟨gs6, (fr_tr (fr_rf _ _) fs6 rfl), (show s6 170 4 ≤ s6 170 5 ∧ s6 170 5 ≤ s6 170 2 ∧ (s6 170 3 = 0 ∧ s6 170 4 = s6 170 2 ∨ 1 ≤ s6 170 3 ∧ s6 170 4 < s6 170 5) ∧ st 170 4 ≤ s6 170 4 ∧ (s6 170 8 = 0 → st 170 8 = 0 ∧ st 170 5 ≤ s6 170 4 ∧ f = 0) from by omega), (show ((0 : Int) = 0 ∨ (0 : Int) = 1) ∧ ((0 : Int) = 1 ↔ s6 170 8 = 0) from by omega)⟩
        · refine ⟨by omega, ?_⟩
          exact hQ _ _ ⟨gs6, (fr_tr (fr_rf _ _) fs6 rfl), (show s6 170 4 ≤ s6 170 5 ∧ s6 170 5 ≤ s6 170 2 ∧ (s6 170 3 = 0 ∧ s6 170 4 = s6 170 2 ∨ 1 ≤ s6 170 3 ∧ s6 170 4 < s6 170 5) ∧ st 170 4 ≤ s6 170 4 ∧ (s6 170 8 = 0 → st 170 8 = 0 ∧ st 170 5 ≤ s6 170 4 ∧ f = 0) from by omega), (show ((1 : Int) = 0 ∨ (1 : Int) = 1) ∧ ((1 : Int) = 1 ↔ s6 170 8 = 0) from by omega)⟩
    · refine ⟨rfl, ⟨hG, (show 1 ≤ (6) ∧ (6) ≤ 6 from by omega), (show -2147483648 ≤ (st 170 4) ∧ (st 170 4) ≤ 2147483647 from by omega)⟩, fun s7 q7 => ?_⟩
      obtain ⟨gs7, fs7, p7⟩ := q7
      change (st 170 8 = 0 → s7 170 8 = (6)) ∧ (0 < st 170 8 → s7 170 8 = st 170 8) at p7
      have g28 := g_faultKind gs7
      refine ⟨fun h29 => ?_, fun h29 => ?_⟩
      · refine ⟨fun h30 => ?_, fun h30 => ?_⟩
        · refine ⟨by omega, ?_⟩
          have e31 : s7 170 4 = st 170 4 := fs7 170 4 rfl rfl
          have e32 : s7 170 5 = st 170 5 := fs7 170 5 rfl rfl
          have e33 : s7 170 2 = st 170 2 := fs7 170 2 rfl rfl
          have e34 : s7 170 3 = st 170 3 := fs7 170 3 rfl rfl
          exact hQ _ _ ⟨gs7, (fr_tr (fr_rf _ _) fs7 rfl), (show s7 170 4 ≤ s7 170 5 ∧ s7 170 5 ≤ s7 170 2 ∧ (s7 170 3 = 0 ∧ s7 170 4 = s7 170 2 ∨ 1 ≤ s7 170 3 ∧ s7 170 4 < s7 170 5) ∧ st 170 4 ≤ s7 170 4 ∧ (s7 170 8 = 0 → st 170 8 = 0 ∧ st 170 5 ≤ s7 170 4 ∧ f = 0) from by omega), (show ((0 : Int) = 0 ∨ (0 : Int) = 1) ∧ ((0 : Int) = 1 ↔ s7 170 8 = 0) from by omega)⟩
        · refine ⟨by omega, ?_⟩
          have e35 : s7 170 4 = st 170 4 := fs7 170 4 rfl rfl
          have e36 : s7 170 5 = st 170 5 := fs7 170 5 rfl rfl
          have e37 : s7 170 2 = st 170 2 := fs7 170 2 rfl rfl
          have e38 : s7 170 3 = st 170 3 := fs7 170 3 rfl rfl
          exact hQ _ _ ⟨gs7, (fr_tr (fr_rf _ _) fs7 rfl), (show s7 170 4 ≤ s7 170 5 ∧ s7 170 5 ≤ s7 170 2 ∧ (s7 170 3 = 0 ∧ s7 170 4 = s7 170 2 ∨ 1 ≤ s7 170 3 ∧ s7 170 4 < s7 170 5) ∧ st 170 4 ≤ s7 170 4 ∧ (s7 170 8 = 0 → st 170 8 = 0 ∧ st 170 5 ≤ s7 170 4 ∧ f = 0) from by omega), (show ((1 : Int) = 0 ∨ (1 : Int) = 1) ∧ ((1 : Int) = 1 ↔ s7 170 8 = 0) from by omega)⟩
      · have e39 : s7 170 5 = st 170 5 := fs7 170 5 rfl rfl
        have e40 : s7 170 2 = st 170 2 := fs7 170 2 rfl rfl
        refine ⟨rfl, ⟨gs7, (show s7 170 5 ≤ s7 170 2 from by omega)⟩, fun s8 q8 => ?_⟩
        obtain ⟨gs8, fs8, p8⟩ := q8
        change s8 170 4 ≤ s8 170 5 ∧ s8 170 5 ≤ s8 170 2 ∧ (s8 170 3 = 0 ∧ s8 170 4 = s8 170 2 ∨ 1 ≤ s8 170 3 ∧ s8 170 4 < s8 170 5) ∧ s7 170 5 ≤ s8 170 4 at p8
        have g41 := g_signAt gs8
        have g42 := g_signEnd gs8
        have e43 : s8 170 2 = s7 170 2 := fs8 170 2 rfl rfl
        have g44 := g_sign gs8
        have e45 : s8 170 8 = s7 170 8 := fs8 170 8 rfl rfl
        refine ⟨fun h46 => ?_, fun h46 => ?_⟩
        · refine ⟨by omega, ?_⟩
          exact hQ _ _ ⟨gs8, (fr_tr (fr_tr (fr_rf _ _) fs7 rfl) fs8 rfl), (show s8 170 4 ≤ s8 170 5 ∧ s8 170 5 ≤ s8 170 2 ∧ (s8 170 3 = 0 ∧ s8 170 4 = s8 170 2 ∨ 1 ≤ s8 170 3 ∧ s8 170 4 < s8 170 5) ∧ st 170 4 ≤ s8 170 4 ∧ (s8 170 8 = 0 → st 170 8 = 0 ∧ st 170 5 ≤ s8 170 4 ∧ f = 0) from by omega), (show ((0 : Int) = 0 ∨ (0 : Int) = 1) ∧ ((0 : Int) = 1 ↔ s8 170 8 = 0) from by omega)⟩
        · refine ⟨by omega, ?_⟩
          exact hQ _ _ ⟨gs8, (fr_tr (fr_tr (fr_rf _ _) fs7 rfl) fs8 rfl), (show s8 170 4 ≤ s8 170 5 ∧ s8 170 5 ≤ s8 170 2 ∧ (s8 170 3 = 0 ∧ s8 170 4 = s8 170 2 ∨ 1 ≤ s8 170 3 ∧ s8 170 4 < s8 170 5) ∧ st 170 4 ≤ s8 170 4 ∧ (s8 170 8 = 0 → st 170 8 = 0 ∧ st 170 5 ≤ s8 170 4 ∧ f = 0) from by omega), (show ((1 : Int) = 0 ∨ (1 : Int) = 1) ∧ ((1 : Int) = 1 ↔ s8 170 8 = 0) from by omega)⟩
theorem k_counts_m (hTb : aTb zSh rx_tb cl) {D : Nat} (hD : 3 ≤ D) : ∀ as st (Q Q' : zQ), (∀ r st', Q r st' → Q' r st') → k_counts 199 as st Q → cl D 199 as st Q' := by
  intro as st Q Q' hQ h
  unfold k_counts at h
  split at h
  · obtain ⟨rfl, h⟩ := h
    exact c_counts hTb hD (ct_counts_m hQ h)
  · exact h.elim
set_option maxRecDepth 100000 in
theorem c_fresh (hTb : aTb zSh rx_tb cl) {D : Nat} (hD : 3 ≤ D) {st : zS} {Q : zQ} (h : ct_fresh  st Q) : cl D 202 [.inr (.inr (.inl 170))] st Q := by
  obtain ⟨d, rfl⟩ : ∃ d, D = d + 1 := ⟨D - 1, by omega⟩
  refine hTb d 202 (rx_m202, 3, 0, 0, 5) rfl _ _ _ (Nat.le_of_ble_eq_true rfl) (fun K hcl hsf hsl => ?_)
  have hcm : zmo (wcL [(181, k_lex), (185, k_isOwn), (178, k_blame), (187, k_named), (149, k_ahead)]) (cl d) := (wcL_m (wm_cons (k_lex_m hTb (by omega)) (wm_cons (k_isOwn_m hTb (by omega)) (wm_cons (k_blame_m hTb (by omega)) (wm_cons (k_named_m hTb (by omega)) (wm_cons (k_ahead_m hTb (by omega)) wm_nil))))))
  obtain ⟨hR, hQ⟩ := h
  obtain ⟨hG, lx⟩ := hR
  change st 170 4 ≤ st 170 5 ∧ st 170 5 ≤ st 170 2 ∧ (st 170 3 = 0 ∧ st 170 4 = st 170 2 ∨ 1 ≤ st 170 3 ∧ st 170 4 < st 170 5) at lx
  have m83 : ∀ (s_m83 : zS), gInv zgt s_m83 ∧ aFr m_fresh st s_m83 ∧ (s_m83 170 4 ≤ s_m83 170 5 ∧ s_m83 170 5 ≤ s_m83 170 2 ∧ (s_m83 170 3 = 0 ∧ s_m83 170 4 = s_m83 170 2 ∨ 1 ≤ s_m83 170 3 ∧ s_m83 170 4 < s_m83 170 5) ∧ s_m83 170 4 = st 170 4 ∧ s_m83 170 5 = st 170 5 ∧ (s_m83 170 8 = 0 → st 170 8 = 0 ∧ 1 ≤ st 170 3)) → K (rx_find rx_m202 83) [(0, .inr (.inr (.inl 170)))] [] s_m83 := by
    intro  s_m83 hi
    obtain ⟨gI_m83, fI_m83, b_m83⟩ := hi
    have g1 := g_signAt gI_m83
    have g2 := g_signEnd gI_m83
    have g4 := g_size hG
    have e3 : s_m83 170 2 = st 170 2 := fI_m83 170 2 rfl rfl
    have g5 := g_sign gI_m83
    have g6 := g_signAt hG
    have g7 := g_signEnd hG
    have g8 := g_faultKind gI_m83
    have g9 := g_faultKind hG
    have g10 := g_sign hG
    refine yr1_ok (Rt := Q) (wc := (wcL [(181, k_lex), (185, k_isOwn), (178, k_blame), (187, k_named), (149, k_ahead)])) (stp := [83]) hcm hcl [] 73 ?_
    show ((¬ s_m83 170 8 = (0 : Int) → Q (some (.inr (.inl (s_m83 170 7)))) s_m83) ∧ (¬ (¬ s_m83 170 8 = (0 : Int)) → (170 = 170 ∧ (rq_ahead  s_m83 ∧ (∀ (s11 : zS), en_ahead  s_m83 s11 → Q (some (.inr (.inl (s_m83 170 7)))) s11)))))
    have g12 := g_word gI_m83
    refine ⟨fun h13 => ?_, fun h13 => ?_⟩
    · exact hQ _ _ ⟨gI_m83, fI_m83, (show s_m83 170 4 ≤ s_m83 170 5 ∧ s_m83 170 5 ≤ s_m83 170 2 ∧ (s_m83 170 3 = 0 ∧ s_m83 170 4 = s_m83 170 2 ∨ 1 ≤ s_m83 170 3 ∧ s_m83 170 4 < s_m83 170 5) ∧ st 170 4 ≤ s_m83 170 4 ∧ (s_m83 170 8 = 0 → st 170 8 = 0 ∧ st 170 5 ≤ s_m83 170 4 ∧ 1 ≤ st 170 3) from by omega), (show -9223372036854775808 ≤ (s_m83 170 7) ∧ (s_m83 170 7) ≤ 9223372036854775807 from by omega)⟩
    · refine ⟨rfl, ⟨gI_m83, (show s_m83 170 5 ≤ s_m83 170 2 from by omega)⟩, fun s11 q11 => ?_⟩
      obtain ⟨gs11, fs11, p11⟩ := q11
      change s11 170 4 ≤ s11 170 5 ∧ s11 170 5 ≤ s11 170 2 ∧ (s11 170 3 = 0 ∧ s11 170 4 = s11 170 2 ∨ 1 ≤ s11 170 3 ∧ s11 170 4 < s11 170 5) ∧ s_m83 170 5 ≤ s11 170 4 at p11
      have g14 := g_signAt gs11
      have g15 := g_signEnd gs11
      have e16 : s11 170 2 = s_m83 170 2 := fs11 170 2 rfl rfl
      have g17 := g_sign gs11
      have e18 : s11 170 8 = s_m83 170 8 := fs11 170 8 rfl rfl
      exact hQ _ _ ⟨gs11, (fr_tr fI_m83 fs11 rfl), (show s11 170 4 ≤ s11 170 5 ∧ s11 170 5 ≤ s11 170 2 ∧ (s11 170 3 = 0 ∧ s11 170 4 = s11 170 2 ∨ 1 ≤ s11 170 3 ∧ s11 170 4 < s11 170 5) ∧ st 170 4 ≤ s11 170 4 ∧ (s11 170 8 = 0 → st 170 8 = 0 ∧ st 170 5 ≤ s11 170 4 ∧ 1 ≤ st 170 3) from by omega), (show -9223372036854775808 ≤ (s_m83 170 7) ∧ (s_m83 170 7) ≤ 9223372036854775807 from by omega)⟩
  have lp : ∀ (u : Nat) (i : Int) (s_lp : zS), gInv zgt s_lp ∧ aFr m_fresh st s_lp ∧ (s_lp 170 4 ≤ s_lp 170 5 ∧ s_lp 170 5 ≤ s_lp 170 2 ∧ (s_lp 170 3 = 0 ∧ s_lp 170 4 = s_lp 170 2 ∨ 1 ≤ s_lp 170 3 ∧ s_lp 170 4 < s_lp 170 5) ∧ s_lp 170 4 = st 170 4 ∧ s_lp 170 5 = st 170 5 ∧ (s_lp 170 8 = 0 → st 170 8 = 0 ∧ 1 ≤ st 170 3) ∧ 0 ≤ i ∧ i ≤ 2) → (2 - i).toNat = u → K (rx_find rx_m202 43) [(0, .inr (.inr (.inl 170))), (1, .inl i)] [] s_lp := by
    intro u
    induction u using Nat.strongRecOn with
    | _ u ih =>
      intro i s_lp hi hu
      obtain ⟨gI_lp, fI_lp, b_lp⟩ := hi
      have g19 := g_signAt gI_lp
      have g20 := g_signEnd gI_lp
      have g22 := g_size hG
      have e21 : s_lp 170 2 = st 170 2 := fI_lp 170 2 rfl rfl
      have g23 := g_sign gI_lp
      have g24 := g_signAt hG
      have g25 := g_signEnd hG
      have g26 := g_faultKind gI_lp
      have g27 := g_faultKind hG
      have g28 := g_sign hG
      have m77 : ∀ (j : Int) (s_m77 : zS), gInv zgt s_m77 ∧ aFr m_fresh st s_m77 ∧ (s_m77 170 4 ≤ s_m77 170 5 ∧ s_m77 170 5 ≤ s_m77 170 2 ∧ (s_m77 170 3 = 0 ∧ s_m77 170 4 = s_m77 170 2 ∨ 1 ≤ s_m77 170 3 ∧ s_m77 170 4 < s_m77 170 5) ∧ s_m77 170 4 = st 170 4 ∧ s_m77 170 5 = st 170 5 ∧ (s_m77 170 8 = 0 → st 170 8 = 0 ∧ 1 ≤ st 170 3) ∧ j = i ∧ j ≤ 1) → K (rx_find rx_m202 77) [(0, .inr (.inr (.inl 170))), (1, .inl j)] [] s_m77 := by
        intro j s_m77 hi
        obtain ⟨gI_m77, fI_m77, b_m77⟩ := hi
        have g29 := g_signAt gI_m77
        have g30 := g_signEnd gI_m77
        have g32 := g_size hG
        have e31 : s_m77 170 2 = st 170 2 := fI_m77 170 2 rfl rfl
        have g33 := g_sign gI_m77
        have g34 := g_signAt hG
        have g35 := g_signEnd hG
        have g36 := g_faultKind gI_m77
        have g37 := g_faultKind hG
        have g38 := g_sign hG
        refine yr1_ok (Rt := Q) (wc := (wcL [(181, k_lex), (185, k_isOwn), (178, k_blame), (187, k_named), (149, k_ahead)])) (stp := [43, 77, 83]) hcm hcl [] 73 ?_
        show ((-2147483648 ≤ j + 1 ∧ j + 1 ≤ 2147483647) ∧ K (rx_find rx_m202 43) [(1, .inl (j + 1)), (0, .inr (.inr (.inl 170)))] [] s_m77)
        refine ⟨by omega, ?_⟩
        exact hsl _ _ _ _ _ (sb_cons (.tail _ (.head _)) (sb_cons (.head _) sb_nil)) (ih _ (by omega) (j + 1) s_m77 ⟨gI_m77, fI_m77, (show s_m77 170 4 ≤ s_m77 170 5 ∧ s_m77 170 5 ≤ s_m77 170 2 ∧ (s_m77 170 3 = 0 ∧ s_m77 170 4 = s_m77 170 2 ∨ 1 ≤ s_m77 170 3 ∧ s_m77 170 4 < s_m77 170 5) ∧ s_m77 170 4 = st 170 4 ∧ s_m77 170 5 = st 170 5 ∧ (s_m77 170 8 = 0 → st 170 8 = 0 ∧ 1 ≤ st 170 3) ∧ 0 ≤ (j + 1) ∧ (j + 1) ≤ 2 from by omega)⟩ rfl)
      refine yr1_ok (Rt := Q) (wc := (wcL [(181, k_lex), (185, k_isOwn), (178, k_blame), (187, k_named), (149, k_ahead)])) (stp := [43, 77, 83]) hcm hcl [] 73 ?_
      show (((1 : Int) < i → K (rx_find rx_m202 83) [(0, .inr (.inr (.inl 170))), (1, .inl i)] [] s_lp) ∧ (¬ ((1 : Int) < i) → ((¬ s_lp 170 8 = (0 : Int) → K (rx_find rx_m202 83) [(0, .inr (.inr (.inl 170))), (1, .inl i)] [] s_lp) ∧ (¬ (¬ s_lp 170 8 = (0 : Int)) → (170 = 170 ∧ (rq_named i (s_lp 170 7) s_lp ∧ (∀ (r39 : Int), en_named i (s_lp 170 7) s_lp r39 → ((r39 = ((-1) : Int) → K (rx_find rx_m202 77) [(0, .inr (.inr (.inl 170))), (1, .inl i)] [] s_lp) ∧ (¬ (r39 = ((-1) : Int)) → (170 = 170 ∧ (rq_blame (2) (s_lp 170 4) s_lp ∧ (∀ (s40 : zS), en_blame (2) (s_lp 170 4) s_lp s40 → K (rx_find rx_m202 77) [(0, .inr (.inr (.inl 170))), (1, .inl i)] [] s40))))))))))))
      refine ⟨fun h41 => ?_, fun h41 => ?_⟩
      · exact hsl _ _ _ _ _ (sb_cons (.head _) sb_nil) (m83 s_lp ⟨gI_lp, fI_lp, (show s_lp 170 4 ≤ s_lp 170 5 ∧ s_lp 170 5 ≤ s_lp 170 2 ∧ (s_lp 170 3 = 0 ∧ s_lp 170 4 = s_lp 170 2 ∨ 1 ≤ s_lp 170 3 ∧ s_lp 170 4 < s_lp 170 5) ∧ s_lp 170 4 = st 170 4 ∧ s_lp 170 5 = st 170 5 ∧ (s_lp 170 8 = 0 → st 170 8 = 0 ∧ 1 ≤ st 170 3) from by omega)⟩)
      · refine ⟨fun h42 => ?_, fun h42 => ?_⟩
        · exact hsl _ _ _ _ _ (sb_cons (.head _) sb_nil) (m83 s_lp ⟨gI_lp, fI_lp, (show s_lp 170 4 ≤ s_lp 170 5 ∧ s_lp 170 5 ≤ s_lp 170 2 ∧ (s_lp 170 3 = 0 ∧ s_lp 170 4 = s_lp 170 2 ∨ 1 ≤ s_lp 170 3 ∧ s_lp 170 4 < s_lp 170 5) ∧ s_lp 170 4 = st 170 4 ∧ s_lp 170 5 = st 170 5 ∧ (s_lp 170 8 = 0 → st 170 8 = 0 ∧ 1 ≤ st 170 3) from by omega)⟩)
        · have g43 := g_word gI_lp
          refine ⟨rfl, gI_lp, fun r39 q39 => ?_⟩
          have b39 := q39
          change -1 ≤ r39 ∧ r39 < 8 ∧ (i = 0 → r39 < s_lp 172 (s_lp 170 35 : Int).toNat) at b39
          have g45 := g_in hG
          have e44 : s_lp 170 35 = st 170 35 := fI_lp 170 35 rfl rfl
          have g47 := g_places hG (st 170 35 : Int).toNat
          have e46 : s_lp 172 (s_lp 170 35 : Int).toNat = st 172 (st 170 35 : Int).toNat := (fI_lp 172 (s_lp 170 35 : Int).toNat rfl rfl).trans (by rw [e44])
          refine ⟨fun h48 => ?_, fun h48 => ?_⟩
          · exact m77 i s_lp ⟨gI_lp, fI_lp, (show s_lp 170 4 ≤ s_lp 170 5 ∧ s_lp 170 5 ≤ s_lp 170 2 ∧ (s_lp 170 3 = 0 ∧ s_lp 170 4 = s_lp 170 2 ∨ 1 ≤ s_lp 170 3 ∧ s_lp 170 4 < s_lp 170 5) ∧ s_lp 170 4 = st 170 4 ∧ s_lp 170 5 = st 170 5 ∧ (s_lp 170 8 = 0 → st 170 8 = 0 ∧ 1 ≤ st 170 3) ∧ i = i ∧ i ≤ 1 from by omega)⟩
          · refine ⟨rfl, ⟨gI_lp, (show 1 ≤ (2) ∧ (2) ≤ 6 from by omega), (show -2147483648 ≤ (s_lp 170 4) ∧ (s_lp 170 4) ≤ 2147483647 from by omega)⟩, fun s40 q40 => ?_⟩
            obtain ⟨gs40, fs40, p40⟩ := q40
            change (s_lp 170 8 = 0 → s40 170 8 = (2)) ∧ (0 < s_lp 170 8 → s40 170 8 = s_lp 170 8) at p40
            have g49 := g_faultKind gs40
            have e50 : s40 170 4 = s_lp 170 4 := fs40 170 4 rfl rfl
            have e51 : s40 170 5 = s_lp 170 5 := fs40 170 5 rfl rfl
            have e52 : s40 170 2 = s_lp 170 2 := fs40 170 2 rfl rfl
            have e53 : s40 170 3 = s_lp 170 3 := fs40 170 3 rfl rfl
            exact m77 i s40 ⟨gs40, (fr_tr fI_lp fs40 rfl), (show s40 170 4 ≤ s40 170 5 ∧ s40 170 5 ≤ s40 170 2 ∧ (s40 170 3 = 0 ∧ s40 170 4 = s40 170 2 ∨ 1 ≤ s40 170 3 ∧ s40 170 4 < s40 170 5) ∧ s40 170 4 = st 170 4 ∧ s40 170 5 = st 170 5 ∧ (s40 170 8 = 0 → st 170 8 = 0 ∧ 1 ≤ st 170 3) ∧ i = i ∧ i ≤ 1 from by omega)⟩
  have m41 : ∀ (s_m41 : zS), gInv zgt s_m41 ∧ aFr m_fresh st s_m41 ∧ (s_m41 170 4 ≤ s_m41 170 5 ∧ s_m41 170 5 ≤ s_m41 170 2 ∧ (s_m41 170 3 = 0 ∧ s_m41 170 4 = s_m41 170 2 ∨ 1 ≤ s_m41 170 3 ∧ s_m41 170 4 < s_m41 170 5) ∧ s_m41 170 4 = st 170 4 ∧ s_m41 170 5 = st 170 5 ∧ (s_m41 170 8 = 0 → st 170 8 = 0 ∧ 1 ≤ st 170 3)) → K (rx_find rx_m202 41) [(0, .inr (.inr (.inl 170)))] [] s_m41 := by
    intro  s_m41 hi
    obtain ⟨gI_m41, fI_m41, b_m41⟩ := hi
    have g54 := g_signAt gI_m41
    have g55 := g_signEnd gI_m41
    have g57 := g_size hG
    have e56 : s_m41 170 2 = st 170 2 := fI_m41 170 2 rfl rfl
    have g58 := g_sign gI_m41
    have g59 := g_signAt hG
    have g60 := g_signEnd hG
    have g61 := g_faultKind gI_m41
    have g62 := g_faultKind hG
    have g63 := g_sign hG
    refine yr1_ok (Rt := Q) (wc := (wcL [(181, k_lex), (185, k_isOwn), (178, k_blame), (187, k_named), (149, k_ahead)])) (stp := [41, 43, 77, 83]) hcm hcl [] 73 ?_
    show K (rx_find rx_m202 43) [(1, .inl 0), (0, .inr (.inr (.inl 170)))] [] s_m41
    exact hsl _ _ _ _ _ (sb_cons (.tail _ (.head _)) (sb_cons (.head _) sb_nil)) (lp _ 0 s_m41 ⟨gI_m41, fI_m41, (show s_m41 170 4 ≤ s_m41 170 5 ∧ s_m41 170 5 ≤ s_m41 170 2 ∧ (s_m41 170 3 = 0 ∧ s_m41 170 4 = s_m41 170 2 ∨ 1 ≤ s_m41 170 3 ∧ s_m41 170 4 < s_m41 170 5) ∧ s_m41 170 4 = st 170 4 ∧ s_m41 170 5 = st 170 5 ∧ (s_m41 170 8 = 0 → st 170 8 = 0 ∧ 1 ≤ st 170 3) ∧ 0 ≤ (0 : Int) ∧ (0 : Int) ≤ 2 from by omega)⟩ rfl)
  have g64 := g_signAt hG
  have g65 := g_signEnd hG
  have g66 := g_size hG
  have g67 := g_sign hG
  refine yr1_ok (Rt := Q) (wc := (wcL [(181, k_lex), (185, k_isOwn), (178, k_blame), (187, k_named), (149, k_ahead)])) (stp := [41, 43, 77, 83]) hcm hcl [] 73 ?_
  show (170 = 170 ∧ (rq_lex  st ∧ (∀ (s68 : zS), en_lex  st s68 → ((s68 170 8 ≤ (0 : Int) → ((¬ s68 170 3 = (1 : Int) → (170 = 170 ∧ (rq_blame (1) (s68 170 4) s68 ∧ (∀ (s69 : zS), en_blame (1) (s68 170 4) s68 s69 → K (rx_find rx_m202 41) [(0, .inr (.inr (.inl 170)))] [] s69)))) ∧ (¬ (¬ s68 170 3 = (1 : Int)) → (170 = 170 ∧ (∀ (r70 : Int), en_isOwn (s68 170 7) s68 r70 → ((r70 = (0 : Int) → K (rx_find rx_m202 41) [(0, .inr (.inr (.inl 170)))] [] s68) ∧ (¬ (r70 = (0 : Int)) → (170 = 170 ∧ (rq_blame (1) (s68 170 4) s68 ∧ (∀ (s71 : zS), en_blame (1) (s68 170 4) s68 s71 → K (rx_find rx_m202 41) [(0, .inr (.inr (.inl 170)))] [] s71)))))))))) ∧ (¬ (s68 170 8 ≤ (0 : Int)) → Q (some (.inr (.inl 0))) s68)))))
  refine ⟨rfl, hG, fun s68 q68 => ?_⟩
  obtain ⟨gs68, fs68, p68⟩ := q68
  change 0 < st 170 8 → 0 < s68 170 8 at p68
  have g72 := g_faultKind hG
  have g73 := g_faultKind gs68
  refine ⟨fun h74 => ?_, fun h74 => ?_⟩
  · have e75 : s68 170 3 = st 170 3 := fs68 170 3 rfl rfl
    refine ⟨fun h76 => ?_, fun h76 => ?_⟩
    · have e77 : s68 170 4 = st 170 4 := fs68 170 4 rfl rfl
      refine ⟨rfl, ⟨gs68, (show 1 ≤ (1) ∧ (1) ≤ 6 from by omega), (show -2147483648 ≤ (s68 170 4) ∧ (s68 170 4) ≤ 2147483647 from by omega)⟩, fun s69 q69 => ?_⟩
      obtain ⟨gs69, fs69, p69⟩ := q69
      change (s68 170 8 = 0 → s69 170 8 = (1)) ∧ (0 < s68 170 8 → s69 170 8 = s68 170 8) at p69
      have g78 := g_faultKind gs69
      have e79 : s69 170 4 = s68 170 4 := fs69 170 4 rfl rfl
      have e81 : s68 170 5 = st 170 5 := fs68 170 5 rfl rfl
      have e80 : s69 170 5 = s68 170 5 := fs69 170 5 rfl rfl
      have e83 : s68 170 2 = st 170 2 := fs68 170 2 rfl rfl
      have e82 : s69 170 2 = s68 170 2 := fs69 170 2 rfl rfl
      have e84 : s69 170 3 = s68 170 3 := fs69 170 3 rfl rfl
      exact m41 s69 ⟨gs69, (fr_tr (fr_tr (fr_rf _ _) fs68 rfl) fs69 rfl), (show s69 170 4 ≤ s69 170 5 ∧ s69 170 5 ≤ s69 170 2 ∧ (s69 170 3 = 0 ∧ s69 170 4 = s69 170 2 ∨ 1 ≤ s69 170 3 ∧ s69 170 4 < s69 170 5) ∧ s69 170 4 = st 170 4 ∧ s69 170 5 = st 170 5 ∧ (s69 170 8 = 0 → st 170 8 = 0 ∧ 1 ≤ st 170 3) from by omega)⟩
    · have g86 := g_word hG
      have e85 : s68 170 7 = st 170 7 := fs68 170 7 rfl rfl
      refine ⟨rfl, fun r70 q70 => ?_⟩
      have b70 := q70
      change (r70 = 0 ∨ r70 = 1) at b70
      refine ⟨fun h87 => ?_, fun h87 => ?_⟩
      · have e88 : s68 170 4 = st 170 4 := fs68 170 4 rfl rfl
        have e89 : s68 170 5 = st 170 5 := fs68 170 5 rfl rfl
        have e90 : s68 170 2 = st 170 2 := fs68 170 2 rfl rfl
        exact m41 s68 ⟨gs68, (fr_tr (fr_rf _ _) fs68 rfl), (show s68 170 4 ≤ s68 170 5 ∧ s68 170 5 ≤ s68 170 2 ∧ (s68 170 3 = 0 ∧ s68 170 4 = s68 170 2 ∨ 1 ≤ s68 170 3 ∧ s68 170 4 < s68 170 5) ∧ s68 170 4 = st 170 4 ∧ s68 170 5 = st 170 5 ∧ (s68 170 8 = 0 → st 170 8 = 0 ∧ 1 ≤ st 170 3) from by omega)⟩
      · have e91 : s68 170 4 = st 170 4 := fs68 170 4 rfl rfl
        refine ⟨rfl, ⟨gs68, (show 1 ≤ (1) ∧ (1) ≤ 6 from by omega), (show -2147483648 ≤ (s68 170 4) ∧ (s68 170 4) ≤ 2147483647 from by omega)⟩, fun s71 q71 => ?_⟩
        obtain ⟨gs71, fs71, p71⟩ := q71
        change (s68 170 8 = 0 → s71 170 8 = (1)) ∧ (0 < s68 170 8 → s71 170 8 = s68 170 8) at p71
        have g92 := g_faultKind gs71
        have e93 : s71 170 4 = s68 170 4 := fs71 170 4 rfl rfl
        have e95 : s68 170 5 = st 170 5 := fs68 170 5 rfl rfl
        have e94 : s71 170 5 = s68 170 5 := fs71 170 5 rfl rfl
        have e97 : s68 170 2 = st 170 2 := fs68 170 2 rfl rfl
        have e96 : s71 170 2 = s68 170 2 := fs71 170 2 rfl rfl
        have e98 : s71 170 3 = s68 170 3 := fs71 170 3 rfl rfl
        exact m41 s71 ⟨gs71, (fr_tr (fr_tr (fr_rf _ _) fs68 rfl) fs71 rfl), (show s71 170 4 ≤ s71 170 5 ∧ s71 170 5 ≤ s71 170 2 ∧ (s71 170 3 = 0 ∧ s71 170 4 = s71 170 2 ∨ 1 ≤ s71 170 3 ∧ s71 170 4 < s71 170 5) ∧ s71 170 4 = st 170 4 ∧ s71 170 5 = st 170 5 ∧ (s71 170 8 = 0 → st 170 8 = 0 ∧ 1 ≤ st 170 3) from by omega)⟩
  · have e99 : s68 170 4 = st 170 4 := fs68 170 4 rfl rfl
    have e100 : s68 170 5 = st 170 5 := fs68 170 5 rfl rfl
    have e101 : s68 170 2 = st 170 2 := fs68 170 2 rfl rfl
    have e102 : s68 170 3 = st 170 3 := fs68 170 3 rfl rfl
    exact hQ _ _ ⟨gs68, (fr_tr (fr_rf _ _) fs68 rfl), (show s68 170 4 ≤ s68 170 5 ∧ s68 170 5 ≤ s68 170 2 ∧ (s68 170 3 = 0 ∧ s68 170 4 = s68 170 2 ∨ 1 ≤ s68 170 3 ∧ s68 170 4 < s68 170 5) ∧ st 170 4 ≤ s68 170 4 ∧ (s68 170 8 = 0 → st 170 8 = 0 ∧ st 170 5 ≤ s68 170 4 ∧ 1 ≤ st 170 3) from by omega), (show -9223372036854775808 ≤ (0 : Int) ∧ (0 : Int) ≤ 9223372036854775807 from by omega)⟩
theorem k_fresh_m (hTb : aTb zSh rx_tb cl) {D : Nat} (hD : 3 ≤ D) : ∀ as st (Q Q' : zQ), (∀ r st', Q r st' → Q' r st') → k_fresh 202 as st Q → cl D 202 as st Q' := by
  intro as st Q Q' hQ h
  unfold k_fresh at h
  split at h
  · obtain ⟨rfl, h⟩ := h
    exact c_fresh hTb hD (ct_fresh_m hQ h)
  · exact h.elim
set_option maxRecDepth 100000 in
theorem c_knownBut (hTb : aTb zSh rx_tb cl) {D : Nat} (hD : 3 ≤ D) {u : Int} {st : zS} {Q : zQ} (h : ct_knownBut u st Q) : cl D 203 [.inr (.inr (.inl 170)), .inl u] st Q := by
  obtain ⟨d, rfl⟩ : ∃ d, D = d + 1 := ⟨D - 1, by omega⟩
  refine hTb d 203 (rx_m203, 3, 0, 0, 1) rfl _ _ _ (Nat.le_of_ble_eq_true rfl) (fun K hcl hsf hsl => ?_)
  have hcm : zmo (wcL [(181, k_lex), (185, k_isOwn), (178, k_blame), (187, k_named), (201, k_has2), (149, k_ahead)]) (cl d) := (wcL_m (wm_cons (k_lex_m hTb (by omega)) (wm_cons (k_isOwn_m hTb (by omega)) (wm_cons (k_blame_m hTb (by omega)) (wm_cons (k_named_m hTb (by omega)) (wm_cons (k_has2_m hTb (by omega)) (wm_cons (k_ahead_m hTb (by omega)) wm_nil)))))))
  obtain ⟨hR, hQ⟩ := h
  obtain ⟨hG, lx⟩ := hR
  change st 170 4 ≤ st 170 5 ∧ st 170 5 ≤ st 170 2 ∧ (st 170 3 = 0 ∧ st 170 4 = st 170 2 ∨ 1 ≤ st 170 3 ∧ st 170 4 < st 170 5) at lx
  have m91 : ∀ (k : Int) (s_m91 : zS), gInv zgt s_m91 ∧ aFr m_knownBut st s_m91 ∧ (s_m91 170 4 ≤ s_m91 170 5 ∧ s_m91 170 5 ≤ s_m91 170 2 ∧ (s_m91 170 3 = 0 ∧ s_m91 170 4 = s_m91 170 2 ∨ 1 ≤ s_m91 170 3 ∧ s_m91 170 4 < s_m91 170 5) ∧ s_m91 170 4 = st 170 4 ∧ s_m91 170 5 = st 170 5 ∧ (s_m91 170 8 = 0 → st 170 8 = 0 ∧ 1 ≤ st 170 3)) ∧ ((s_m91 170 8 = 0 → 0 ≤ k ∧ k < 8 ∧ k < s_m91 172 (s_m91 170 35 : Int).toNat ∧ hb u k = 0)) → K (rx_find rx_m203 91) [(2, .inl k), (0, .inr (.inr (.inl 170))), (1, .inl u)] [] s_m91 := by
    intro k s_m91 hi
    obtain ⟨gI_m91, fI_m91, b_m91, k_m91⟩ := hi
    have g1 := g_signAt gI_m91
    have g2 := g_signEnd gI_m91
    have g4 := g_size hG
    have e3 : s_m91 170 2 = st 170 2 := fI_m91 170 2 rfl rfl
    have g5 := g_sign gI_m91
    have g6 := g_signAt hG
    have g7 := g_signEnd hG
    have g8 := g_faultKind gI_m91
    have g9 := g_faultKind hG
    have g10 := g_sign hG
    have g12 := g_in hG
    have e11 : s_m91 170 35 = st 170 35 := fI_m91 170 35 rfl rfl
    have g14 := g_places hG (st 170 35 : Int).toNat
    have e13 : s_m91 172 (s_m91 170 35 : Int).toNat = st 172 (st 170 35 : Int).toNat := (fI_m91 172 (s_m91 170 35 : Int).toNat rfl rfl).trans (by rw [e11])
    refine yr1_ok (Rt := Q) (wc := (wcL [(181, k_lex), (185, k_isOwn), (178, k_blame), (187, k_named), (201, k_has2), (149, k_ahead)])) (stp := [91]) hcm hcl [] 79 ?_
    show ((¬ s_m91 170 8 = (0 : Int) → ((s_m91 170 8 ≤ (0 : Int) → Q (some (.inl k)) s_m91) ∧ (¬ (s_m91 170 8 ≤ (0 : Int)) → Q (some (.inl 0)) s_m91))) ∧ (¬ (¬ s_m91 170 8 = (0 : Int)) → (170 = 170 ∧ (rq_ahead  s_m91 ∧ (∀ (s15 : zS), en_ahead  s_m91 s15 → ((s15 170 8 ≤ (0 : Int) → Q (some (.inl k)) s15) ∧ (¬ (s15 170 8 ≤ (0 : Int)) → Q (some (.inl 0)) s15)))))))
    refine ⟨fun h16 => ?_, fun h16 => ?_⟩
    · refine ⟨fun h17 => ?_, fun h17 => ?_⟩
      · exact hQ _ _ ⟨gI_m91, fI_m91, (show s_m91 170 4 ≤ s_m91 170 5 ∧ s_m91 170 5 ≤ s_m91 170 2 ∧ (s_m91 170 3 = 0 ∧ s_m91 170 4 = s_m91 170 2 ∨ 1 ≤ s_m91 170 3 ∧ s_m91 170 4 < s_m91 170 5) ∧ st 170 4 ≤ s_m91 170 4 ∧ (s_m91 170 8 = 0 → st 170 8 = 0 ∧ st 170 5 ≤ s_m91 170 4 ∧ 1 ≤ st 170 3) from by omega), (show 0 ≤ k ∧ k ≤ 7 ∧ (s_m91 170 8 = 0 → k < s_m91 172 (s_m91 170 35 : Int).toNat ∧ hb u k = 0) from by omega)⟩
      · exact hQ _ _ ⟨gI_m91, fI_m91, (show s_m91 170 4 ≤ s_m91 170 5 ∧ s_m91 170 5 ≤ s_m91 170 2 ∧ (s_m91 170 3 = 0 ∧ s_m91 170 4 = s_m91 170 2 ∨ 1 ≤ s_m91 170 3 ∧ s_m91 170 4 < s_m91 170 5) ∧ st 170 4 ≤ s_m91 170 4 ∧ (s_m91 170 8 = 0 → st 170 8 = 0 ∧ st 170 5 ≤ s_m91 170 4 ∧ 1 ≤ st 170 3) from by omega), (show 0 ≤ (0 : Int) ∧ (0 : Int) ≤ 7 ∧ (s_m91 170 8 = 0 → (0 : Int) < s_m91 172 (s_m91 170 35 : Int).toNat ∧ hb u (0 : Int) = 0) from by omega)⟩
    · refine ⟨rfl, ⟨gI_m91, (show s_m91 170 5 ≤ s_m91 170 2 from by omega)⟩, fun s15 q15 => ?_⟩
      obtain ⟨gs15, fs15, p15⟩ := q15
      change s15 170 4 ≤ s15 170 5 ∧ s15 170 5 ≤ s15 170 2 ∧ (s15 170 3 = 0 ∧ s15 170 4 = s15 170 2 ∨ 1 ≤ s15 170 3 ∧ s15 170 4 < s15 170 5) ∧ s_m91 170 5 ≤ s15 170 4 at p15
      have g18 := g_signAt gs15
      have g19 := g_signEnd gs15
      have e20 : s15 170 2 = s_m91 170 2 := fs15 170 2 rfl rfl
      have g21 := g_sign gs15
      have e22 : s15 170 8 = s_m91 170 8 := fs15 170 8 rfl rfl
      refine ⟨fun h23 => ?_, fun h23 => ?_⟩
      · have e24 : s15 170 35 = s_m91 170 35 := fs15 170 35 rfl rfl
        have e26 : s_m91 172 (st 170 35 : Int).toNat = st 172 (st 170 35 : Int).toNat := fI_m91 172 (st 170 35 : Int).toNat rfl rfl
        have e25 : s15 172 (s15 170 35 : Int).toNat = s_m91 172 (st 170 35 : Int).toNat := (fs15 172 (s15 170 35 : Int).toNat rfl rfl).trans (by rw [e24, e11])
        exact hQ _ _ ⟨gs15, (fr_tr fI_m91 fs15 rfl), (show s15 170 4 ≤ s15 170 5 ∧ s15 170 5 ≤ s15 170 2 ∧ (s15 170 3 = 0 ∧ s15 170 4 = s15 170 2 ∨ 1 ≤ s15 170 3 ∧ s15 170 4 < s15 170 5) ∧ st 170 4 ≤ s15 170 4 ∧ (s15 170 8 = 0 → st 170 8 = 0 ∧ st 170 5 ≤ s15 170 4 ∧ 1 ≤ st 170 3) from by omega), (show 0 ≤ k ∧ k ≤ 7 ∧ (s15 170 8 = 0 → k < s15 172 (s15 170 35 : Int).toNat ∧ hb u k = 0) from by omega)⟩
      · have e27 : s15 170 35 = s_m91 170 35 := fs15 170 35 rfl rfl
        have e29 : s_m91 172 (st 170 35 : Int).toNat = st 172 (st 170 35 : Int).toNat := fI_m91 172 (st 170 35 : Int).toNat rfl rfl
        have e28 : s15 172 (s15 170 35 : Int).toNat = s_m91 172 (st 170 35 : Int).toNat := (fs15 172 (s15 170 35 : Int).toNat rfl rfl).trans (by rw [e27, e11])
        exact hQ _ _ ⟨gs15, (fr_tr fI_m91 fs15 rfl), (show s15 170 4 ≤ s15 170 5 ∧ s15 170 5 ≤ s15 170 2 ∧ (s15 170 3 = 0 ∧ s15 170 4 = s15 170 2 ∨ 1 ≤ s15 170 3 ∧ s15 170 4 < s15 170 5) ∧ st 170 4 ≤ s15 170 4 ∧ (s15 170 8 = 0 → st 170 8 = 0 ∧ st 170 5 ≤ s15 170 4 ∧ 1 ≤ st 170 3) from by omega), (show 0 ≤ (0 : Int) ∧ (0 : Int) ≤ 7 ∧ (s15 170 8 = 0 → (0 : Int) < s15 172 (s15 170 35 : Int).toNat ∧ hb u (0 : Int) = 0) from by omega)⟩
  have m61 : ∀ (k : Int) (s_m61 : zS), gInv zgt s_m61 ∧ aFr m_knownBut st s_m61 ∧ (s_m61 170 4 ≤ s_m61 170 5 ∧ s_m61 170 5 ≤ s_m61 170 2 ∧ (s_m61 170 3 = 0 ∧ s_m61 170 4 = s_m61 170 2 ∨ 1 ≤ s_m61 170 3 ∧ s_m61 170 4 < s_m61 170 5) ∧ s_m61 170 4 = st 170 4 ∧ s_m61 170 5 = st 170 5 ∧ (s_m61 170 8 = 0 → st 170 8 = 0 ∧ 1 ≤ st 170 3)) ∧ (-1 ≤ k ∧ k < 8 ∧ (s_m61 170 8 = 0 → k < s_m61 172 (s_m61 170 35 : Int).toNat)) → K (rx_find rx_m203 61) [(0, .inr (.inr (.inl 170))), (1, .inl u)] [.inl k] s_m61 := by
    intro k s_m61 hi
    obtain ⟨gI_m61, fI_m61, b_m61, k_m61⟩ := hi
    have g30 := g_signAt gI_m61
    have g31 := g_signEnd gI_m61
    have g33 := g_size hG
    have e32 : s_m61 170 2 = st 170 2 := fI_m61 170 2 rfl rfl
    have g34 := g_sign gI_m61
    have g35 := g_signAt hG
    have g36 := g_signEnd hG
    have g37 := g_faultKind gI_m61
    have g38 := g_faultKind hG
    have g39 := g_sign hG
    have g41 := g_in hG
    have e40 : s_m61 170 35 = st 170 35 := fI_m61 170 35 rfl rfl
    have g43 := g_places hG (st 170 35 : Int).toNat
    have e42 : s_m61 172 (s_m61 170 35 : Int).toNat = st 172 (st 170 35 : Int).toNat := (fI_m61 172 (s_m61 170 35 : Int).toNat rfl rfl).trans (by rw [e40])
    refine yr1_ok (Rt := Q) (wc := (wcL [(181, k_lex), (185, k_isOwn), (178, k_blame), (187, k_named), (201, k_has2), (149, k_ahead)])) (stp := [61, 91]) hcm hcl [] 79 ?_
    show ((¬ s_m61 170 8 = (0 : Int) → K (rx_find rx_m203 91) [(2, .inl k), (0, .inr (.inr (.inl 170))), (1, .inl u)] [] s_m61) ∧ (¬ (¬ s_m61 170 8 = (0 : Int)) → ((k = ((-1) : Int) → (170 = 170 ∧ (rq_blame (3) (s_m61 170 4) s_m61 ∧ (∀ (s44 : zS), en_blame (3) (s_m61 170 4) s_m61 s44 → K (rx_find rx_m203 91) [(2, .inl k), (0, .inr (.inr (.inl 170))), (1, .inl u)] [] s44)))) ∧ (¬ (k = ((-1) : Int)) → (∀ (r45 : Int), en_has2 u k s_m61 r45 → ((r45 = (0 : Int) → K (rx_find rx_m203 91) [(2, .inl k), (0, .inr (.inr (.inl 170))), (1, .inl u)] [] s_m61) ∧ (¬ (r45 = (0 : Int)) → (170 = 170 ∧ (rq_blame (3) (s_m61 170 4) s_m61 ∧ (∀ (s46 : zS), en_blame (3) (s_m61 170 4) s_m61 s46 → K (rx_find rx_m203 91) [(2, .inl k), (0, .inr (.inr (.inl 170))), (1, .inl u)] [] s46))))))))))
    refine ⟨fun h47 => ?_, fun h47 => ?_⟩
    · exact m91 k s_m61 ⟨gI_m61, fI_m61, (show s_m61 170 4 ≤ s_m61 170 5 ∧ s_m61 170 5 ≤ s_m61 170 2 ∧ (s_m61 170 3 = 0 ∧ s_m61 170 4 = s_m61 170 2 ∨ 1 ≤ s_m61 170 3 ∧ s_m61 170 4 < s_m61 170 5) ∧ s_m61 170 4 = st 170 4 ∧ s_m61 170 5 = st 170 5 ∧ (s_m61 170 8 = 0 → st 170 8 = 0 ∧ 1 ≤ st 170 3) from by omega), (show (s_m61 170 8 = 0 → 0 ≤ k ∧ k < 8 ∧ k < s_m61 172 (s_m61 170 35 : Int).toNat ∧ hb u k = 0) from by omega)⟩
    · refine ⟨fun h48 => ?_, fun h48 => ?_⟩
      · refine ⟨rfl, ⟨gI_m61, (show 1 ≤ (3) ∧ (3) ≤ 6 from by omega), (show -2147483648 ≤ (s_m61 170 4) ∧ (s_m61 170 4) ≤ 2147483647 from by omega)⟩, fun s44 q44 => ?_⟩
        obtain ⟨gs44, fs44, p44⟩ := q44
        change (s_m61 170 8 = 0 → s44 170 8 = (3)) ∧ (0 < s_m61 170 8 → s44 170 8 = s_m61 170 8) at p44
        have g49 := g_faultKind gs44
        have e50 : s44 170 4 = s_m61 170 4 := fs44 170 4 rfl rfl
        have e51 : s44 170 5 = s_m61 170 5 := fs44 170 5 rfl rfl
        have e52 : s44 170 2 = s_m61 170 2 := fs44 170 2 rfl rfl
        have e53 : s44 170 3 = s_m61 170 3 := fs44 170 3 rfl rfl
        have e54 : s44 170 35 = s_m61 170 35 := fs44 170 35 rfl rfl
        have e56 : s_m61 172 (st 170 35 : Int).toNat = st 172 (st 170 35 : Int).toNat := fI_m61 172 (st 170 35 : Int).toNat rfl rfl
        have e55 : s44 172 (s44 170 35 : Int).toNat = s_m61 172 (st 170 35 : Int).toNat := (fs44 172 (s44 170 35 : Int).toNat rfl rfl).trans (by rw [e54, e40])
        exact m91 k s44 ⟨gs44, (fr_tr fI_m61 fs44 rfl), (show s44 170 4 ≤ s44 170 5 ∧ s44 170 5 ≤ s44 170 2 ∧ (s44 170 3 = 0 ∧ s44 170 4 = s44 170 2 ∨ 1 ≤ s44 170 3 ∧ s44 170 4 < s44 170 5) ∧ s44 170 4 = st 170 4 ∧ s44 170 5 = st 170 5 ∧ (s44 170 8 = 0 → st 170 8 = 0 ∧ 1 ≤ st 170 3) from by omega), (show (s44 170 8 = 0 → 0 ≤ k ∧ k < 8 ∧ k < s44 172 (s44 170 35 : Int).toNat ∧ hb u k = 0) from by omega)⟩
      · refine fun r45 q45 => ?_
        have b45 := q45
        change (r45 = 0 ∨ r45 = 1) ∧ r45 = hb u k at b45
        refine ⟨fun h57 => ?_, fun h57 => ?_⟩
        · exact m91 k s_m61 ⟨gI_m61, fI_m61, (show s_m61 170 4 ≤ s_m61 170 5 ∧ s_m61 170 5 ≤ s_m61 170 2 ∧ (s_m61 170 3 = 0 ∧ s_m61 170 4 = s_m61 170 2 ∨ 1 ≤ s_m61 170 3 ∧ s_m61 170 4 < s_m61 170 5) ∧ s_m61 170 4 = st 170 4 ∧ s_m61 170 5 = st 170 5 ∧ (s_m61 170 8 = 0 → st 170 8 = 0 ∧ 1 ≤ st 170 3) from by omega), (show (s_m61 170 8 = 0 → 0 ≤ k ∧ k < 8 ∧ k < s_m61 172 (s_m61 170 35 : Int).toNat ∧ hb u k = 0) from by omega)⟩
        · refine ⟨rfl, ⟨gI_m61, (show 1 ≤ (3) ∧ (3) ≤ 6 from by omega), (show -2147483648 ≤ (s_m61 170 4) ∧ (s_m61 170 4) ≤ 2147483647 from by omega)⟩, fun s46 q46 => ?_⟩
          obtain ⟨gs46, fs46, p46⟩ := q46
          change (s_m61 170 8 = 0 → s46 170 8 = (3)) ∧ (0 < s_m61 170 8 → s46 170 8 = s_m61 170 8) at p46
          have g58 := g_faultKind gs46
          have e59 : s46 170 4 = s_m61 170 4 := fs46 170 4 rfl rfl
          have e60 : s46 170 5 = s_m61 170 5 := fs46 170 5 rfl rfl
          have e61 : s46 170 2 = s_m61 170 2 := fs46 170 2 rfl rfl
          have e62 : s46 170 3 = s_m61 170 3 := fs46 170 3 rfl rfl
          have e63 : s46 170 35 = s_m61 170 35 := fs46 170 35 rfl rfl
          have e65 : s_m61 172 (st 170 35 : Int).toNat = st 172 (st 170 35 : Int).toNat := fI_m61 172 (st 170 35 : Int).toNat rfl rfl
          have e64 : s46 172 (s46 170 35 : Int).toNat = s_m61 172 (st 170 35 : Int).toNat := (fs46 172 (s46 170 35 : Int).toNat rfl rfl).trans (by rw [e63, e40])
          exact m91 k s46 ⟨gs46, (fr_tr fI_m61 fs46 rfl), (show s46 170 4 ≤ s46 170 5 ∧ s46 170 5 ≤ s46 170 2 ∧ (s46 170 3 = 0 ∧ s46 170 4 = s46 170 2 ∨ 1 ≤ s46 170 3 ∧ s46 170 4 < s46 170 5) ∧ s46 170 4 = st 170 4 ∧ s46 170 5 = st 170 5 ∧ (s46 170 8 = 0 → st 170 8 = 0 ∧ 1 ≤ st 170 3) from by omega), (show (s46 170 8 = 0 → 0 ≤ k ∧ k < 8 ∧ k < s46 172 (s46 170 35 : Int).toNat ∧ hb u k = 0) from by omega)⟩
  have m41 : ∀ (s_m41 : zS), gInv zgt s_m41 ∧ aFr m_knownBut st s_m41 ∧ (s_m41 170 4 ≤ s_m41 170 5 ∧ s_m41 170 5 ≤ s_m41 170 2 ∧ (s_m41 170 3 = 0 ∧ s_m41 170 4 = s_m41 170 2 ∨ 1 ≤ s_m41 170 3 ∧ s_m41 170 4 < s_m41 170 5) ∧ s_m41 170 4 = st 170 4 ∧ s_m41 170 5 = st 170 5 ∧ (s_m41 170 8 = 0 → st 170 8 = 0 ∧ 1 ≤ st 170 3)) → K (rx_find rx_m203 41) [(0, .inr (.inr (.inl 170))), (1, .inl u)] [] s_m41 := by
    intro  s_m41 hi
    obtain ⟨gI_m41, fI_m41, b_m41⟩ := hi
    have g66 := g_signAt gI_m41
    have g67 := g_signEnd gI_m41
    have g69 := g_size hG
    have e68 : s_m41 170 2 = st 170 2 := fI_m41 170 2 rfl rfl
    have g70 := g_sign gI_m41
    have g71 := g_signAt hG
    have g72 := g_signEnd hG
    have g73 := g_faultKind gI_m41
    have g74 := g_faultKind hG
    have g75 := g_sign hG
    refine yr1_ok (Rt := Q) (wc := (wcL [(181, k_lex), (185, k_isOwn), (178, k_blame), (187, k_named), (201, k_has2), (149, k_ahead)])) (stp := [41, 61, 91]) hcm hcl [] 79 ?_
    show ((s_m41 170 8 ≤ (0 : Int) → (170 = 170 ∧ (rq_named (0) (s_m41 170 7) s_m41 ∧ (∀ (r76 : Int), en_named (0) (s_m41 170 7) s_m41 r76 → K (rx_find rx_m203 61) [(0, .inr (.inr (.inl 170))), (1, .inl u)] [.inl r76] s_m41)))) ∧ (¬ (s_m41 170 8 ≤ (0 : Int)) → K (rx_find rx_m203 61) [(0, .inr (.inr (.inl 170))), (1, .inl u)] [.inl 0] s_m41))
    refine ⟨fun h77 => ?_, fun h77 => ?_⟩
    · have g78 := g_word gI_m41
      refine ⟨rfl, gI_m41, fun r76 q76 => ?_⟩
      have b76 := q76
      change -1 ≤ r76 ∧ r76 < 8 ∧ ((0) = 0 → r76 < s_m41 172 (s_m41 170 35 : Int).toNat) at b76
      have g80 := g_in hG
      have e79 : s_m41 170 35 = st 170 35 := fI_m41 170 35 rfl rfl
      have g82 := g_places hG (st 170 35 : Int).toNat
      have e81 : s_m41 172 (s_m41 170 35 : Int).toNat = st 172 (st 170 35 : Int).toNat := (fI_m41 172 (s_m41 170 35 : Int).toNat rfl rfl).trans (by rw [e79])
      exact m61 r76 s_m41 ⟨gI_m41, fI_m41, (show s_m41 170 4 ≤ s_m41 170 5 ∧ s_m41 170 5 ≤ s_m41 170 2 ∧ (s_m41 170 3 = 0 ∧ s_m41 170 4 = s_m41 170 2 ∨ 1 ≤ s_m41 170 3 ∧ s_m41 170 4 < s_m41 170 5) ∧ s_m41 170 4 = st 170 4 ∧ s_m41 170 5 = st 170 5 ∧ (s_m41 170 8 = 0 → st 170 8 = 0 ∧ 1 ≤ st 170 3) from by omega), (show -1 ≤ r76 ∧ r76 < 8 ∧ (s_m41 170 8 = 0 → r76 < s_m41 172 (s_m41 170 35 : Int).toNat) from by omega)⟩
    · have g84 := g_in hG
      have e83 : s_m41 170 35 = st 170 35 := fI_m41 170 35 rfl rfl
      have g86 := g_places hG (st 170 35 : Int).toNat
      have e85 : s_m41 172 (s_m41 170 35 : Int).toNat = st 172 (st 170 35 : Int).toNat := (fI_m41 172 (s_m41 170 35 : Int).toNat rfl rfl).trans (by rw [e83])
      exact m61 0 s_m41 ⟨gI_m41, fI_m41, (show s_m41 170 4 ≤ s_m41 170 5 ∧ s_m41 170 5 ≤ s_m41 170 2 ∧ (s_m41 170 3 = 0 ∧ s_m41 170 4 = s_m41 170 2 ∨ 1 ≤ s_m41 170 3 ∧ s_m41 170 4 < s_m41 170 5) ∧ s_m41 170 4 = st 170 4 ∧ s_m41 170 5 = st 170 5 ∧ (s_m41 170 8 = 0 → st 170 8 = 0 ∧ 1 ≤ st 170 3) from by omega), (show -1 ≤ (0 : Int) ∧ (0 : Int) < 8 ∧ (s_m41 170 8 = 0 → (0 : Int) < s_m41 172 (s_m41 170 35 : Int).toNat) from by omega)⟩
  have g87 := g_signAt hG
  have g88 := g_signEnd hG
  have g89 := g_size hG
  have g90 := g_sign hG
  refine yr1_ok (Rt := Q) (wc := (wcL [(181, k_lex), (185, k_isOwn), (178, k_blame), (187, k_named), (201, k_has2), (149, k_ahead)])) (stp := [41, 61, 91]) hcm hcl [] 79 ?_
  show (170 = 170 ∧ (rq_lex  st ∧ (∀ (s91 : zS), en_lex  st s91 → ((s91 170 8 ≤ (0 : Int) → ((¬ s91 170 3 = (1 : Int) → (170 = 170 ∧ (rq_blame (1) (s91 170 4) s91 ∧ (∀ (s92 : zS), en_blame (1) (s91 170 4) s91 s92 → K (rx_find rx_m203 41) [(0, .inr (.inr (.inl 170))), (1, .inl u)] [] s92)))) ∧ (¬ (¬ s91 170 3 = (1 : Int)) → (170 = 170 ∧ (∀ (r93 : Int), en_isOwn (s91 170 7) s91 r93 → ((r93 = (0 : Int) → K (rx_find rx_m203 41) [(0, .inr (.inr (.inl 170))), (1, .inl u)] [] s91) ∧ (¬ (r93 = (0 : Int)) → (170 = 170 ∧ (rq_blame (1) (s91 170 4) s91 ∧ (∀ (s94 : zS), en_blame (1) (s91 170 4) s91 s94 → K (rx_find rx_m203 41) [(0, .inr (.inr (.inl 170))), (1, .inl u)] [] s94)))))))))) ∧ (¬ (s91 170 8 ≤ (0 : Int)) → Q (some (.inl 0)) s91)))))
  refine ⟨rfl, hG, fun s91 q91 => ?_⟩
  obtain ⟨gs91, fs91, p91⟩ := q91
  change 0 < st 170 8 → 0 < s91 170 8 at p91
  have g95 := g_faultKind hG
  have g96 := g_faultKind gs91
  refine ⟨fun h97 => ?_, fun h97 => ?_⟩
  · have e98 : s91 170 3 = st 170 3 := fs91 170 3 rfl rfl
    refine ⟨fun h99 => ?_, fun h99 => ?_⟩
    · have e100 : s91 170 4 = st 170 4 := fs91 170 4 rfl rfl
      refine ⟨rfl, ⟨gs91, (show 1 ≤ (1) ∧ (1) ≤ 6 from by omega), (show -2147483648 ≤ (s91 170 4) ∧ (s91 170 4) ≤ 2147483647 from by omega)⟩, fun s92 q92 => ?_⟩
      obtain ⟨gs92, fs92, p92⟩ := q92
      change (s91 170 8 = 0 → s92 170 8 = (1)) ∧ (0 < s91 170 8 → s92 170 8 = s91 170 8) at p92
      have g101 := g_faultKind gs92
      have e102 : s92 170 4 = s91 170 4 := fs92 170 4 rfl rfl
      have e104 : s91 170 5 = st 170 5 := fs91 170 5 rfl rfl
      have e103 : s92 170 5 = s91 170 5 := fs92 170 5 rfl rfl
      have e106 : s91 170 2 = st 170 2 := fs91 170 2 rfl rfl
      have e105 : s92 170 2 = s91 170 2 := fs92 170 2 rfl rfl
      have e107 : s92 170 3 = s91 170 3 := fs92 170 3 rfl rfl
      exact m41 s92 ⟨gs92, (fr_tr (fr_tr (fr_rf _ _) fs91 rfl) fs92 rfl), (show s92 170 4 ≤ s92 170 5 ∧ s92 170 5 ≤ s92 170 2 ∧ (s92 170 3 = 0 ∧ s92 170 4 = s92 170 2 ∨ 1 ≤ s92 170 3 ∧ s92 170 4 < s92 170 5) ∧ s92 170 4 = st 170 4 ∧ s92 170 5 = st 170 5 ∧ (s92 170 8 = 0 → st 170 8 = 0 ∧ 1 ≤ st 170 3) from by omega)⟩
    · have g109 := g_word hG
      have e108 : s91 170 7 = st 170 7 := fs91 170 7 rfl rfl
      refine ⟨rfl, fun r93 q93 => ?_⟩
      have b93 := q93
      change (r93 = 0 ∨ r93 = 1) at b93
      refine ⟨fun h110 => ?_, fun h110 => ?_⟩
      · have e111 : s91 170 4 = st 170 4 := fs91 170 4 rfl rfl
        have e112 : s91 170 5 = st 170 5 := fs91 170 5 rfl rfl
        have e113 : s91 170 2 = st 170 2 := fs91 170 2 rfl rfl
        exact m41 s91 ⟨gs91, (fr_tr (fr_rf _ _) fs91 rfl), (show s91 170 4 ≤ s91 170 5 ∧ s91 170 5 ≤ s91 170 2 ∧ (s91 170 3 = 0 ∧ s91 170 4 = s91 170 2 ∨ 1 ≤ s91 170 3 ∧ s91 170 4 < s91 170 5) ∧ s91 170 4 = st 170 4 ∧ s91 170 5 = st 170 5 ∧ (s91 170 8 = 0 → st 170 8 = 0 ∧ 1 ≤ st 170 3) from by omega)⟩
      · have e114 : s91 170 4 = st 170 4 := fs91 170 4 rfl rfl
        refine ⟨rfl, ⟨gs91, (show 1 ≤ (1) ∧ (1) ≤ 6 from by omega), (show -2147483648 ≤ (s91 170 4) ∧ (s91 170 4) ≤ 2147483647 from by omega)⟩, fun s94 q94 => ?_⟩
        obtain ⟨gs94, fs94, p94⟩ := q94
        change (s91 170 8 = 0 → s94 170 8 = (1)) ∧ (0 < s91 170 8 → s94 170 8 = s91 170 8) at p94
        have g115 := g_faultKind gs94
        have e116 : s94 170 4 = s91 170 4 := fs94 170 4 rfl rfl
        have e118 : s91 170 5 = st 170 5 := fs91 170 5 rfl rfl
        have e117 : s94 170 5 = s91 170 5 := fs94 170 5 rfl rfl
        have e120 : s91 170 2 = st 170 2 := fs91 170 2 rfl rfl
        have e119 : s94 170 2 = s91 170 2 := fs94 170 2 rfl rfl
        have e121 : s94 170 3 = s91 170 3 := fs94 170 3 rfl rfl
        exact m41 s94 ⟨gs94, (fr_tr (fr_tr (fr_rf _ _) fs91 rfl) fs94 rfl), (show s94 170 4 ≤ s94 170 5 ∧ s94 170 5 ≤ s94 170 2 ∧ (s94 170 3 = 0 ∧ s94 170 4 = s94 170 2 ∨ 1 ≤ s94 170 3 ∧ s94 170 4 < s94 170 5) ∧ s94 170 4 = st 170 4 ∧ s94 170 5 = st 170 5 ∧ (s94 170 8 = 0 → st 170 8 = 0 ∧ 1 ≤ st 170 3) from by omega)⟩
  · have e122 : s91 170 4 = st 170 4 := fs91 170 4 rfl rfl
    have e123 : s91 170 5 = st 170 5 := fs91 170 5 rfl rfl
    have e124 : s91 170 2 = st 170 2 := fs91 170 2 rfl rfl
    have e125 : s91 170 3 = st 170 3 := fs91 170 3 rfl rfl
    have g127 := g_in hG
    have e126 : s91 170 35 = st 170 35 := fs91 170 35 rfl rfl
    have g129 := g_places hG (st 170 35 : Int).toNat
    have e128 : s91 172 (s91 170 35 : Int).toNat = st 172 (st 170 35 : Int).toNat := (fs91 172 (s91 170 35 : Int).toNat rfl rfl).trans (by rw [e126])
    exact hQ _ _ ⟨gs91, (fr_tr (fr_rf _ _) fs91 rfl), (show s91 170 4 ≤ s91 170 5 ∧ s91 170 5 ≤ s91 170 2 ∧ (s91 170 3 = 0 ∧ s91 170 4 = s91 170 2 ∨ 1 ≤ s91 170 3 ∧ s91 170 4 < s91 170 5) ∧ st 170 4 ≤ s91 170 4 ∧ (s91 170 8 = 0 → st 170 8 = 0 ∧ st 170 5 ≤ s91 170 4 ∧ 1 ≤ st 170 3) from by omega), (show 0 ≤ (0 : Int) ∧ (0 : Int) ≤ 7 ∧ (s91 170 8 = 0 → (0 : Int) < s91 172 (s91 170 35 : Int).toNat ∧ hb u (0 : Int) = 0) from by omega)⟩
theorem k_knownBut_m (hTb : aTb zSh rx_tb cl) {D : Nat} (hD : 3 ≤ D) : ∀ as st (Q Q' : zQ), (∀ r st', Q r st' → Q' r st') → k_knownBut 203 as st Q → cl D 203 as st Q' := by
  intro as st Q Q' hQ h
  unfold k_knownBut at h
  split at h
  · obtain ⟨rfl, h⟩ := h
    exact c_knownBut hTb hD (ct_knownBut_m hQ h)
  · exact h.elim
end R65
