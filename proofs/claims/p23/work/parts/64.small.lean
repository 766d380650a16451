/-! printed by wip/p32/lib1.py: the smallest methods of the reference -/
theorem zup_two (st : zS) (c j i : Nat) (v : Int) : (i = j → zup st c j v c i = v) ∧ (¬ i = j → zup st c j v c i = st c i) := ⟨fun e => by rw [e]; exact zup_eq st c j v, fun e => zup_ni st v e⟩
theorem sb_nil {L : zL} : ∀ q ∈ ([] : zL), q ∈ L := fun _ h => by cases h
theorem sb_cons {a : Nat × zV} {L L' : zL} (h : a ∈ L) (t : ∀ q ∈ L', q ∈ L) : ∀ q ∈ a :: L', q ∈ L := by
  intro q hq
  rcases List.mem_cons.mp hq with e | e
  · rw [e]; exact h
  · exact t q e
theorem zlor_ok (a b : Int) : zsL (ze (Nat.lor (zl a) (zl b))) := ze_ok (Nat.or_lt_two_pow (n := 64) (zl_lt a) (zl_lt b))
theorem zdor_ok (a b : Int) : zsI (zd (Nat.lor (zi a) (zi b))) := zd_ok (Nat.or_lt_two_pow (n := 32) (zi_lt a) (zi_lt b))
theorem zdxor_ok (a b : Int) : zsI (zd (Nat.xor (zi a) (zi b))) := zd_ok (Nat.xor_lt_two_pow (n := 32) (zi_lt a) (zi_lt b))
theorem zdand_ok (a b : Int) : zsI (zd (Nat.land (zi a) (zi b))) := zd_ok (Nat.lt_of_le_of_lt Nat.and_le_left (zi_lt a))
def hb (s k : Int) : Int := if zd (Nat.land (zi (s / zpw (k % 32).toNat)) (zi 1)) = 1 then 1 else 0
def en_is (v : Int) (a : Int) (b : Int) (st : zS) (r : Int) : Prop := ((r = 0 ∨ r = 1) ∧ (r = 1 ↔ a ≤ v ∧ v ≤ b))
def ct_is (v : Int) (a : Int) (b : Int) (st : zS) (Q : zQ) : Prop := ∀ (r : Int), en_is v a b st r → Q (some (.inl r)) st
theorem ct_is_m {v a b : Int} {st : zS} {Q Q' : zQ} (hQ : ∀ r st', Q r st' → Q' r st') (h : ct_is v a b st Q) : ct_is v a b st Q' := fun x0 x1 => hQ _ _ (h x0 x1)
def k_is : zCall := fun _ as st Q => match as with
  | [.inl v, .inl a, .inl b] => ct_is v a b st Q
  | _ => False
theorem k_is_mon : zmon k_is := by
  intro nu as st Q Q' hQ h
  unfold k_is at h ⊢
  split at h
  · exact ct_is_m hQ h
  · exact h.elim
def en_isLetter (c : Int) (st : zS) (r : Int) : Prop := ((r = 0 ∨ r = 1) ∧ (r = 1 ↔ 97 ≤ c ∧ c ≤ 122))
def ct_isLetter (c : Int) (st : zS) (Q : zQ) : Prop := ∀ (r : Int), en_isLetter c st r → Q (some (.inl r)) st
theorem ct_isLetter_m {c : Int} {st : zS} {Q Q' : zQ} (hQ : ∀ r st', Q r st' → Q' r st') (h : ct_isLetter c st Q) : ct_isLetter c st Q' := fun x0 x1 => hQ _ _ (h x0 x1)
def k_isLetter : zCall := fun _ as st Q => match as with
  | [.inl c] => ct_isLetter c st Q
  | _ => False
theorem k_isLetter_mon : zmon k_isLetter := by
  intro nu as st Q Q' hQ h
  unfold k_isLetter at h ⊢
  split at h
  · exact ct_isLetter_m hQ h
  · exact h.elim
def en_isDigit (c : Int) (st : zS) (r : Int) : Prop := ((r = 0 ∨ r = 1) ∧ (r = 1 ↔ 48 ≤ c ∧ c ≤ 57))
def ct_isDigit (c : Int) (st : zS) (Q : zQ) : Prop := ∀ (r : Int), en_isDigit c st r → Q (some (.inl r)) st
theorem ct_isDigit_m {c : Int} {st : zS} {Q Q' : zQ} (hQ : ∀ r st', Q r st' → Q' r st') (h : ct_isDigit c st Q) : ct_isDigit c st Q' := fun x0 x1 => hQ _ _ (h x0 x1)
def k_isDigit : zCall := fun _ as st Q => match as with
  | [.inl c] => ct_isDigit c st Q
  | _ => False
theorem k_isDigit_mon : zmon k_isDigit := by
  intro nu as st Q Q' hQ h
  unfold k_isDigit at h ⊢
  split at h
  · exact ct_isDigit_m hQ h
  · exact h.elim
def en_has2 (a : Int) (k : Int) (st : zS) (r : Int) : Prop := ((r = 0 ∨ r = 1) ∧ r = hb a k)
def ct_has2 (a : Int) (k : Int) (st : zS) (Q : zQ) : Prop := ∀ (r : Int), en_has2 a k st r → Q (some (.inl r)) st
theorem ct_has2_m {a k : Int} {st : zS} {Q Q' : zQ} (hQ : ∀ r st', Q r st' → Q' r st') (h : ct_has2 a k st Q) : ct_has2 a k st Q' := fun x0 x1 => hQ _ _ (h x0 x1)
def k_has2 : zCall := fun _ as st Q => match as with
  | [.inl a, .inl k] => ct_has2 a k st Q
  | _ => False
theorem k_has2_mon : zmon k_has2 := by
  intro nu as st Q Q' hQ h
  unfold k_has2 at h ⊢
  split at h
  · exact ct_has2_m hQ h
  · exact h.elim
def en_isSign (c : Int) (st : zS) (r : Int) : Prop := ((r = 0 ∨ r = 1) ∧ (r = 1 ↔ st 170 3 = 3 ∧ st 170 6 = c))
def ct_isSign (c : Int) (st : zS) (Q : zQ) : Prop := ∀ (r : Int), en_isSign c st r → Q (some (.inl r)) st
theorem ct_isSign_m {c : Int} {st : zS} {Q Q' : zQ} (hQ : ∀ r st', Q r st' → Q' r st') (h : ct_isSign c st Q) : ct_isSign c st Q' := fun x0 x1 => hQ _ _ (h x0 x1)
def k_isSign : zCall := fun _ as st Q => match as with
  | [.inr (.inr (.inl z_o)), .inl c] => z_o = 170 ∧ ct_isSign c st Q
  | _ => False
theorem k_isSign_mon : zmon k_isSign := by
  intro nu as st Q Q' hQ h
  unfold k_isSign at h ⊢
  split at h
  · exact ⟨h.1, ct_isSign_m hQ h.2⟩
  · exact h.elim
def en_isWord (w : Int) (st : zS) (r : Int) : Prop := ((r = 0 ∨ r = 1) ∧ (r = 1 ↔ st 170 3 = 1 ∧ st 170 7 = w))
def ct_isWord (w : Int) (st : zS) (Q : zQ) : Prop := ∀ (r : Int), en_isWord w st r → Q (some (.inl r)) st
theorem ct_isWord_m {w : Int} {st : zS} {Q Q' : zQ} (hQ : ∀ r st', Q r st' → Q' r st') (h : ct_isWord w st Q) : ct_isWord w st Q' := fun x0 x1 => hQ _ _ (h x0 x1)
def k_isWord : zCall := fun _ as st Q => match as with
  | [.inr (.inr (.inl z_o)), .inr (.inl w)] => z_o = 170 ∧ ct_isWord w st Q
  | _ => False
theorem k_isWord_mon : zmon k_isWord := by
  intro nu as st Q Q' hQ h
  unfold k_isWord at h ⊢
  split at h
  · exact ⟨h.1, ct_isWord_m hQ h.2⟩
  · exact h.elim
def en_isTest (k : Int) (st : zS) (r : Int) : Prop := ((r = 0 ∨ r = 1) ∧ (r = 1 ↔ k = 1 ∨ k = 5 ∨ k = 6))
def ct_isTest (k : Int) (st : zS) (Q : zQ) : Prop := ∀ (r : Int), en_isTest k st r → Q (some (.inl r)) st
theorem ct_isTest_m {k : Int} {st : zS} {Q Q' : zQ} (hQ : ∀ r st', Q r st' → Q' r st') (h : ct_isTest k st Q) : ct_isTest k st Q' := fun x0 x1 => hQ _ _ (h x0 x1)
def k_isTest : zCall := fun _ as st Q => match as with
  | [.inl k] => ct_isTest k st Q
  | _ => False
theorem k_isTest_mon : zmon k_isTest := by
  intro nu as st Q Q' hQ h
  unfold k_isTest at h ⊢
  split at h
  · exact ct_isTest_m hQ h
  · exact h.elim
def rq_between (b : Int) (x : Int) (y : Int) (st : zS) : Prop := (0 ≤ b ∧ b ≤ 1 ∧ 0 ≤ x ∧ x < 8 ∧ 0 ≤ y ∧ y < 8)
def en_between (b : Int) (x : Int) (y : Int) (st : zS) (r : Int) : Prop := (r = st 177 (64 * b + 8 * x + y : Int).toNat)
def ct_between (b : Int) (x : Int) (y : Int) (st : zS) (Q : zQ) : Prop := rq_between b x y st ∧ (∀ (r : Int), en_between b x y st r → Q (some (.inl r)) st)
theorem ct_between_m {b x y : Int} {st : zS} {Q Q' : zQ} (hQ : ∀ r st', Q r st' → Q' r st') (h : ct_between b x y st Q) : ct_between b x y st Q' := ⟨h.1, fun x0 x1 => hQ _ _ (h.2 x0 x1)⟩
def k_between : zCall := fun _ as st Q => match as with
  | [.inr (.inr (.inl z_o)), .inl b, .inl x, .inl y] => z_o = 170 ∧ ct_between b x y st Q
  | _ => False
theorem k_between_mon : zmon k_between := by
  intro nu as st Q Q' hQ h
  unfold k_between at h ⊢
  split at h
  · exact ⟨h.1, ct_between_m hQ h.2⟩
  · exact h.elim
def rq_isPlace (k : Int) (st : zS) : Prop := gInv zgt st
def en_isPlace (k : Int) (st : zS) (r : Int) : Prop := ((r = 0 ∨ r = 1) ∧ (r = 1 ↔ 0 ≤ k ∧ k < st 172 (st 170 13 : Int).toNat))
def ct_isPlace (k : Int) (st : zS) (Q : zQ) : Prop := rq_isPlace k st ∧ (∀ (r : Int), en_isPlace k st r → Q (some (.inl r)) st)
theorem ct_isPlace_m {k : Int} {st : zS} {Q Q' : zQ} (hQ : ∀ r st', Q r st' → Q' r st') (h : ct_isPlace k st Q) : ct_isPlace k st Q' := ⟨h.1, fun x0 x1 => hQ _ _ (h.2 x0 x1)⟩
def k_isPlace : zCall := fun _ as st Q => match as with
  | [.inr (.inr (.inl z_o)), .inl k] => z_o = 170 ∧ ct_isPlace k st Q
  | _ => False
theorem k_isPlace_mon : zmon k_isPlace := by
  intro nu as st Q Q' hQ h
  unfold k_isPlace at h ⊢
  split at h
  · exact ⟨h.1, ct_isPlace_m hQ h.2⟩
  · exact h.elim
def rq_isTold (k : Int) (st : zS) : Prop := gInv zgt st ∧ (0 ≤ k ∧ k ≤ 1)
def en_isTold (k : Int) (st : zS) (r : Int) : Prop := ((r = 0 ∨ r = 1) ∧ (r = 1 ↔ ¬ st 186 (2 * st 170 13 + k : Int).toNat = -1))
def ct_isTold (k : Int) (st : zS) (Q : zQ) : Prop := rq_isTold k st ∧ (∀ (r : Int), en_isTold k st r → Q (some (.inl r)) st)
theorem ct_isTold_m {k : Int} {st : zS} {Q Q' : zQ} (hQ : ∀ r st', Q r st' → Q' r st') (h : ct_isTold k st Q) : ct_isTold k st Q' := ⟨h.1, fun x0 x1 => hQ _ _ (h.2 x0 x1)⟩
def k_isTold : zCall := fun _ as st Q => match as with
  | [.inr (.inr (.inl z_o)), .inl k] => z_o = 170 ∧ ct_isTold k st Q
  | _ => False
theorem k_isTold_mon : zmon k_isTold := by
  intro nu as st Q Q' hQ h
  unfold k_isTold at h ⊢
  split at h
  · exact ⟨h.1, ct_isTold_m hQ h.2⟩
  · exact h.elim
def rq_heatNow  (st : zS) : Prop := gInv zgt st
def en_heatNow  (st : zS) (r : Int) : Prop := (-2147483648 ≤ r ∧ r ≤ 2147483647)
def ct_heatNow  (st : zS) (Q : zQ) : Prop := rq_heatNow  st ∧ (∀ (r : Int), en_heatNow  st r → Q (some (.inl r)) st)
theorem ct_heatNow_m {st : zS} {Q Q' : zQ} (hQ : ∀ r st', Q r st' → Q' r st') (h : ct_heatNow  st Q) : ct_heatNow  st Q' := ⟨h.1, fun x0 x1 => hQ _ _ (h.2 x0 x1)⟩
def k_heatNow : zCall := fun _ as st Q => match as with
  | [.inr (.inr (.inl z_o))] => z_o = 170 ∧ ct_heatNow  st Q
  | _ => False
theorem k_heatNow_mon : zmon k_heatNow := by
  intro nu as st Q Q' hQ h
  unfold k_heatNow at h ⊢
  split at h
  · exact ⟨h.1, ct_heatNow_m hQ h.2⟩
  · exact h.elim
def rq_slot (k : Int) (st : zS) : Prop := gInv zgt st ∧ (0 ≤ k ∧ k ≤ 20)
def en_slot (k : Int) (st : zS) (r : Int) : Prop := (r = 2 + (st 170 56 + k) % 20)
def ct_slot (k : Int) (st : zS) (Q : zQ) : Prop := rq_slot k st ∧ (∀ (r : Int), en_slot k st r → Q (some (.inl r)) st)
theorem ct_slot_m {k : Int} {st : zS} {Q Q' : zQ} (hQ : ∀ r st', Q r st' → Q' r st') (h : ct_slot k st Q) : ct_slot k st Q' := ⟨h.1, fun x0 x1 => hQ _ _ (h.2 x0 x1)⟩
def k_slot : zCall := fun _ as st Q => match as with
  | [.inr (.inr (.inl z_o)), .inl k] => z_o = 170 ∧ ct_slot k st Q
  | _ => False
theorem k_slot_mon : zmon k_slot := by
  intro nu as st Q Q' hQ h
  unfold k_slot at h ⊢
  split at h
  · exact ⟨h.1, ct_slot_m hQ h.2⟩
  · exact h.elim
def m_blame : aM := ([(170, 8), (170, 9)], [])
def rq_blame (k : Int) (p : Int) (st : zS) : Prop := gInv zgt st ∧ (1 ≤ k ∧ k ≤ 6) ∧ (-2147483648 ≤ p ∧ p ≤ 2147483647)
def en_blame (k : Int) (p : Int) (st : zS) (s1 : zS) : Prop := gInv zgt s1 ∧ aFr m_blame st s1 ∧ ((st 170 8 = 0 → s1 170 8 = k) ∧ (0 < st 170 8 → s1 170 8 = st 170 8))
def ct_blame (k : Int) (p : Int) (st : zS) (Q : zQ) : Prop := rq_blame k p st ∧ (∀ (s1 : zS), en_blame k p st s1 → Q none s1)
theorem ct_blame_m {k p : Int} {st : zS} {Q Q' : zQ} (hQ : ∀ r st', Q r st' → Q' r st') (h : ct_blame k p st Q) : ct_blame k p st Q' := ⟨h.1, fun x0 x1 => hQ _ _ (h.2 x0 x1)⟩
def k_blame : zCall := fun _ as st Q => match as with
  | [.inr (.inr (.inl z_o)), .inl k, .inl p] => z_o = 170 ∧ ct_blame k p st Q
  | _ => False
theorem k_blame_mon : zmon k_blame := by
  intro nu as st Q Q' hQ h
  unfold k_blame at h ⊢
  split at h
  · exact ⟨h.1, ct_blame_m hQ h.2⟩
  · exact h.elim
def m_lex : aM := ([(170, 8), (170, 9)], [])
def rq_lex  (st : zS) : Prop := gInv zgt st
def en_lex  (st : zS) (s1 : zS) : Prop := gInv zgt s1 ∧ aFr m_lex st s1 ∧ (0 < st 170 8 → 0 < s1 170 8)
def ct_lex  (st : zS) (Q : zQ) : Prop := rq_lex  st ∧ (∀ (s1 : zS), en_lex  st s1 → Q none s1)
theorem ct_lex_m {st : zS} {Q Q' : zQ} (hQ : ∀ r st', Q r st' → Q' r st') (h : ct_lex  st Q) : ct_lex  st Q' := ⟨h.1, fun x0 x1 => hQ _ _ (h.2 x0 x1)⟩
def k_lex : zCall := fun _ as st Q => match as with
  | [.inr (.inr (.inl z_o))] => z_o = 170 ∧ ct_lex  st Q
  | _ => False
theorem k_lex_mon : zmon k_lex := by
  intro nu as st Q Q' hQ h
  unfold k_lex at h ⊢
  split at h
  · exact ⟨h.1, ct_lex_m hQ h.2⟩
  · exact h.elim
def rq_isAhead (n : Int) (a : Int) (b : Int) (st : zS) : Prop := gInv zgt st ∧ (0 ≤ a ∧ b ≤ 40)
def en_isAhead (n : Int) (a : Int) (b : Int) (st : zS) (r : Int) : Prop := ((r = 0 ∨ r = 1) ∧ (r = 1 → a ≤ n ∧ n ≤ b))
def ct_isAhead (n : Int) (a : Int) (b : Int) (st : zS) (Q : zQ) : Prop := rq_isAhead n a b st ∧ (∀ (r : Int), en_isAhead n a b st r → Q (some (.inl r)) st)
theorem ct_isAhead_m {n a b : Int} {st : zS} {Q Q' : zQ} (hQ : ∀ r st', Q r st' → Q' r st') (h : ct_isAhead n a b st Q) : ct_isAhead n a b st Q' := ⟨h.1, fun x0 x1 => hQ _ _ (h.2 x0 x1)⟩
def k_isAhead : zCall := fun _ as st Q => match as with
  | [.inr (.inr (.inl z_o)), .inl n, .inl a, .inl b] => z_o = 170 ∧ ct_isAhead n a b st Q
  | _ => False
theorem k_isAhead_mon : zmon k_isAhead := by
  intro nu as st Q Q' hQ h
  unfold k_isAhead at h ⊢
  split at h
  · exact ⟨h.1, ct_isAhead_m hQ h.2⟩
  · exact h.elim
section R64
variable {cl : Nat → zCall}
set_option maxRecDepth 100000 in
theorem c_is (hTb : aTb zSh rx_tb cl) {D : Nat} (hD : 1 ≤ D) {v a b : Int} {st : zS} {Q : zQ} (h : ct_is v a b st Q) : cl D 8 [.inl v, .inl a, .inl b] st Q := by
  obtain ⟨d, rfl⟩ : ∃ d, D = d + 1 := ⟨D - 1, by omega⟩
  refine hTb d 8 (rx_m8, 3, 0, 0, 2) rfl _ _ _ (Nat.le_of_ble_eq_true rfl) (fun K hcl hsf hsl => ?_)
  have hcm : zmo (zno) (cl d) := zno_m
  have hQ := h
  refine yr1_ok (Rt := Q) (wc := (zno)) (stp := []) hcm hcl [] 30 ?_
  show ((v < a → ((0 = (0 : Int) ∨ 0 = (1 : Int)) ∧ Q (some (.inl 0)) st)) ∧ (¬ (v < a) → ((b < v → ((0 = (0 : Int) ∨ 0 = (1 : Int)) ∧ Q (some (.inl 0)) st)) ∧ (¬ (b < v) → ((1 = (0 : Int) ∨ 1 = (1 : Int)) ∧ Q (some (.inl 1)) st)))))
  refine ⟨fun h1 => ?_, fun h1 => ?_⟩
  · refine ⟨by omega, ?_⟩
    exact hQ _ (show ((0 : Int) = 0 ∨ (0 : Int) = 1) ∧ ((0 : Int) = 1 ↔ a ≤ v ∧ v ≤ b) from by omega)
  · refine ⟨fun h2 => ?_, fun h2 => ?_⟩
    · refine ⟨by omega, ?_⟩
      exact hQ _ (show ((0 : Int) = 0 ∨ (0 : Int) = 1) ∧ ((0 : Int) = 1 ↔ a ≤ v ∧ v ≤ b) from by omega)
    · refine ⟨by omega, ?_⟩
      exact hQ _ (show ((1 : Int) = 0 ∨ (1 : Int) = 1) ∧ ((1 : Int) = 1 ↔ a ≤ v ∧ v ≤ b) from by omega)
theorem k_is_m (hTb : aTb zSh rx_tb cl) {D : Nat} (hD : 1 ≤ D) : ∀ as st (Q Q' : zQ), (∀ r st', Q r st' → Q' r st') → k_is 8 as st Q → cl D 8 as st Q' := by
  intro as st Q Q' hQ h
  unfold k_is at h
  split at h
  · exact c_is hTb hD (ct_is_m hQ h)
  · exact h.elim
set_option maxRecDepth 100000 in
theorem c_isLetter (hTb : aTb zSh rx_tb cl) {D : Nat} (hD : 1 ≤ D) {c : Int} {st : zS} {Q : zQ} (h : ct_isLetter c st Q) : cl D 179 [.inl c] st Q := by
  obtain ⟨d, rfl⟩ : ∃ d, D = d + 1 := ⟨D - 1, by omega⟩
  refine hTb d 179 (rx_m179, 1, 0, 0, 2) rfl _ _ _ (Nat.le_of_ble_eq_true rfl) (fun K hcl hsf hsl => ?_)
  have hcm : zmo (zno) (cl d) := zno_m
  have hQ := h
  refine yr1_ok (Rt := Q) (wc := (zno)) (stp := []) hcm hcl [] 30 ?_
  show ((c < (97 : Int) → ((0 = (0 : Int) ∨ 0 = (1 : Int)) ∧ Q (some (.inl 0)) st)) ∧ (¬ (c < (97 : Int)) → (((122 : Int) < c → ((0 = (0 : Int) ∨ 0 = (1 : Int)) ∧ Q (some (.inl 0)) st)) ∧ (¬ ((122 : Int) < c) → ((1 = (0 : Int) ∨ 1 = (1 : Int)) ∧ Q (some (.inl 1)) st)))))
  refine ⟨fun h1 => ?_, fun h1 => ?_⟩
  · refine ⟨by omega, ?_⟩
    exact hQ _ (show ((0 : Int) = 0 ∨ (0 : Int) = 1) ∧ ((0 : Int) = 1 ↔ 97 ≤ c ∧ c ≤ 122) from by omega)
  · refine ⟨fun h2 => ?_, fun h2 => ?_⟩
    · refine ⟨by omega, ?_⟩
      exact hQ _ (show ((0 : Int) = 0 ∨ (0 : Int) = 1) ∧ ((0 : Int) = 1 ↔ 97 ≤ c ∧ c ≤ 122) from by omega)
    · refine ⟨by omega, ?_⟩
      exact hQ _ (show ((1 : Int) = 0 ∨ (1 : Int) = 1) ∧ ((1 : Int) = 1 ↔ 97 ≤ c ∧ c ≤ 122) from by omega)
theorem k_isLetter_m (hTb : aTb zSh rx_tb cl) {D : Nat} (hD : 1 ≤ D) : ∀ as st (Q Q' : zQ), (∀ r st', Q r st' → Q' r st') → k_isLetter 179 as st Q → cl D 179 as st Q' := by
  intro as st Q Q' hQ h
  unfold k_isLetter at h
  split at h
  · exact c_isLetter hTb hD (ct_isLetter_m hQ h)
  · exact h.elim
set_option maxRecDepth 100000 in
theorem c_isDigit (hTb : aTb zSh rx_tb cl) {D : Nat} (hD : 1 ≤ D) {c : Int} {st : zS} {Q : zQ} (h : ct_isDigit c st Q) : cl D 180 [.inl c] st Q := by
  obtain ⟨d, rfl⟩ : ∃ d, D = d + 1 := ⟨D - 1, by omega⟩
  refine hTb d 180 (rx_m180, 1, 0, 0, 2) rfl _ _ _ (Nat.le_of_ble_eq_true rfl) (fun K hcl hsf hsl => ?_)
  have hcm : zmo (zno) (cl d) := zno_m
  have hQ := h
  refine yr1_ok (Rt := Q) (wc := (zno)) (stp := []) hcm hcl [] 30 ?_
  show ((c < (48 : Int) → ((0 = (0 : Int) ∨ 0 = (1 : Int)) ∧ Q (some (.inl 0)) st)) ∧ (¬ (c < (48 : Int)) → (((57 : Int) < c → ((0 = (0 : Int) ∨ 0 = (1 : Int)) ∧ Q (some (.inl 0)) st)) ∧ (¬ ((57 : Int) < c) → ((1 = (0 : Int) ∨ 1 = (1 : Int)) ∧ Q (some (.inl 1)) st)))))
  refine ⟨fun h1 => ?_, fun h1 => ?_⟩
  · refine ⟨by omega, ?_⟩
    exact hQ _ (show ((0 : Int) = 0 ∨ (0 : Int) = 1) ∧ ((0 : Int) = 1 ↔ 48 ≤ c ∧ c ≤ 57) from by omega)
  · refine ⟨fun h2 => ?_, fun h2 => ?_⟩
    · refine ⟨by omega, ?_⟩
      exact hQ _ (show ((0 : Int) = 0 ∨ (0 : Int) = 1) ∧ ((0 : Int) = 1 ↔ 48 ≤ c ∧ c ≤ 57) from by omega)
    · refine ⟨by omega, ?_⟩
      exact hQ _ (show ((1 : Int) = 0 ∨ (1 : Int) = 1) ∧ ((1 : Int) = 1 ↔ 48 ≤ c ∧ c ≤ 57) from by omega)
theorem k_isDigit_m (hTb : aTb zSh rx_tb cl) {D : Nat} (hD : 1 ≤ D) : ∀ as st (Q Q' : zQ), (∀ r st', Q r st' → Q' r st') → k_isDigit 180 as st Q → cl D 180 as st Q' := by
  intro as st Q Q' hQ h
  unfold k_isDigit at h
  split at h
  · exact c_isDigit hTb hD (ct_isDigit_m hQ h)
  · exact h.elim
set_option maxRecDepth 100000 in
theorem c_has2 (hTb : aTb zSh rx_tb cl) {D : Nat} (hD : 1 ≤ D) {a k : Int} {st : zS} {Q : zQ} (h : ct_has2 a k st Q) : cl D 201 [.inl a, .inl k] st Q := by
  obtain ⟨d, rfl⟩ : ∃ d, D = d + 1 := ⟨D - 1, by omega⟩
  refine hTb d 201 (rx_m201, 2, 0, 0, 2) rfl _ _ _ (Nat.le_of_ble_eq_true rfl) (fun K hcl hsf hsl => ?_)
  have hcm : zmo (zno) (cl d) := zno_m
  have hQ := h
  refine yr1_ok (Rt := Q) (wc := (zno)) (stp := []) hcm hcl [] 31 ?_
  show ((¬ zd (Nat.land (zi (a / zpw (k % 32).toNat)) (zi 1)) = (1 : Int) → ((0 = (0 : Int) ∨ 0 = (1 : Int)) ∧ Q (some (.inl 0)) st)) ∧ (¬ (¬ zd (Nat.land (zi (a / zpw (k % 32).toNat)) (zi 1)) = (1 : Int)) → ((1 = (0 : Int) ∨ 1 = (1 : Int)) ∧ Q (some (.inl 1)) st)))
  refine ⟨fun h1 => ?_, fun h1 => ?_⟩
  · refine ⟨by omega, ?_⟩
    exact hQ _ (show ((0 : Int) = 0 ∨ (0 : Int) = 1) ∧ (0 : Int) = hb a k from ⟨by omega, by unfold hb; split <;> omega⟩)
  · refine ⟨by omega, ?_⟩
    exact hQ _ (show ((1 : Int) = 0 ∨ (1 : Int) = 1) ∧ (1 : Int) = hb a k from ⟨by omega, by unfold hb; split <;> omega⟩)
theorem k_has2_m (hTb : aTb zSh rx_tb cl) {D : Nat} (hD : 1 ≤ D) : ∀ as st (Q Q' : zQ), (∀ r st', Q r st' → Q' r st') → k_has2 201 as st Q → cl D 201 as st Q' := by
  intro as st Q Q' hQ h
  unfold k_has2 at h
  split at h
  · exact c_has2 hTb hD (ct_has2_m hQ h)
  · exact h.elim
set_option maxRecDepth 100000 in
theorem c_isSign (hTb : aTb zSh rx_tb cl) {D : Nat} (hD : 1 ≤ D) {c : Int} {st : zS} {Q : zQ} (h : ct_isSign c st Q) : cl D 182 [.inr (.inr (.inl 170)), .inl c] st Q := by
  obtain ⟨d, rfl⟩ : ∃ d, D = d + 1 := ⟨D - 1, by omega⟩
  refine hTb d 182 (rx_m182, 2, 0, 0, 2) rfl _ _ _ (Nat.le_of_ble_eq_true rfl) (fun K hcl hsf hsl => ?_)
  have hcm : zmo (zno) (cl d) := zno_m
  have hQ := h
  refine yr1_ok (Rt := Q) (wc := (zno)) (stp := []) hcm hcl [] 32 ?_
  show ((¬ st 170 3 = (3 : Int) → ((0 = (0 : Int) ∨ 0 = (1 : Int)) ∧ Q (some (.inl 0)) st)) ∧ (¬ (¬ st 170 3 = (3 : Int)) → ((¬ st 170 6 = c → ((0 = (0 : Int) ∨ 0 = (1 : Int)) ∧ Q (some (.inl 0)) st)) ∧ (¬ (¬ st 170 6 = c) → ((1 = (0 : Int) ∨ 1 = (1 : Int)) ∧ Q (some (.inl 1)) st)))))
  refine ⟨fun h1 => ?_, fun h1 => ?_⟩
  · refine ⟨by omega, ?_⟩
    exact hQ _ (show ((0 : Int) = 0 ∨ (0 : Int) = 1) ∧ ((0 : Int) = 1 ↔ st 170 3 = 3 ∧ st 170 6 = c) from by omega)
  · refine ⟨fun h2 => ?_, fun h2 => ?_⟩
    · refine ⟨by omega, ?_⟩
      exact hQ _ (show ((0 : Int) = 0 ∨ (0 : Int) = 1) ∧ ((0 : Int) = 1 ↔ st 170 3 = 3 ∧ st 170 6 = c) from by omega)
    · refine ⟨by omega, ?_⟩
      exact hQ _ (show ((1 : Int) = 0 ∨ (1 : Int) = 1) ∧ ((1 : Int) = 1 ↔ st 170 3 = 3 ∧ st 170 6 = c) from by omega)
theorem k_isSign_m (hTb : aTb zSh rx_tb cl) {D : Nat} (hD : 1 ≤ D) : ∀ as st (Q Q' : zQ), (∀ r st', Q r st' → Q' r st') → k_isSign 182 as st Q → cl D 182 as st Q' := by
  intro as st Q Q' hQ h
  unfold k_isSign at h
  split at h
  · obtain ⟨rfl, h⟩ := h
    exact c_isSign hTb hD (ct_isSign_m hQ h)
  · exact h.elim
set_option maxRecDepth 100000 in
theorem c_isWord (hTb : aTb zSh rx_tb cl) {D : Nat} (hD : 1 ≤ D) {w : Int} {st : zS} {Q : zQ} (h : ct_isWord w st Q) : cl D 183 [.inr (.inr (.inl 170)), .inr (.inl w)] st Q := by
  obtain ⟨d, rfl⟩ : ∃ d, D = d + 1 := ⟨D - 1, by omega⟩
  refine hTb d 183 (rx_m183, 3, 0, 0, 2) rfl _ _ _ (Nat.le_of_ble_eq_true rfl) (fun K hcl hsf hsl => ?_)
  have hcm : zmo (zno) (cl d) := zno_m
  have hQ := h
  refine yr1_ok (Rt := Q) (wc := (zno)) (stp := []) hcm hcl [] 33 ?_
  show ((¬ st 170 3 = (1 : Int) → ((0 = (0 : Int) ∨ 0 = (1 : Int)) ∧ Q (some (.inl 0)) st)) ∧ (¬ (¬ st 170 3 = (1 : Int)) → (∀ (w1 : Int), (st 170 7 < w ∧ w1 = -1 ∨ st 170 7 = w ∧ w1 = 0 ∨ w < st 170 7 ∧ w1 = 1) → ((¬ w1 = (0 : Int) → ((0 = (0 : Int) ∨ 0 = (1 : Int)) ∧ Q (some (.inl 0)) st)) ∧ (¬ (¬ w1 = (0 : Int)) → ((1 = (0 : Int) ∨ 1 = (1 : Int)) ∧ Q (some (.inl 1)) st))))))
  refine ⟨fun h2 => ?_, fun h2 => ?_⟩
  · refine ⟨by omega, ?_⟩
    exact hQ _ (show ((0 : Int) = 0 ∨ (0 : Int) = 1) ∧ ((0 : Int) = 1 ↔ st 170 3 = 1 ∧ st 170 7 = w) from by omega)
  · intro w1 hw1
    refine ⟨fun h3 => ?_, fun h3 => ?_⟩
    · refine ⟨by omega, ?_⟩
      exact hQ _ (show ((0 : Int) = 0 ∨ (0 : Int) = 1) ∧ ((0 : Int) = 1 ↔ st 170 3 = 1 ∧ st 170 7 = w) from by omega)
    · refine ⟨by omega, ?_⟩
      exact hQ _ (show ((1 : Int) = 0 ∨ (1 : Int) = 1) ∧ ((1 : Int) = 1 ↔ st 170 3 = 1 ∧ st 170 7 = w) from by omega)
theorem k_isWord_m (hTb : aTb zSh rx_tb cl) {D : Nat} (hD : 1 ≤ D) : ∀ as st (Q Q' : zQ), (∀ r st', Q r st' → Q' r st') → k_isWord 183 as st Q → cl D 183 as st Q' := by
  intro as st Q Q' hQ h
  unfold k_isWord at h
  split at h
  · obtain ⟨rfl, h⟩ := h
    exact c_isWord hTb hD (ct_isWord_m hQ h)
  · exact h.elim
set_option maxRecDepth 100000 in
theorem c_isTest (hTb : aTb zSh rx_tb cl) {D : Nat} (hD : 1 ≤ D) {k : Int} {st : zS} {Q : zQ} (h : ct_isTest k st Q) : cl D 195 [.inl k] st Q := by
  obtain ⟨d, rfl⟩ : ∃ d, D = d + 1 := ⟨D - 1, by omega⟩
  refine hTb d 195 (rx_m195, 1, 0, 0, 2) rfl _ _ _ (Nat.le_of_ble_eq_true rfl) (fun K hcl hsf hsl => ?_)
  have hcm : zmo (zno) (cl d) := zno_m
  have hQ := h
  refine yr1_ok (Rt := Q) (wc := (zno)) (stp := []) hcm hcl [] 33 ?_
  show ((k = (1 : Int) → ((1 = (0 : Int) ∨ 1 = (1 : Int)) ∧ Q (some (.inl 1)) st)) ∧ (¬ (k = (1 : Int)) → ((k = (5 : Int) → ((1 = (0 : Int) ∨ 1 = (1 : Int)) ∧ Q (some (.inl 1)) st)) ∧ (¬ (k = (5 : Int)) → ((¬ k = (6 : Int) → ((0 = (0 : Int) ∨ 0 = (1 : Int)) ∧ Q (some (.inl 0)) st)) ∧ (¬ (¬ k = (6 : Int)) → ((1 = (0 : Int) ∨ 1 = (1 : Int)) ∧ Q (some (.inl 1)) st)))))))
  refine ⟨fun h1 => ?_, fun h1 => ?_⟩
  · refine ⟨by omega, ?_⟩
    exact hQ _ (show ((1 : Int) = 0 ∨ (1 : Int) = 1) ∧ ((1 : Int) = 1 ↔ k = 1 ∨ k = 5 ∨ k = 6) from by omega)
  · refine ⟨fun h2 => ?_, fun h2 => ?_⟩
    · refine ⟨by omega, ?_⟩
      exact hQ _ (show ((1 : Int) = 0 ∨ (1 : Int) = 1) ∧ ((1 : Int) = 1 ↔ k = 1 ∨ k = 5 ∨ k = 6) from by omega)
    · refine ⟨fun h3 => ?_, fun h3 => ?_⟩
      · refine ⟨by omega, ?_⟩
        exact hQ _ (show ((0 : Int) = 0 ∨ (0 : Int) = 1) ∧ ((0 : Int) = 1 ↔ k = 1 ∨ k = 5 ∨ k = 6) from by omega)
      · refine ⟨by omega, ?_⟩
        exact hQ _ (show ((1 : Int) = 0 ∨ (1 : Int) = 1) ∧ ((1 : Int) = 1 ↔ k = 1 ∨ k = 5 ∨ k = 6) from by omega)
theorem k_isTest_m (hTb : aTb zSh rx_tb cl) {D : Nat} (hD : 1 ≤ D) : ∀ as st (Q Q' : zQ), (∀ r st', Q r st' → Q' r st') → k_isTest 195 as st Q → cl D 195 as st Q' := by
  intro as st Q Q' hQ h
  unfold k_isTest at h
  split at h
  · exact c_isTest hTb hD (ct_isTest_m hQ h)
  · exact h.elim
set_option maxRecDepth 100000 in
theorem c_between (hTb : aTb zSh rx_tb cl) {D : Nat} (hD : 1 ≤ D) {b x y : Int} {st : zS} {Q : zQ} (h : ct_between b x y st Q) : cl D 0 [.inr (.inr (.inl 170)), .inl b, .inl x, .inl y] st Q := by
  obtain ⟨d, rfl⟩ : ∃ d, D = d + 1 := ⟨D - 1, by omega⟩
  refine hTb d 0 (rx_m0, 4, 0, 0, 1) rfl _ _ _ (Nat.le_of_ble_eq_true rfl) (fun K hcl hsf hsl => ?_)
  have hcm : zmo (zno) (cl d) := zno_m
  obtain ⟨hR, hQ⟩ := h
  have hr0 := hR
  change 0 ≤ b ∧ b ≤ 1 ∧ 0 ≤ x ∧ x < 8 ∧ 0 ≤ y ∧ y < 8 at hr0
  refine yr1_ok (Rt := Q) (wc := (zno)) (stp := []) hcm hcl [] 33 ?_
  show ((-2147483648 ≤ (64 : Int) * b ∧ (64 : Int) * b ≤ 2147483647) ∧ ((-2147483648 ≤ (8 : Int) * x ∧ (8 : Int) * x ≤ 2147483647) ∧ ((-2147483648 ≤ ((64 : Int) * b) + ((8 : Int) * x) ∧ ((64 : Int) * b) + ((8 : Int) * x) ≤ 2147483647) ∧ ((-2147483648 ≤ (((64 : Int) * b) + ((8 : Int) * x)) + y ∧ (((64 : Int) * b) + ((8 : Int) * x)) + y ≤ 2147483647) ∧ ((0 ≤ (((64 : Int) * b) + ((8 : Int) * x)) + y ∧ (((64 : Int) * b) + ((8 : Int) * x)) + y < 128) ∧ Q (some (.inl (st 177 ((((64 : Int) * b) + ((8 : Int) * x)) + y : Int).toNat))) st)))))
  refine ⟨by omega, ?_⟩
  refine ⟨by omega, ?_⟩
  refine ⟨by omega, ?_⟩
  refine ⟨by omega, ?_⟩
  refine ⟨by omega, ?_⟩
  exact hQ _ (show (st 177 ((((64 : Int) * b) + ((8 : Int) * x)) + y : Int).toNat) = st 177 (64 * b + 8 * x + y : Int).toNat from by omega)
theorem k_between_m (hTb : aTb zSh rx_tb cl) {D : Nat} (hD : 1 ≤ D) : ∀ as st (Q Q' : zQ), (∀ r st', Q r st' → Q' r st') → k_between 0 as st Q → cl D 0 as st Q' := by
  intro as st Q Q' hQ h
  unfold k_between at h
  split at h
  · obtain ⟨rfl, h⟩ := h
    exact c_between hTb hD (ct_between_m hQ h)
  · exact h.elim
set_option maxRecDepth 100000 in
theorem c_isPlace (hTb : aTb zSh rx_tb cl) {D : Nat} (hD : 1 ≤ D) {k : Int} {st : zS} {Q : zQ} (h : ct_isPlace k st Q) : cl D 67 [.inr (.inr (.inl 170)), .inl k] st Q := by
  obtain ⟨d, rfl⟩ : ∃ d, D = d + 1 := ⟨D - 1, by omega⟩
  refine hTb d 67 (rx_m67, 2, 0, 0, 2) rfl _ _ _ (Nat.le_of_ble_eq_true rfl) (fun K hcl hsf hsl => ?_)
  have hcm : zmo (zno) (cl d) := zno_m
  obtain ⟨hR, hQ⟩ := h
  have hG := hR
  refine yr1_ok (Rt := Q) (wc := (zno)) (stp := []) hcm hcl [] 33 ?_
  show ((k < (0 : Int) → ((0 = (0 : Int) ∨ 0 = (1 : Int)) ∧ Q (some (.inl 0)) st)) ∧ (¬ (k < (0 : Int)) → ((0 ≤ st 170 13 ∧ st 170 13 < 2) ∧ ((st 172 (st 170 13 : Int).toNat ≤ k → ((0 = (0 : Int) ∨ 0 = (1 : Int)) ∧ Q (some (.inl 0)) st)) ∧ (¬ (st 172 (st 170 13 : Int).toNat ≤ k) → ((1 = (0 : Int) ∨ 1 = (1 : Int)) ∧ Q (some (.inl 1)) st))))))
  refine ⟨fun h1 => ?_, fun h1 => ?_⟩
  · refine ⟨by omega, ?_⟩
    have g2 := g_bank hG
    have g3 := g_places hG (st 170 13 : Int).toNat
    exact hQ _ (show ((0 : Int) = 0 ∨ (0 : Int) = 1) ∧ ((0 : Int) = 1 ↔ 0 ≤ k ∧ k < st 172 (st 170 13 : Int).toNat) from by omega)
  · have g4 := g_bank hG
    have g5 := g_places hG (st 170 13 : Int).toNat
    refine ⟨by omega, ?_⟩
    refine ⟨fun h6 => ?_, fun h6 => ?_⟩
    · refine ⟨by omega, ?_⟩
      exact hQ _ (show ((0 : Int) = 0 ∨ (0 : Int) = 1) ∧ ((0 : Int) = 1 ↔ 0 ≤ k ∧ k < st 172 (st 170 13 : Int).toNat) from by omega)
    · refine ⟨by omega, ?_⟩
      exact hQ _ (show ((1 : Int) = 0 ∨ (1 : Int) = 1) ∧ ((1 : Int) = 1 ↔ 0 ≤ k ∧ k < st 172 (st 170 13 : Int).toNat) from by omega)
theorem k_isPlace_m (hTb : aTb zSh rx_tb cl) {D : Nat} (hD : 1 ≤ D) : ∀ as st (Q Q' : zQ), (∀ r st', Q r st' → Q' r st') → k_isPlace 67 as st Q → cl D 67 as st Q' := by
  intro as st Q Q' hQ h
  unfold k_isPlace at h
  split at h
  · obtain ⟨rfl, h⟩ := h
    exact c_isPlace hTb hD (ct_isPlace_m hQ h)
  · exact h.elim
set_option maxRecDepth 100000 in
theorem c_isTold (hTb : aTb zSh rx_tb cl) {D : Nat} (hD : 1 ≤ D) {k : Int} {st : zS} {Q : zQ} (h : ct_isTold k st Q) : cl D 22 [.inr (.inr (.inl 170)), .inl k] st Q := by
  obtain ⟨d, rfl⟩ : ∃ d, D = d + 1 := ⟨D - 1, by omega⟩
  refine hTb d 22 (rx_m22, 2, 0, 0, 2) rfl _ _ _ (Nat.le_of_ble_eq_true rfl) (fun K hcl hsf hsl => ?_)
  have hcm : zmo (zno) (cl d) := zno_m
  obtain ⟨hR, hQ⟩ := h
  obtain ⟨hG, hr1⟩ := hR
  change 0 ≤ k ∧ k ≤ 1 at hr1
  refine yr1_ok (Rt := Q) (wc := (zno)) (stp := []) hcm hcl [] 35 ?_
  show ((-2147483648 ≤ (2 : Int) * (st 170 13) ∧ (2 : Int) * (st 170 13) ≤ 2147483647) ∧ ((-2147483648 ≤ ((2 : Int) * (st 170 13)) + k ∧ ((2 : Int) * (st 170 13)) + k ≤ 2147483647) ∧ ((0 ≤ ((2 : Int) * (st 170 13)) + k ∧ ((2 : Int) * (st 170 13)) + k < 4) ∧ ((st 186 (((2 : Int) * (st 170 13)) + k : Int).toNat = ((-1) : Int) → ((0 = (0 : Int) ∨ 0 = (1 : Int)) ∧ Q (some (.inl 0)) st)) ∧ (¬ (st 186 (((2 : Int) * (st 170 13)) + k : Int).toNat = ((-1) : Int)) → ((1 = (0 : Int) ∨ 1 = (1 : Int)) ∧ Q (some (.inl 1)) st))))))
  have g1 := g_bank hG
  refine ⟨by omega, ?_⟩
  refine ⟨by omega, ?_⟩
  have g2 := g_sumFrom hG (((2 : Int) * (st 170 13)) + k : Int).toNat
  refine ⟨by omega, ?_⟩
  refine ⟨fun h3 => ?_, fun h3 => ?_⟩
  · refine ⟨by omega, ?_⟩
    have g4 := g_sumFrom hG (2 * st 170 13 + k : Int).toNat
    exact hQ _ (show ((0 : Int) = 0 ∨ (0 : Int) = 1) ∧ ((0 : Int) = 1 ↔ ¬ st 186 (2 * st 170 13 + k : Int).toNat = -1) from by omega)
  · refine ⟨by omega, ?_⟩
    have g5 := g_sumFrom hG (2 * st 170 13 + k : Int).toNat
    exact hQ _ (show ((1 : Int) = 0 ∨ (1 : Int) = 1) ∧ ((1 : Int) = 1 ↔ ¬ st 186 (2 * st 170 13 + k : Int).toNat = -1) from by omega)
theorem k_isTold_m (hTb : aTb zSh rx_tb cl) {D : Nat} (hD : 1 ≤ D) : ∀ as st (Q Q' : zQ), (∀ r st', Q r st' → Q' r st') → k_isTold 22 as st Q → cl D 22 as st Q' := by
  intro as st Q Q' hQ h
  unfold k_isTold at h
  split at h
  · obtain ⟨rfl, h⟩ := h
    exact c_isTold hTb hD (ct_isTold_m hQ h)
  · exact h.elim
set_option maxRecDepth 100000 in
theorem c_heatNow (hTb : aTb zSh rx_tb cl) {D : Nat} (hD : 1 ≤ D) {st : zS} {Q : zQ} (h : ct_heatNow  st Q) : cl D 12 [.inr (.inr (.inl 170))] st Q := by
  obtain ⟨d, rfl⟩ : ∃ d, D = d + 1 := ⟨D - 1, by omega⟩
  refine hTb d 12 (rx_m12, 1, 0, 0, 1) rfl _ _ _ (Nat.le_of_ble_eq_true rfl) (fun K hcl hsf hsl => ?_)
  have hcm : zmo (zno) (cl d) := zno_m
  obtain ⟨hR, hQ⟩ := h
  have hG := hR
  refine yr1_ok (Rt := Q) (wc := (zno)) (stp := []) hcm hcl [] 26 ?_
  show ((0 ≤ st 170 13 ∧ st 170 13 < 2) ∧ Q (some (.inl (st 184 (st 170 13 : Int).toNat))) st)
  have g1 := g_bank hG
  have g2 := g_heatTold hG (st 170 13 : Int).toNat
  refine ⟨by omega, ?_⟩
  exact hQ _ (show -2147483648 ≤ (st 184 (st 170 13 : Int).toNat) ∧ (st 184 (st 170 13 : Int).toNat) ≤ 2147483647 from by omega)
theorem k_heatNow_m (hTb : aTb zSh rx_tb cl) {D : Nat} (hD : 1 ≤ D) : ∀ as st (Q Q' : zQ), (∀ r st', Q r st' → Q' r st') → k_heatNow 12 as st Q → cl D 12 as st Q' := by
  intro as st Q Q' hQ h
  unfold k_heatNow at h
  split at h
  · obtain ⟨rfl, h⟩ := h
    exact c_heatNow hTb hD (ct_heatNow_m hQ h)
  · exact h.elim
set_option maxRecDepth 100000 in
theorem c_slot (hTb : aTb zSh rx_tb cl) {D : Nat} (hD : 1 ≤ D) {k : Int} {st : zS} {Q : zQ} (h : ct_slot k st Q) : cl D 85 [.inr (.inr (.inl 170)), .inl k] st Q := by
  obtain ⟨d, rfl⟩ : ∃ d, D = d + 1 := ⟨D - 1, by omega⟩
  refine hTb d 85 (rx_m85, 2, 0, 0, 1) rfl _ _ _ (Nat.le_of_ble_eq_true rfl) (fun K hcl hsf hsl => ?_)
  have hcm : zmo (zno) (cl d) := zno_m
  obtain ⟨hR, hQ⟩ := h
  obtain ⟨hG, hr1⟩ := hR
  change 0 ≤ k ∧ k ≤ 20 at hr1
  refine yr1_ok (Rt := Q) (wc := (zno)) (stp := []) hcm hcl [] 29 ?_
  show ((-2147483648 ≤ (st 170 56) + k ∧ (st 170 56) + k ≤ 2147483647) ∧ ((0 ≤ (st 170 56) + k ∧ (st 170 56) + k ≤ 2147483647 ∧ 0 < (20 : Int)) ∧ ((-2147483648 ≤ (2 : Int) + (((st 170 56) + k) % 20) ∧ (2 : Int) + (((st 170 56) + k) % 20) ≤ 2147483647) ∧ Q (some (.inl ((2 : Int) + (((st 170 56) + k) % 20)))) st)))
  have g1 := g_undoFirst hG
  refine ⟨by omega, ?_⟩
  refine ⟨by omega, ?_⟩
  refine ⟨by omega, ?_⟩
  exact hQ _ (show ((2 : Int) + (((st 170 56) + k) % 20)) = 2 + (st 170 56 + k) % 20 from by omega)
theorem k_slot_m (hTb : aTb zSh rx_tb cl) {D : Nat} (hD : 1 ≤ D) : ∀ as st (Q Q' : zQ), (∀ r st', Q r st' → Q' r st') → k_slot 85 as st Q → cl D 85 as st Q' := by
  intro as st Q Q' hQ h
  unfold k_slot at h
  split at h
  · obtain ⟨rfl, h⟩ := h
    exact c_slot hTb hD (ct_slot_m hQ h)
  · exact h.elim
set_option maxRecDepth 100000 in
theorem c_blame (hTb : aTb zSh rx_tb cl) {D : Nat} (hD : 1 ≤ D) {k p : Int} {st : zS} {Q : zQ} (h : ct_blame k p st Q) : cl D 178 [.inr (.inr (.inl 170)), .inl k, .inl p] st Q := by
  obtain ⟨d, rfl⟩ : ∃ d, D = d + 1 := ⟨D - 1, by omega⟩
  refine hTb d 178 (rx_m178, 3, 0, 0, 0) rfl _ _ _ (Nat.le_of_ble_eq_true rfl) (fun K hcl hsf hsl => ?_)
  have hcm : zmo (zno) (cl d) := zno_m
  obtain ⟨hR, hQ⟩ := h
  obtain ⟨hG, hr1, hr2⟩ := hR
  change 1 ≤ k ∧ k ≤ 6 at hr1
  change -2147483648 ≤ p ∧ p ≤ 2147483647 at hr2
  refine yr1_ok (Rt := Q) (wc := (zno)) (stp := []) hcm hcl [] 31 ?_
  show ((st 170 8 ≤ (0 : Int) → Q none (zup (zup st 170 8 k) 170 9 p)) ∧ (¬ (st 170 8 ≤ (0 : Int)) → Q none st))
  have g1 := g_faultKind hG
  refine ⟨fun h2 => ?_, fun h2 => ?_⟩
  · exact hQ _ ⟨(gInv_up (gInv_up hG (p_faultKind (by omega))) (p_faultPlace (by omega))), (fr_f (fr_f (fr_rf _ _) rfl) rfl), (show (st 170 8 = 0 → k = k) ∧ (0 < st 170 8 → k = st 170 8) from by omega)⟩
  · exact hQ _ ⟨hG, (fr_rf _ _), (show (st 170 8 = 0 → st 170 8 = k) ∧ (0 < st 170 8 → st 170 8 = st 170 8) from by omega)⟩
theorem k_blame_m (hTb : aTb zSh rx_tb cl) {D : Nat} (hD : 1 ≤ D) : ∀ as st (Q Q' : zQ), (∀ r st', Q r st' → Q' r st') → k_blame 178 as st Q → cl D 178 as st Q' := by
  intro as st Q Q' hQ h
  unfold k_blame at h
  split at h
  · obtain ⟨rfl, h⟩ := h
    exact c_blame hTb hD (ct_blame_m hQ h)
  · exact h.elim
set_option maxRecDepth 100000 in
theorem c_lex (hTb : aTb zSh rx_tb cl) {D : Nat} (hD : 2 ≤ D) {st : zS} {Q : zQ} (h : ct_lex  st Q) : cl D 181 [.inr (.inr (.inl 170))] st Q := by
  obtain ⟨d, rfl⟩ : ∃ d, D = d + 1 := ⟨D - 1, by omega⟩
  refine hTb d 181 (rx_m181, 1, 0, 0, 0) rfl _ _ _ (Nat.le_of_ble_eq_true rfl) (fun K hcl hsf hsl => ?_)
  have hcm : zmo (wcL [(178, k_blame)]) (cl d) := (wcL_m (wm_cons (k_blame_m hTb (by omega)) wm_nil))
  obtain ⟨hR, hQ⟩ := h
  have hG := hR
  refine yr1_ok (Rt := Q) (wc := (wcL [(178, k_blame)])) (stp := []) hcm hcl [] 30 ?_
  show ((st 170 12 = ((-1) : Int) → Q none st) ∧ (¬ (st 170 12 = ((-1) : Int)) → (170 = 170 ∧ (rq_blame (1) (st 170 12) st ∧ (∀ (s1 : zS), en_blame (1) (st 170 12) st s1 → Q none s1)))))
  have g2 := g_lexAt hG
  refine ⟨fun h3 => ?_, fun h3 => ?_⟩
  · have g4 := g_faultKind hG
    exact hQ _ ⟨hG, (fr_rf _ _), (show 0 < st 170 8 → 0 < st 170 8 from by omega)⟩
  · refine ⟨rfl, ⟨hG, (show 1 ≤ (1) ∧ (1) ≤ 6 from by omega), (show -2147483648 ≤ (st 170 12) ∧ (st 170 12) ≤ 2147483647 from by omega)⟩, fun s1 q1 => ?_⟩
    obtain ⟨gs1, fs1, p1⟩ := q1
    change (st 170 8 = 0 → s1 170 8 = (1)) ∧ (0 < st 170 8 → s1 170 8 = st 170 8) at p1
    have g5 := g_faultKind hG
    have g6 := g_faultKind gs1
    exact hQ _ ⟨gs1, (fr_tr (fr_rf _ _) fs1 rfl), (show 0 < st 170 8 → 0 < s1 170 8 from by omega)⟩
theorem k_lex_m (hTb : aTb zSh rx_tb cl) {D : Nat} (hD : 2 ≤ D) : ∀ as st (Q Q' : zQ), (∀ r st', Q r st' → Q' r st') → k_lex 181 as st Q → cl D 181 as st Q' := by
  intro as st Q Q' hQ h
  unfold k_lex at h
  split at h
  · obtain ⟨rfl, h⟩ := h
    exact c_lex hTb hD (ct_lex_m hQ h)
  · exact h.elim
set_option maxRecDepth 100000 in
theorem c_isAhead (hTb : aTb zSh rx_tb cl) {D : Nat} (hD : 2 ≤ D) {n a b : Int} {st : zS} {Q : zQ} (h : ct_isAhead n a b st Q) : cl D 59 [.inr (.inr (.inl 170)), .inl n, .inl a, .inl b] st Q := by
  obtain ⟨d, rfl⟩ : ∃ d, D = d + 1 := ⟨D - 1, by omega⟩
  refine hTb d 59 (rx_m59, 4, 0, 0, 2) rfl _ _ _ (Nat.le_of_ble_eq_true rfl) (fun K hcl hsf hsl => ?_)
  have hcm : zmo (wcL [(8, k_is)]) (cl d) := (wcL_m (wm_cons (k_is_m hTb (by omega)) wm_nil))
  obtain ⟨hR, hQ⟩ := h
  obtain ⟨hG, hr1⟩ := hR
  change 0 ≤ a ∧ b ≤ 40 at hr1
  refine yr1_ok (Rt := Q) (wc := (wcL [(8, k_is)])) (stp := []) hcm hcl [] 37 ?_
  show (∀ (r1 : Int), en_is n a b st r1 → ((r1 = (0 : Int) → ((0 = (0 : Int) ∨ 0 = (1 : Int)) ∧ Q (some (.inl 0)) st)) ∧ (¬ (r1 = (0 : Int)) → ((0 ≤ (0 : Int) ∧ (0 : Int) < 22) ∧ ((-2147483648 ≤ (999 : Int) - n ∧ (999 : Int) - n ≤ 2147483647) ∧ (((999 : Int) - n < st 199 (0 : Int).toNat → ((0 = (0 : Int) ∨ 0 = (1 : Int)) ∧ Q (some (.inl 0)) st)) ∧ (¬ ((999 : Int) - n < st 199 (0 : Int).toNat) → ((1 = (0 : Int) ∨ 1 = (1 : Int)) ∧ Q (some (.inl 1)) st))))))))
  refine fun r1 q1 => ?_
  have b1 := q1
  change (r1 = 0 ∨ r1 = 1) ∧ (r1 = 1 ↔ a ≤ n ∧ n ≤ b) at b1
  refine ⟨fun h2 => ?_, fun h2 => ?_⟩
  · refine ⟨by omega, ?_⟩
    exact hQ _ (show ((0 : Int) = 0 ∨ (0 : Int) = 1) ∧ ((0 : Int) = 1 → a ≤ n ∧ n ≤ b) from by omega)
  · have g3 := g_yearOf hG (0 : Int).toNat
    refine ⟨by omega, ?_⟩
    refine ⟨by omega, ?_⟩
    refine ⟨fun h4 => ?_, fun h4 => ?_⟩
    · refine ⟨by omega, ?_⟩
      exact hQ _ (show ((0 : Int) = 0 ∨ (0 : Int) = 1) ∧ ((0 : Int) = 1 → a ≤ n ∧ n ≤ b) from by omega)
    · refine ⟨by omega, ?_⟩
      exact hQ _ (show ((1 : Int) = 0 ∨ (1 : Int) = 1) ∧ ((1 : Int) = 1 → a ≤ n ∧ n ≤ b) from by omega)
theorem k_isAhead_m (hTb : aTb zSh rx_tb cl) {D : Nat} (hD : 2 ≤ D) : ∀ as st (Q Q' : zQ), (∀ r st', Q r st' → Q' r st') → k_isAhead 59 as st Q → cl D 59 as st Q' := by
  intro as st Q Q' hQ h
  unfold k_isAhead at h
  split at h
  · obtain ⟨rfl, h⟩ := h
    exact c_isAhead hTb hD (ct_isAhead_m hQ h)
  · exact h.elim
end R64
