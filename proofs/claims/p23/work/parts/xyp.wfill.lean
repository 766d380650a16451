/-! printed by wip/pw/py/h7.py: the fillings, the class -/
def m_wFill118 : aM := ([], [118])
def rq_wFill118 (v : Int) (st : zS) : Prop := gInv zgt st ∧ (-2147483648 ≤ v ∧ v ≤ 2147483647)
def en_wFill118 (v : Int) (st : zS) (s1 : zS) : Prop := gInv zgt s1 ∧ aFr m_wFill118 st s1 ∧ (∀ j : Int, 0 ≤ j → j < 20 → s1 118 j.toNat = v)
def ct_wFill118 (v : Int) (st : zS) (Q : zQ) : Prop := rq_wFill118 v st ∧ (∀ (s1 : zS), en_wFill118 v st s1 → Q none s1)
theorem ct_wFill118_m {v : Int} {st : zS} {Q Q' : zQ} (hQ : ∀ r st', Q r st' → Q' r st') (h : ct_wFill118 v st Q) : ct_wFill118 v st Q' := ⟨h.1, fun x0 x1 => hQ _ _ (h.2 x0 x1)⟩
def k_wFill118 : zCall := fun _ as st Q => match as with
  | [.inr (.inr (.inl z_0)), .inl v] => z_0 = 118 ∧ ct_wFill118 v st Q
  | _ => False
def rq_wMay (k : Int) (p : Int) (st : zS) : Prop := gInv zgt st ∧ (0 ≤ k ∧ k < 20 ∧ 0 ≤ p ∧ p < 8)
def en_wMay (k : Int) (p : Int) (st : zS) (r : Int) : Prop := (r = hb (st 118 (k : Int).toNat) p)
def ct_wMay (k : Int) (p : Int) (st : zS) (Q : zQ) : Prop := rq_wMay k p st ∧ (∀ (r : Int), en_wMay k p st r → Q (some (.inl r)) st)
theorem ct_wMay_m {k p : Int} {st : zS} {Q Q' : zQ} (hQ : ∀ r st', Q r st' → Q' r st') (h : ct_wMay k p st Q) : ct_wMay k p st Q' := ⟨h.1, fun x0 x1 => hQ _ _ (h.2 x0 x1)⟩
def k_wMay : zCall := fun _ as st Q => match as with
  | [.inr (.inr (.inl z_o)), .inl k, .inl p] => z_o = 115 ∧ ct_wMay k p st Q
  | _ => False
def rq_wCap (a : Int) (st : zS) : Prop := (0 ≤ a)
def en_wCap (a : Int) (st : zS) (r : Int) : Prop := (r = cp9 a)
def ct_wCap (a : Int) (st : zS) (Q : zQ) : Prop := rq_wCap a st ∧ (∀ (r : Int), en_wCap a st r → Q (some (.inl r)) st)
theorem ct_wCap_m {a : Int} {st : zS} {Q Q' : zQ} (hQ : ∀ r st', Q r st' → Q' r st') (h : ct_wCap a st Q) : ct_wCap a st Q' := ⟨h.1, fun x0 x1 => hQ _ _ (h.2 x0 x1)⟩
def k_wCap : zCall := fun _ as st Q => match as with
  | [.inr (.inl a)] => ct_wCap a st Q
  | _ => False
def m_wOpenA : aM := ([], [118])
def rq_wOpenA (n : Int) (st : zS) : Prop := gInv zgt st ∧ (0 ≤ st 122 1 ∧ st 122 1 ≤ 8) ∧ (∀ i : Nat, (i : Int) < st 115 5 → 0 ≤ st 117 i ∧ st 117 i < 8) ∧ (1 ≤ n ∧ n ≤ 20)
def en_wOpenA (n : Int) (st : zS) (s1 : zS) : Prop := gInv zgt s1 ∧ aFr m_wOpenA st s1 ∧ (OPN (st 122 1) (st 116) (st 117) n (st 115 5) (s1 118))
def ct_wOpenA (n : Int) (st : zS) (Q : zQ) : Prop := rq_wOpenA n st ∧ (∀ (s1 : zS), en_wOpenA n st s1 → Q none s1)
theorem ct_wOpenA_m {n : Int} {st : zS} {Q Q' : zQ} (hQ : ∀ r st', Q r st' → Q' r st') (h : ct_wOpenA n st Q) : ct_wOpenA n st Q' := ⟨h.1, fun x0 x1 => hQ _ _ (h.2 x0 x1)⟩
def k_wOpenA : zCall := fun _ as st Q => match as with
  | [.inr (.inr (.inl z_o)), .inr (.inr (.inl z_0)), .inl n] => z_o = 115 ∧ z_0 = 122 ∧ ct_wOpenA n st Q
  | _ => False
def rq_wSBA119 (k : Int) (p : Int) (st : zS) : Prop := gInv zgt st ∧ (TW (tn 122 st)) ∧ (0 ≤ k ∧ k < 20 ∧ 0 ≤ p ∧ p < st 122 1) ∧ (∀ q : Nat, (q : Int) < st 122 1 → 0 ≤ st 119 ((k * 8) + (q : Int) : Int).toNat ∧ st 119 ((k * 8) + (q : Int) : Int).toNat ≤ 144115188075855872)
def en_wSBA119 (k : Int) (p : Int) (st : zS) (r : Int) : Prop := (r = flb (tn 122 st) (fun q : Nat => st 119 ((k * 8) + (q : Int) : Int).toNat) (p : Int).toNat) ∧ (0 ≤ r ∧ r ≤ 1152921504606846976)
def ct_wSBA119 (k : Int) (p : Int) (st : zS) (Q : zQ) : Prop := rq_wSBA119 k p st ∧ (∀ (r : Int), en_wSBA119 k p st r → Q (some (.inr (.inl r))) st)
theorem ct_wSBA119_m {k p : Int} {st : zS} {Q Q' : zQ} (hQ : ∀ r st', Q r st' → Q' r st') (h : ct_wSBA119 k p st Q) : ct_wSBA119 k p st Q' := ⟨h.1, fun x0 x1 => hQ _ _ (h.2 x0 x1)⟩
def k_wSBA119 : zCall := fun _ as st Q => match as with
  | [.inr (.inr (.inl z_0)), .inr (.inr (.inl z_1)), .inl k, .inl p] => z_0 = 122 ∧ z_1 = 119 ∧ ct_wSBA119 k p st Q
  | _ => False
def rq_wSBA120 (k : Int) (p : Int) (st : zS) : Prop := gInv zgt st ∧ (TW (tn 122 st)) ∧ (0 ≤ k ∧ k < 20 ∧ 0 ≤ p ∧ p < st 122 1) ∧ (∀ q : Nat, (q : Int) < st 122 1 → 0 ≤ st 120 ((k * 8) + (q : Int) : Int).toNat ∧ st 120 ((k * 8) + (q : Int) : Int).toNat ≤ 144115188075855872)
def en_wSBA120 (k : Int) (p : Int) (st : zS) (r : Int) : Prop := (r = flb (tn 122 st) (fun q : Nat => st 120 ((k * 8) + (q : Int) : Int).toNat) (p : Int).toNat) ∧ (0 ≤ r ∧ r ≤ 1152921504606846976)
def ct_wSBA120 (k : Int) (p : Int) (st : zS) (Q : zQ) : Prop := rq_wSBA120 k p st ∧ (∀ (r : Int), en_wSBA120 k p st r → Q (some (.inr (.inl r))) st)
theorem ct_wSBA120_m {k p : Int} {st : zS} {Q Q' : zQ} (hQ : ∀ r st', Q r st' → Q' r st') (h : ct_wSBA120 k p st Q) : ct_wSBA120 k p st Q' := ⟨h.1, fun x0 x1 => hQ _ _ (h.2 x0 x1)⟩
def k_wSBA120 : zCall := fun _ as st Q => match as with
  | [.inr (.inr (.inl z_0)), .inr (.inr (.inl z_1)), .inl k, .inl p] => z_0 = 122 ∧ z_1 = 120 ∧ ct_wSBA120 k p st Q
  | _ => False
def rq_wSumA (k : Int) (st : zS) : Prop := gInv zgt st ∧ (0 ≤ st 122 1 ∧ st 122 1 ≤ 8 ∧ k = 0) ∧ (∀ q : Nat, (q : Int) < st 122 1 → 0 ≤ st 119 q ∧ st 119 q ≤ 144115188075855872)
def en_wSumA (k : Int) (st : zS) (r : Int) : Prop := (r = flS (st 119) (st 122 1 : Int).toNat)
def ct_wSumA (k : Int) (st : zS) (Q : zQ) : Prop := rq_wSumA k st ∧ (∀ (r : Int), en_wSumA k st r → Q (some (.inr (.inl r))) st)
theorem ct_wSumA_m {k : Int} {st : zS} {Q Q' : zQ} (hQ : ∀ r st', Q r st' → Q' r st') (h : ct_wSumA k st Q) : ct_wSumA k st Q' := ⟨h.1, fun x0 x1 => hQ _ _ (h.2 x0 x1)⟩
def k_wSumA : zCall := fun _ as st Q => match as with
  | [.inr (.inr (.inl z_0)), .inr (.inr (.inl z_1)), .inl k] => z_0 = 122 ∧ z_1 = 119 ∧ ct_wSumA k st Q
  | _ => False
def m_wCRA : aM := ([], [118, 119])
def rq_wCRA (n : Int) (st : zS) : Prop := gInv zgt st ∧ (TW (tn 122 st)) ∧ (∀ i : Nat, (i : Int) < st 115 5 → 0 ≤ st 117 i ∧ st 117 i < 8) ∧ (1 ≤ n ∧ n ≤ 20)
def en_wCRA (n : Int) (st : zS) (r : Int) (s1 : zS) : Prop := gInv zgt s1 ∧ aFr m_wCRA st s1 ∧ (r = flT (tn 122 st) (flo (st 116) (st 117) (st 115 5) n) (n - 1 : Int).toNat) ∧ (OPN (st 122 1) (st 116) (st 117) n (st 115 5) (s1 118)) ∧ (TD (tn 122 st) (flo (st 116) (st 117) (st 115 5) n) (n - 1 : Int).toNat (s1 119) (-1))
def ct_wCRA (n : Int) (st : zS) (Q : zQ) : Prop := rq_wCRA n st ∧ (∀ (r : Int) (s1 : zS), en_wCRA n st r s1 → Q (some (.inr (.inl r))) s1)
theorem ct_wCRA_m {n : Int} {st : zS} {Q Q' : zQ} (hQ : ∀ r st', Q r st' → Q' r st') (h : ct_wCRA n st Q) : ct_wCRA n st Q' := ⟨h.1, fun x0 x1 x2 => hQ _ _ (h.2 x0 x1 x2)⟩
def k_wCRA : zCall := fun _ as st Q => match as with
  | [.inr (.inr (.inl z_o)), .inr (.inr (.inl z_0)), .inl n] => z_o = 115 ∧ z_0 = 122 ∧ ct_wCRA n st Q
  | _ => False
def rq_wLstA (k : Int) (a : Int) (st : zS) : Prop := gInv zgt st ∧ (TW (tn 122 st)) ∧ (0 ≤ k ∧ k < 20 ∧ ((k = 0 ∧ a = -1) ∨ (0 < k ∧ 0 ≤ a ∧ a < st 122 1)))
def en_wLstA (k : Int) (a : Int) (st : zS) (r : Int) : Prop := (FN (tn 122 st) (fun q : Nat => st 119 ((k * 8) + (q : Int) : Int).toNat) a r ∨ (r = -1 ∧ ∀ q : Int, 0 ≤ q → q < st 122 1 → ¬ ((a = -1 ∨ 0 ≤ lnk (tn 122 st) a q) ∧ 0 < (fun q : Nat => st 119 ((k * 8) + (q : Int) : Int).toNat) q.toNat)))
def ct_wLstA (k : Int) (a : Int) (st : zS) (Q : zQ) : Prop := rq_wLstA k a st ∧ (∀ (r : Int), en_wLstA k a st r → Q (some (.inl r)) st)
theorem ct_wLstA_m {k a : Int} {st : zS} {Q Q' : zQ} (hQ : ∀ r st', Q r st' → Q' r st') (h : ct_wLstA k a st Q) : ct_wLstA k a st Q' := ⟨h.1, fun x0 x1 => hQ _ _ (h.2 x0 x1)⟩
def k_wLstA : zCall := fun _ as st Q => match as with
  | [.inr (.inr (.inl z_o)), .inr (.inr (.inl z_0)), .inl k, .inl a] => z_o = 115 ∧ z_0 = 122 ∧ ct_wLstA k a st Q
  | _ => False
def m_wPFA : aM := ([], [118, 119])
def rq_wPFA (n : Int) (k : Int) (st : zS) : Prop := gInv zgt st ∧ (TW (tn 122 st)) ∧ (∀ i : Nat, (i : Int) < st 115 5 → 0 ≤ st 117 i ∧ st 117 i < 8) ∧ (1 ≤ n ∧ n ≤ 20 ∧ 0 ≤ k ∧ k < n)
def en_wPFA (n : Int) (k : Int) (st : zS) (r : Int) (s1 : zS) : Prop := gInv zgt s1 ∧ aFr m_wPFA st s1 ∧ ((flT (tn 122 st) (flo (st 116) (st 117) (st 115 5) n) (n - 1 : Int).toNat = 0 → r = -1) ∧ (¬ flT (tn 122 st) (flo (st 116) (st 117) (st 115 5) n) (n - 1 : Int).toNat = 0 → r = flG (tn 122 st) (flo (st 116) (st 117) (st 115 5) n) (n - 1 : Int).toNat (k + 1 : Int).toNat))
def ct_wPFA (n : Int) (k : Int) (st : zS) (Q : zQ) : Prop := rq_wPFA n k st ∧ (∀ (r : Int) (s1 : zS), en_wPFA n k st r s1 → Q (some (.inl r)) s1)
theorem ct_wPFA_m {n k : Int} {st : zS} {Q Q' : zQ} (hQ : ∀ r st', Q r st' → Q' r st') (h : ct_wPFA n k st Q) : ct_wPFA n k st Q' := ⟨h.1, fun x0 x1 x2 => hQ _ _ (h.2 x0 x1 x2)⟩
def k_wPFA : zCall := fun _ as st Q => match as with
  | [.inr (.inr (.inl z_o)), .inr (.inr (.inl z_0)), .inl n, .inl k] => z_o = 115 ∧ z_0 = 122 ∧ ct_wPFA n k st Q
  | _ => False
def rq_wMostA (k : Int) (st : zS) : Prop := gInv zgt st ∧ (0 ≤ st 122 1 ∧ st 122 1 ≤ 8 ∧ 0 ≤ k ∧ k < 20) ∧ (∀ q : Nat, (q : Int) < st 122 1 → 0 ≤ st 120 ((k * 8) + (q : Int) : Int).toNat * st 119 ((k * 8) + (q : Int) : Int).toNat ∧ st 120 ((k * 8) + (q : Int) : Int).toNat * st 119 ((k * 8) + (q : Int) : Int).toNat ≤ 144115188075855872)
def en_wMostA (k : Int) (st : zS) (r : Int) : Prop := (r = flX (fun q : Nat => st 120 ((k * 8) + (q : Int) : Int).toNat * st 119 ((k * 8) + (q : Int) : Int).toNat) (st 122 1 : Int).toNat) ∧ (0 ≤ r ∧ r ≤ 144115188075855872)
def ct_wMostA (k : Int) (st : zS) (Q : zQ) : Prop := rq_wMostA k st ∧ (∀ (r : Int), en_wMostA k st r → Q (some (.inr (.inl r))) st)
theorem ct_wMostA_m {k : Int} {st : zS} {Q Q' : zQ} (hQ : ∀ r st', Q r st' → Q' r st') (h : ct_wMostA k st Q) : ct_wMostA k st Q' := ⟨h.1, fun x0 x1 => hQ _ _ (h.2 x0 x1)⟩
def k_wMostA : zCall := fun _ as st Q => match as with
  | [.inr (.inr (.inl z_o)), .inr (.inr (.inl z_0)), .inl k] => z_o = 115 ∧ z_0 = 122 ∧ ct_wMostA k st Q
  | _ => False
def m_wAskA : aM := ([(115, 6), (115, 7)], [120])
def rq_wAskA (n : Int) (st : zS) : Prop := gInv zgt st ∧ (TW (tn 122 st)) ∧ (1 ≤ n ∧ n ≤ 20) ∧ (OPN (st 122 1) (st 116) (st 117) n (st 115 5) (st 118)) ∧ (TD (tn 122 st) (flo (st 116) (st 117) (st 115 5) n) (n - 1 : Int).toNat (st 119) (-1))
def en_wAskA (n : Int) (st : zS) (s1 : zS) : Prop := gInv zgt s1 ∧ aFr m_wAskA st s1 ∧ (AK (fun j => flM (tn 122 st) (flo (st 116) (st 117) (st 115 5) n) (n - 1 : Int).toNat j) n (s1 115 6) (s1 115 7))
def ct_wAskA (n : Int) (st : zS) (Q : zQ) : Prop := rq_wAskA n st ∧ (∀ (s1 : zS), en_wAskA n st s1 → Q none s1)
theorem ct_wAskA_m {n : Int} {st : zS} {Q Q' : zQ} (hQ : ∀ r st', Q r st' → Q' r st') (h : ct_wAskA n st Q) : ct_wAskA n st Q' := ⟨h.1, fun x0 x1 => hQ _ _ (h.2 x0 x1)⟩
def k_wAskA : zCall := fun _ as st Q => match as with
  | [.inr (.inr (.inl z_o)), .inr (.inr (.inl z_0)), .inl n] => z_o = 115 ∧ z_0 = 122 ∧ ct_wAskA n st Q
  | _ => False
def m_wFilledA : aM := ([], [118, 119])
def rq_wFilledA (n : Int) (st : zS) : Prop := gInv zgt st ∧ (st 0 8 = 122) ∧ (TW (tn 122 st)) ∧ (∀ i : Nat, (i : Int) < st 115 5 → 0 ≤ st 117 i ∧ st 117 i < 8)
def en_wFilledA (n : Int) (st : zS) (r : Int) (s1 : zS) : Prop := gInv zgt s1 ∧ aFr m_wFilledA st s1 ∧ (r = fF (tn 122 st) (st 116) (st 117) (st 115 5) n)
def ct_wFilledA (n : Int) (st : zS) (Q : zQ) : Prop := rq_wFilledA n st ∧ (∀ (r : Int) (s1 : zS), en_wFilledA n st r s1 → Q (some (.inl r)) s1)
theorem ct_wFilledA_m {n : Int} {st : zS} {Q Q' : zQ} (hQ : ∀ r st', Q r st' → Q' r st') (h : ct_wFilledA n st Q) : ct_wFilledA n st Q' := ⟨h.1, fun x0 x1 x2 => hQ _ _ (h.2 x0 x1 x2)⟩
def k_wFilledA : zCall := fun _ as st Q => match as with
  | [.inr (.inr (.inl z_o)), .inl n] => z_o = 0 ∧ ct_wFilledA n st Q
  | _ => False
def m_wFillingA : aM := ([], [118, 119])
def rq_wFillingA (n : Int) (k : Int) (st : zS) : Prop := gInv zgt st ∧ (st 0 8 = 122) ∧ (TW (tn 122 st)) ∧ (∀ i : Nat, (i : Int) < st 115 5 → 0 ≤ st 117 i ∧ st 117 i < 8)
def en_wFillingA (n : Int) (k : Int) (st : zS) (r : Int) (s1 : zS) : Prop := gInv zgt s1 ∧ aFr m_wFillingA st s1 ∧ (r = fG (tn 122 st) (st 116) (st 117) (st 115 5) n k)
def ct_wFillingA (n : Int) (k : Int) (st : zS) (Q : zQ) : Prop := rq_wFillingA n k st ∧ (∀ (r : Int) (s1 : zS), en_wFillingA n k st r s1 → Q (some (.inl r)) s1)
theorem ct_wFillingA_m {n k : Int} {st : zS} {Q Q' : zQ} (hQ : ∀ r st', Q r st' → Q' r st') (h : ct_wFillingA n k st Q) : ct_wFillingA n k st Q' := ⟨h.1, fun x0 x1 x2 => hQ _ _ (h.2 x0 x1 x2)⟩
def k_wFillingA : zCall := fun _ as st Q => match as with
  | [.inr (.inr (.inl z_o)), .inl n, .inl k] => z_o = 0 ∧ ct_wFillingA n k st Q
  | _ => False
def m_wAskedA : aM := ([(115, 6), (115, 7)], [118, 119, 120])
def rq_wAskedA (n : Int) (x : Int) (st : zS) : Prop := gInv zgt st ∧ (st 0 8 = 122) ∧ (TW (tn 122 st)) ∧ (∀ i : Nat, (i : Int) < st 115 5 → 0 ≤ st 117 i ∧ st 117 i < 8)
def en_wAskedA (n : Int) (x : Int) (st : zS) (r : Int) (s1 : zS) : Prop := gInv zgt s1 ∧ aFr m_wAskedA st s1 ∧ (r = fA (tn 122 st) (st 116) (st 117) (st 115 5) n x)
def ct_wAskedA (n : Int) (x : Int) (st : zS) (Q : zQ) : Prop := rq_wAskedA n x st ∧ (∀ (r : Int) (s1 : zS), en_wAskedA n x st r s1 → Q (some (.inl r)) s1)
theorem ct_wAskedA_m {n x : Int} {st : zS} {Q Q' : zQ} (hQ : ∀ r st', Q r st' → Q' r st') (h : ct_wAskedA n x st Q) : ct_wAskedA n x st Q' := ⟨h.1, fun x0 x1 x2 => hQ _ _ (h.2 x0 x1 x2)⟩
def k_wAskedA : zCall := fun _ as st Q => match as with
  | [.inr (.inr (.inl z_o)), .inl n, .inl x] => z_o = 0 ∧ ct_wAskedA n x st Q
  | _ => False
def m_wOpenB : aM := ([], [118])
def rq_wOpenB (n : Int) (st : zS) : Prop := gInv zgt st ∧ (0 ≤ st 135 1 ∧ st 135 1 ≤ 8) ∧ (∀ i : Nat, (i : Int) < st 115 5 → 0 ≤ st 117 i ∧ st 117 i < 8) ∧ (1 ≤ n ∧ n ≤ 20)
def en_wOpenB (n : Int) (st : zS) (s1 : zS) : Prop := gInv zgt s1 ∧ aFr m_wOpenB st s1 ∧ (OPN (st 135 1) (st 116) (st 117) n (st 115 5) (s1 118))
def ct_wOpenB (n : Int) (st : zS) (Q : zQ) : Prop := rq_wOpenB n st ∧ (∀ (s1 : zS), en_wOpenB n st s1 → Q none s1)
theorem ct_wOpenB_m {n : Int} {st : zS} {Q Q' : zQ} (hQ : ∀ r st', Q r st' → Q' r st') (h : ct_wOpenB n st Q) : ct_wOpenB n st Q' := ⟨h.1, fun x0 x1 => hQ _ _ (h.2 x0 x1)⟩
def k_wOpenB : zCall := fun _ as st Q => match as with
  | [.inr (.inr (.inl z_o)), .inr (.inr (.inl z_0)), .inl n] => z_o = 115 ∧ z_0 = 135 ∧ ct_wOpenB n st Q
  | _ => False
def rq_wSBB119 (k : Int) (p : Int) (st : zS) : Prop := gInv zgt st ∧ (TW (tn 135 st)) ∧ (0 ≤ k ∧ k < 20 ∧ 0 ≤ p ∧ p < st 135 1) ∧ (∀ q : Nat, (q : Int) < st 135 1 → 0 ≤ st 119 ((k * 8) + (q : Int) : Int).toNat ∧ st 119 ((k * 8) + (q : Int) : Int).toNat ≤ 144115188075855872)
def en_wSBB119 (k : Int) (p : Int) (st : zS) (r : Int) : Prop := (r = flb (tn 135 st) (fun q : Nat => st 119 ((k * 8) + (q : Int) : Int).toNat) (p : Int).toNat) ∧ (0 ≤ r ∧ r ≤ 1152921504606846976)
def ct_wSBB119 (k : Int) (p : Int) (st : zS) (Q : zQ) : Prop := rq_wSBB119 k p st ∧ (∀ (r : Int), en_wSBB119 k p st r → Q (some (.inr (.inl r))) st)
theorem ct_wSBB119_m {k p : Int} {st : zS} {Q Q' : zQ} (hQ : ∀ r st', Q r st' → Q' r st') (h : ct_wSBB119 k p st Q) : ct_wSBB119 k p st Q' := ⟨h.1, fun x0 x1 => hQ _ _ (h.2 x0 x1)⟩
def k_wSBB119 : zCall := fun _ as st Q => match as with
  | [.inr (.inr (.inl z_0)), .inr (.inr (.inl z_1)), .inl k, .inl p] => z_0 = 135 ∧ z_1 = 119 ∧ ct_wSBB119 k p st Q
  | _ => False
def rq_wSBB120 (k : Int) (p : Int) (st : zS) : Prop := gInv zgt st ∧ (TW (tn 135 st)) ∧ (0 ≤ k ∧ k < 20 ∧ 0 ≤ p ∧ p < st 135 1) ∧ (∀ q : Nat, (q : Int) < st 135 1 → 0 ≤ st 120 ((k * 8) + (q : Int) : Int).toNat ∧ st 120 ((k * 8) + (q : Int) : Int).toNat ≤ 144115188075855872)
def en_wSBB120 (k : Int) (p : Int) (st : zS) (r : Int) : Prop := (r = flb (tn 135 st) (fun q : Nat => st 120 ((k * 8) + (q : Int) : Int).toNat) (p : Int).toNat) ∧ (0 ≤ r ∧ r ≤ 1152921504606846976)
def ct_wSBB120 (k : Int) (p : Int) (st : zS) (Q : zQ) : Prop := rq_wSBB120 k p st ∧ (∀ (r : Int), en_wSBB120 k p st r → Q (some (.inr (.inl r))) st)
theorem ct_wSBB120_m {k p : Int} {st : zS} {Q Q' : zQ} (hQ : ∀ r st', Q r st' → Q' r st') (h : ct_wSBB120 k p st Q) : ct_wSBB120 k p st Q' := ⟨h.1, fun x0 x1 => hQ _ _ (h.2 x0 x1)⟩
def k_wSBB120 : zCall := fun _ as st Q => match as with
  | [.inr (.inr (.inl z_0)), .inr (.inr (.inl z_1)), .inl k, .inl p] => z_0 = 135 ∧ z_1 = 120 ∧ ct_wSBB120 k p st Q
  | _ => False
def rq_wSumB (k : Int) (st : zS) : Prop := gInv zgt st ∧ (0 ≤ st 135 1 ∧ st 135 1 ≤ 8 ∧ k = 0) ∧ (∀ q : Nat, (q : Int) < st 135 1 → 0 ≤ st 119 q ∧ st 119 q ≤ 144115188075855872)
def en_wSumB (k : Int) (st : zS) (r : Int) : Prop := (r = flS (st 119) (st 135 1 : Int).toNat)
def ct_wSumB (k : Int) (st : zS) (Q : zQ) : Prop := rq_wSumB k st ∧ (∀ (r : Int), en_wSumB k st r → Q (some (.inr (.inl r))) st)
theorem ct_wSumB_m {k : Int} {st : zS} {Q Q' : zQ} (hQ : ∀ r st', Q r st' → Q' r st') (h : ct_wSumB k st Q) : ct_wSumB k st Q' := ⟨h.1, fun x0 x1 => hQ _ _ (h.2 x0 x1)⟩
def k_wSumB : zCall := fun _ as st Q => match as with
  | [.inr (.inr (.inl z_0)), .inr (.inr (.inl z_1)), .inl k] => z_0 = 135 ∧ z_1 = 119 ∧ ct_wSumB k st Q
  | _ => False
def m_wCRB : aM := ([], [118, 119])
def rq_wCRB (n : Int) (st : zS) : Prop := gInv zgt st ∧ (TW (tn 135 st)) ∧ (∀ i : Nat, (i : Int) < st 115 5 → 0 ≤ st 117 i ∧ st 117 i < 8) ∧ (1 ≤ n ∧ n ≤ 20)
def en_wCRB (n : Int) (st : zS) (r : Int) (s1 : zS) : Prop := gInv zgt s1 ∧ aFr m_wCRB st s1 ∧ (r = flT (tn 135 st) (flo (st 116) (st 117) (st 115 5) n) (n - 1 : Int).toNat) ∧ (OPN (st 135 1) (st 116) (st 117) n (st 115 5) (s1 118)) ∧ (TD (tn 135 st) (flo (st 116) (st 117) (st 115 5) n) (n - 1 : Int).toNat (s1 119) (-1))
def ct_wCRB (n : Int) (st : zS) (Q : zQ) : Prop := rq_wCRB n st ∧ (∀ (r : Int) (s1 : zS), en_wCRB n st r s1 → Q (some (.inr (.inl r))) s1)
theorem ct_wCRB_m {n : Int} {st : zS} {Q Q' : zQ} (hQ : ∀ r st', Q r st' → Q' r st') (h : ct_wCRB n st Q) : ct_wCRB n st Q' := ⟨h.1, fun x0 x1 x2 => hQ _ _ (h.2 x0 x1 x2)⟩
def k_wCRB : zCall := fun _ as st Q => match as with
  | [.inr (.inr (.inl z_o)), .inr (.inr (.inl z_0)), .inl n] => z_o = 115 ∧ z_0 = 135 ∧ ct_wCRB n st Q
  | _ => False
def rq_wLstB (k : Int) (a : Int) (st : zS) : Prop := gInv zgt st ∧ (TW (tn 135 st)) ∧ (0 ≤ k ∧ k < 20 ∧ ((k = 0 ∧ a = -1) ∨ (0 < k ∧ 0 ≤ a ∧ a < st 135 1)))
def en_wLstB (k : Int) (a : Int) (st : zS) (r : Int) : Prop := (FN (tn 135 st) (fun q : Nat => st 119 ((k * 8) + (q : Int) : Int).toNat) a r ∨ (r = -1 ∧ ∀ q : Int, 0 ≤ q → q < st 135 1 → ¬ ((a = -1 ∨ 0 ≤ lnk (tn 135 st) a q) ∧ 0 < (fun q : Nat => st 119 ((k * 8) + (q : Int) : Int).toNat) q.toNat)))
def ct_wLstB (k : Int) (a : Int) (st : zS) (Q : zQ) : Prop := rq_wLstB k a st ∧ (∀ (r : Int), en_wLstB k a st r → Q (some (.inl r)) st)
theorem ct_wLstB_m {k a : Int} {st : zS} {Q Q' : zQ} (hQ : ∀ r st', Q r st' → Q' r st') (h : ct_wLstB k a st Q) : ct_wLstB k a st Q' := ⟨h.1, fun x0 x1 => hQ _ _ (h.2 x0 x1)⟩
def k_wLstB : zCall := fun _ as st Q => match as with
  | [.inr (.inr (.inl z_o)), .inr (.inr (.inl z_0)), .inl k, .inl a] => z_o = 115 ∧ z_0 = 135 ∧ ct_wLstB k a st Q
  | _ => False
def m_wPFB : aM := ([], [118, 119])
def rq_wPFB (n : Int) (k : Int) (st : zS) : Prop := gInv zgt st ∧ (TW (tn 135 st)) ∧ (∀ i : Nat, (i : Int) < st 115 5 → 0 ≤ st 117 i ∧ st 117 i < 8) ∧ (1 ≤ n ∧ n ≤ 20 ∧ 0 ≤ k ∧ k < n)
def en_wPFB (n : Int) (k : Int) (st : zS) (r : Int) (s1 : zS) : Prop := gInv zgt s1 ∧ aFr m_wPFB st s1 ∧ ((flT (tn 135 st) (flo (st 116) (st 117) (st 115 5) n) (n - 1 : Int).toNat = 0 → r = -1) ∧ (¬ flT (tn 135 st) (flo (st 116) (st 117) (st 115 5) n) (n - 1 : Int).toNat = 0 → r = flG (tn 135 st) (flo (st 116) (st 117) (st 115 5) n) (n - 1 : Int).toNat (k + 1 : Int).toNat))
def ct_wPFB (n : Int) (k : Int) (st : zS) (Q : zQ) : Prop := rq_wPFB n k st ∧ (∀ (r : Int) (s1 : zS), en_wPFB n k st r s1 → Q (some (.inl r)) s1)
theorem ct_wPFB_m {n k : Int} {st : zS} {Q Q' : zQ} (hQ : ∀ r st', Q r st' → Q' r st') (h : ct_wPFB n k st Q) : ct_wPFB n k st Q' := ⟨h.1, fun x0 x1 x2 => hQ _ _ (h.2 x0 x1 x2)⟩
def k_wPFB : zCall := fun _ as st Q => match as with
  | [.inr (.inr (.inl z_o)), .inr (.inr (.inl z_0)), .inl n, .inl k] => z_o = 115 ∧ z_0 = 135 ∧ ct_wPFB n k st Q
  | _ => False
def rq_wMostB (k : Int) (st : zS) : Prop := gInv zgt st ∧ (0 ≤ st 135 1 ∧ st 135 1 ≤ 8 ∧ 0 ≤ k ∧ k < 20) ∧ (∀ q : Nat, (q : Int) < st 135 1 → 0 ≤ st 120 ((k * 8) + (q : Int) : Int).toNat * st 119 ((k * 8) + (q : Int) : Int).toNat ∧ st 120 ((k * 8) + (q : Int) : Int).toNat * st 119 ((k * 8) + (q : Int) : Int).toNat ≤ 144115188075855872)
def en_wMostB (k : Int) (st : zS) (r : Int) : Prop := (r = flX (fun q : Nat => st 120 ((k * 8) + (q : Int) : Int).toNat * st 119 ((k * 8) + (q : Int) : Int).toNat) (st 135 1 : Int).toNat) ∧ (0 ≤ r ∧ r ≤ 144115188075855872)
def ct_wMostB (k : Int) (st : zS) (Q : zQ) : Prop := rq_wMostB k st ∧ (∀ (r : Int), en_wMostB k st r → Q (some (.inr (.inl r))) st)
theorem ct_wMostB_m {k : Int} {st : zS} {Q Q' : zQ} (hQ : ∀ r st', Q r st' → Q' r st') (h : ct_wMostB k st Q) : ct_wMostB k st Q' := ⟨h.1, fun x0 x1 => hQ _ _ (h.2 x0 x1)⟩
def k_wMostB : zCall := fun _ as st Q => match as with
  | [.inr (.inr (.inl z_o)), .inr (.inr (.inl z_0)), .inl k] => z_o = 115 ∧ z_0 = 135 ∧ ct_wMostB k st Q
  | _ => False
def m_wAskB : aM := ([(115, 6), (115, 7)], [120])
def rq_wAskB (n : Int) (st : zS) : Prop := gInv zgt st ∧ (TW (tn 135 st)) ∧ (1 ≤ n ∧ n ≤ 20) ∧ (OPN (st 135 1) (st 116) (st 117) n (st 115 5) (st 118)) ∧ (TD (tn 135 st) (flo (st 116) (st 117) (st 115 5) n) (n - 1 : Int).toNat (st 119) (-1))
def en_wAskB (n : Int) (st : zS) (s1 : zS) : Prop := gInv zgt s1 ∧ aFr m_wAskB st s1 ∧ (AK (fun j => flM (tn 135 st) (flo (st 116) (st 117) (st 115 5) n) (n - 1 : Int).toNat j) n (s1 115 6) (s1 115 7))
def ct_wAskB (n : Int) (st : zS) (Q : zQ) : Prop := rq_wAskB n st ∧ (∀ (s1 : zS), en_wAskB n st s1 → Q none s1)
theorem ct_wAskB_m {n : Int} {st : zS} {Q Q' : zQ} (hQ : ∀ r st', Q r st' → Q' r st') (h : ct_wAskB n st Q) : ct_wAskB n st Q' := ⟨h.1, fun x0 x1 => hQ _ _ (h.2 x0 x1)⟩
def k_wAskB : zCall := fun _ as st Q => match as with
  | [.inr (.inr (.inl z_o)), .inr (.inr (.inl z_0)), .inl n] => z_o = 115 ∧ z_0 = 135 ∧ ct_wAskB n st Q
  | _ => False
def m_wFilledB : aM := ([], [118, 119])
def rq_wFilledB (n : Int) (st : zS) : Prop := gInv zgt st ∧ (st 0 8 = 135) ∧ (TW (tn 135 st)) ∧ (∀ i : Nat, (i : Int) < st 115 5 → 0 ≤ st 117 i ∧ st 117 i < 8)
def en_wFilledB (n : Int) (st : zS) (r : Int) (s1 : zS) : Prop := gInv zgt s1 ∧ aFr m_wFilledB st s1 ∧ (r = fF (tn 135 st) (st 116) (st 117) (st 115 5) n)
def ct_wFilledB (n : Int) (st : zS) (Q : zQ) : Prop := rq_wFilledB n st ∧ (∀ (r : Int) (s1 : zS), en_wFilledB n st r s1 → Q (some (.inl r)) s1)
theorem ct_wFilledB_m {n : Int} {st : zS} {Q Q' : zQ} (hQ : ∀ r st', Q r st' → Q' r st') (h : ct_wFilledB n st Q) : ct_wFilledB n st Q' := ⟨h.1, fun x0 x1 x2 => hQ _ _ (h.2 x0 x1 x2)⟩
def k_wFilledB : zCall := fun _ as st Q => match as with
  | [.inr (.inr (.inl z_o)), .inl n] => z_o = 0 ∧ ct_wFilledB n st Q
  | _ => False
def m_wFillingB : aM := ([], [118, 119])
def rq_wFillingB (n : Int) (k : Int) (st : zS) : Prop := gInv zgt st ∧ (st 0 8 = 135) ∧ (TW (tn 135 st)) ∧ (∀ i : Nat, (i : Int) < st 115 5 → 0 ≤ st 117 i ∧ st 117 i < 8)
def en_wFillingB (n : Int) (k : Int) (st : zS) (r : Int) (s1 : zS) : Prop := gInv zgt s1 ∧ aFr m_wFillingB st s1 ∧ (r = fG (tn 135 st) (st 116) (st 117) (st 115 5) n k)
def ct_wFillingB (n : Int) (k : Int) (st : zS) (Q : zQ) : Prop := rq_wFillingB n k st ∧ (∀ (r : Int) (s1 : zS), en_wFillingB n k st r s1 → Q (some (.inl r)) s1)
theorem ct_wFillingB_m {n k : Int} {st : zS} {Q Q' : zQ} (hQ : ∀ r st', Q r st' → Q' r st') (h : ct_wFillingB n k st Q) : ct_wFillingB n k st Q' := ⟨h.1, fun x0 x1 x2 => hQ _ _ (h.2 x0 x1 x2)⟩
def k_wFillingB : zCall := fun _ as st Q => match as with
  | [.inr (.inr (.inl z_o)), .inl n, .inl k] => z_o = 0 ∧ ct_wFillingB n k st Q
  | _ => False
def m_wAskedB : aM := ([(115, 6), (115, 7)], [118, 119, 120])
def rq_wAskedB (n : Int) (x : Int) (st : zS) : Prop := gInv zgt st ∧ (st 0 8 = 135) ∧ (TW (tn 135 st)) ∧ (∀ i : Nat, (i : Int) < st 115 5 → 0 ≤ st 117 i ∧ st 117 i < 8)
def en_wAskedB (n : Int) (x : Int) (st : zS) (r : Int) (s1 : zS) : Prop := gInv zgt s1 ∧ aFr m_wAskedB st s1 ∧ (r = fA (tn 135 st) (st 116) (st 117) (st 115 5) n x)
def ct_wAskedB (n : Int) (x : Int) (st : zS) (Q : zQ) : Prop := rq_wAskedB n x st ∧ (∀ (r : Int) (s1 : zS), en_wAskedB n x st r s1 → Q (some (.inl r)) s1)
theorem ct_wAskedB_m {n x : Int} {st : zS} {Q Q' : zQ} (hQ : ∀ r st', Q r st' → Q' r st') (h : ct_wAskedB n x st Q) : ct_wAskedB n x st Q' := ⟨h.1, fun x0 x1 x2 => hQ _ _ (h.2 x0 x1 x2)⟩
def k_wAskedB : zCall := fun _ as st Q => match as with
  | [.inr (.inr (.inl z_o)), .inl n, .inl x] => z_o = 0 ∧ ct_wAskedB n x st Q
  | _ => False
section XYP
variable {cl : Nat → zCall}
set_option maxHeartbeats 4000000 in
set_option maxRecDepth 100000 in
theorem c_wFill118 (hTb : aTb zSh rx_tb cl) {D : Nat} (hD : 1 ≤ D) {v : Int} {st : zS} {Q : zQ} (h : ct_wFill118 v st Q) : cl D 23 [.inr (.inr (.inl 118)), .inl v] st Q := by
  obtain ⟨d, rfl⟩ : ∃ d, D = d + 1 := ⟨D - 1, by omega⟩
  refine hTb d 23 (rx_m23, 4, 0, 0, 0) rfl _ _ _ (Nat.le_of_ble_eq_true rfl) (fun K hcl hsf hsl => ?_)
  have hcm : zmo (zno) (cl d) := zno_m
  obtain ⟨hR, hQ⟩ := h
  obtain ⟨hG, hv⟩ := hR
  change -2147483648 ≤ v ∧ v ≤ 2147483647 at hv
  have lp : ∀ (u : Nat) (i : Int) (s_lp : zS), gInv zgt s_lp ∧ aFr m_wFill118 st s_lp ∧ (0 ≤ i ∧ i ≤ 20) ∧ (∀ j : Int, 0 ≤ j → j < i → s_lp 118 j.toNat = v) → (20 - i).toNat = u → K (rx_find rx_m23 5) [(3, .inl 20), (2, .inl i), (0, .inr (.inr (.inl 118))), (1, .inl v)] [] s_lp := by
    intro u
    induction u using Nat.strongRecOn with
    | _ u ih =>
      intro i s_lp hi hu
      obtain ⟨gI_lp, fI_lp, i_lp, z_lp⟩ := hi
      refine yr1_ok (Rt := Q) (wc := (zno)) (stp := [5]) hcm hcl [] 35 ?_
      show (((20 : Int) ≤ i → Q none s_lp) ∧ (¬ ((20 : Int) ≤ i) → ((0 ≤ i ∧ i < 20) ∧ ((-2147483648 ≤ i + 1 ∧ i + 1 ≤ 2147483647) ∧ K (rx_find rx_m23 5) [(2, .inl (i + 1)), (3, .inl 20), (0, .inr (.inr (.inl 118))), (1, .inl v)] [] (zup s_lp 118 (i : Int).toNat v)))))
      refine ⟨fun h1 => ?_, fun h1 => ?_⟩
      · exact hQ _ ⟨gI_lp, fI_lp, (show ∀ j : Int, 0 ≤ j → j < 20 → s_lp 118 j.toNat = v from fun j z1 z2 => z_lp j z1 (by omega))⟩
      · refine ⟨by omega, ?_⟩
        refine ⟨by omega, ?_⟩
        exact hsl _ _ _ _ _ (sb_cons (.tail _ (.head _)) (sb_cons (.head _) (sb_cons (.tail _ (.tail _ (.head _))) (sb_cons (.tail _ (.tail _ (.tail _ (.head _)))) sb_nil)))) (ih _ (show (20 - (i + 1) : Int).toNat < u from by omega) (i + 1) (zup s_lp 118 (i : Int).toNat v) ⟨(gInv_up gI_lp (p_a118 (by omega))), (fr_a fI_lp rfl), (show 0 ≤ (i + 1) ∧ (i + 1) ≤ 20 from by omega), (show ∀ j : Int, 0 ≤ j → j < (i + 1) → (zup s_lp 118 (i : Int).toNat v) 118 j.toNat = v from fun j z1 z2 => by
          show up1 (s_lp 118) (i : Int).toNat v j.toNat = v
          by_cases z3 : j = i
          · rw [z3, up1_e]
          · rw [up1_n _ _ (by omega)]; exact z_lp j z1 (by omega))⟩ rfl)
  refine yr1_ok (Rt := Q) (wc := (zno)) (stp := [5]) hcm hcl [] 35 ?_
  show K (rx_find rx_m23 5) [(3, .inl 20), (2, .inl 0), (0, .inr (.inr (.inl 118))), (1, .inl v)] [] st
  exact lp _ 0 st ⟨hG, (fr_rf _ _), (show 0 ≤ (0 : Int) ∧ (0 : Int) ≤ 20 from by omega), (show ∀ j : Int, 0 ≤ j → j < (0 : Int) → st 118 j.toNat = v from fun j z1 z2 => by omega)⟩ rfl
theorem k_wFill118_m (hTb : aTb zSh rx_tb cl) {D : Nat} (hD : 1 ≤ D) : ∀ as st (Q Q' : zQ), (∀ r st', Q r st' → Q' r st') → k_wFill118 23 as st Q → cl D 23 as st Q' := by
  intro as st Q Q' hQ h
  unfold k_wFill118 at h
  split at h
  · obtain ⟨rfl, h⟩ := h
    exact c_wFill118 hTb hD (ct_wFill118_m hQ h)
  · exact h.elim
set_option maxHeartbeats 4000000 in
set_option maxRecDepth 100000 in
theorem c_wMay (hTb : aTb zSh rx_tb cl) {D : Nat} (hD : 1 ≤ D) {k p : Int} {st : zS} {Q : zQ} (h : ct_wMay k p st Q) : cl D 225 [.inr (.inr (.inl 115)), .inl k, .inl p] st Q := by
  obtain ⟨d, rfl⟩ : ∃ d, D = d + 1 := ⟨D - 1, by omega⟩
  refine hTb d 225 (rx_m225, 3, 0, 0, 2) rfl _ _ _ (Nat.le_of_ble_eq_true rfl) (fun K hcl hsf hsl => ?_)
  have hcm : zmo (zno) (cl d) := zno_m
  obtain ⟨hR, hQ⟩ := h
  obtain ⟨hG, q⟩ := hR
  change 0 ≤ k ∧ k < 20 ∧ 0 ≤ p ∧ p < 8 at q
  have hq := hb_q (st 118 (k : Int).toNat) p
  have h01 := hb_01 (st 118 (k : Int).toNat) p
  refine yr1_ok (Rt := Q) (wc := (zno)) (stp := []) hcm hcl [] 34 ?_
  show ((0 ≤ k ∧ k < 20) ∧ ((¬ zd (Nat.land (zi ((st 118 (k : Int).toNat) / zpw (p % 32).toNat)) (zi 1)) = (1 : Int) → ((0 = (0 : Int) ∨ 0 = (1 : Int)) ∧ Q (some (.inl 0)) st)) ∧ (¬ (¬ zd (Nat.land (zi ((st 118 (k : Int).toNat) / zpw (p % 32).toNat)) (zi 1)) = (1 : Int)) → ((1 = (0 : Int) ∨ 1 = (1 : Int)) ∧ Q (some (.inl 1)) st))))
  have g1 := g_a118 hG (k : Int).toNat
  refine ⟨by omega, ?_⟩
  refine ⟨fun h2 => ?_, fun h2 => ?_⟩
  · refine ⟨by omega, ?_⟩
    exact hQ _ (show (0 : Int) = hb (st 118 (k : Int).toNat) p from by omega)
  · refine ⟨by omega, ?_⟩
    exact hQ _ (show (1 : Int) = hb (st 118 (k : Int).toNat) p from by omega)
theorem k_wMay_m (hTb : aTb zSh rx_tb cl) {D : Nat} (hD : 1 ≤ D) : ∀ as st (Q Q' : zQ), (∀ r st', Q r st' → Q' r st') → k_wMay 225 as st Q → cl D 225 as st Q' := by
  intro as st Q Q' hQ h
  unfold k_wMay at h
  split at h
  · obtain ⟨rfl, h⟩ := h
    exact c_wMay hTb hD (ct_wMay_m hQ h)
  · exact h.elim
set_option maxHeartbeats 4000000 in
set_option maxRecDepth 100000 in
theorem c_wCap (hTb : aTb zSh rx_tb cl) {D : Nat} (hD : 2 ≤ D) {a : Int} {st : zS} {Q : zQ} (h : ct_wCap a st Q) : cl D 51 [.inr (.inl a)] st Q := by
  obtain ⟨d, rfl⟩ : ∃ d, D = d + 1 := ⟨D - 1, by omega⟩
  refine hTb d 51 (rx_m51, 2, 0, 0, 1) rfl _ _ _ (Nat.le_of_ble_eq_true rfl) (fun K hcl hsf hsl => ?_)
  have hcm : zmo (wcL [(52, k_wMinL)]) (cl d) := (wcL_m (wm_cons (k_wMinL_m hTb (by omega)) wm_nil))
  obtain ⟨hR, hQ⟩ := h
  have q := hR
  change 0 ≤ a at q
  have hc := cp9_c (x := a)
  refine yr1_ok (Rt := Q) (wc := (wcL [(52, k_wMinL)])) (stp := []) hcm hcl [] 25 ?_
  show (∀ (r1 : Int), en_wMinL (999999999) a st r1 → ((-2147483648 ≤ r1 ∧ r1 ≤ 2147483647) ∧ Q (some (.inl r1)) st))
  refine fun r1 q1 => ?_
  have e1 := q1
  change ((999999999) ≤ a → r1 = (999999999)) ∧ (a < (999999999) → r1 = a) at e1
  refine ⟨by omega, ?_⟩
  exact hQ _ (show r1 = cp9 a from by omega)
theorem k_wCap_m (hTb : aTb zSh rx_tb cl) {D : Nat} (hD : 2 ≤ D) : ∀ as st (Q Q' : zQ), (∀ r st', Q r st' → Q' r st') → k_wCap 51 as st Q → cl D 51 as st Q' := by
  intro as st Q Q' hQ h
  unfold k_wCap at h
  split at h
  · exact c_wCap hTb hD (ct_wCap_m hQ h)
  · exact h.elim
set_option maxHeartbeats 4000000 in
set_option maxRecDepth 100000 in
theorem c_wOpenA (hTb : aTb zSh rx_tb cl) {D : Nat} (hD : 2 ≤ D) {n : Int} {st : zS} {Q : zQ} (h : ct_wOpenA n st Q) : cl D 26 [.inr (.inr (.inl 115)), .inr (.inr (.inl 122)), .inl n] st Q := by
  obtain ⟨d, rfl⟩ : ∃ d, D = d + 1 := ⟨D - 1, by omega⟩
  refine hTb d 26 (rx_m26, 5, 0, 0, 0) rfl _ _ _ (Nat.le_of_ble_eq_true rfl) (fun K hcl hsf hsl => ?_)
  have hcm : zmo (wcL [(23, k_wFill118)]) (cl d) := (wcL_m (wm_cons (k_wFill118_m hTb (by omega)) wm_nil))
  obtain ⟨hR, hQ⟩ := h
  obtain ⟨hG, pp, sp, nn⟩ := hR
  change 0 ≤ st 122 1 ∧ st 122 1 ≤ 8 at pp
  change ∀ i : Nat, (i : Int) < st 115 5 → 0 ≤ st 117 i ∧ st 117 i < 8 at sp
  change 1 ≤ n ∧ n ≤ 20 at nn
  have hsh := zsh (s := st 122 1) pp.1 pp.2
  have hpw := pw256 (s := st 122 1) pp.1 pp.2
  have lp : ∀ (u : Nat) (i : Int) (s_lp : zS), gInv zgt s_lp ∧ aFr m_wOpenA st s_lp ∧ (0 ≤ i ∧ i ≤ st 115 5) ∧ (OPN (st 122 1) (st 116) (st 117) n i (s_lp 118)) → (st 115 5 - i).toNat = u → K (rx_find rx_m26 17) [(3, .inl i), (0, .inr (.inr (.inl 115))), (1, .inr (.inr (.inl 122))), (2, .inl n)] [] s_lp := by
    intro u
    induction u using Nat.strongRecOn with
    | _ u ih =>
      intro i s_lp hi hu
      obtain ⟨gI_lp, fI_lp, i_lp, o_lp⟩ := hi
      have e116 : s_lp 116 (i : Int).toNat = st 116 (i : Int).toNat := fI_lp 116 _ rfl rfl
      have e117 : s_lp 117 (i : Int).toNat = st 117 (i : Int).toNat := fI_lp 117 _ rfl rfl
      have hr0 := g_a116 hG (i : Int).toNat
      have g1 := g_f115_5 hG
      have e2 : s_lp 115 5 = st 115 5 := fI_lp 115 5 rfl rfl
      refine yr1_ok (Rt := Q) (wc := (wcL [(23, k_wFill118)])) (stp := [17]) hcm hcl [] 72 ?_
      show ((s_lp 115 5 ≤ i → Q none s_lp) ∧ (¬ (s_lp 115 5 ≤ i) → ((0 ≤ i ∧ i < 20) ∧ ((n ≤ s_lp 116 (i : Int).toNat → ((0 ≤ (0 : Int) ∧ (0 : Int) < 20) ∧ ((0 ≤ i ∧ i < 20) ∧ ((n ≤ s_lp 116 (i : Int).toNat → ((0 ≤ (0 : Int) ∧ (0 : Int) < 20) ∧ ((-2147483648 ≤ i + 1 ∧ i + 1 ≤ 2147483647) ∧ K (rx_find rx_m26 17) [(3, .inl (i + 1)), (4, .inl 0), (0, .inr (.inr (.inl 115))), (1, .inr (.inr (.inl 122))), (2, .inl n)] [] (zup s_lp 118 (0 : Int).toNat (zd (Nat.land (zi (s_lp 118 (0 : Int).toNat)) (zi 0))))))) ∧ (¬ (n ≤ s_lp 116 (i : Int).toNat) → ((0 ≤ i ∧ i < 20) ∧ ((0 ≤ (0 : Int) ∧ (0 : Int) < 20) ∧ ((-2147483648 ≤ i + 1 ∧ i + 1 ≤ 2147483647) ∧ K (rx_find rx_m26 17) [(3, .inl (i + 1)), (4, .inl 0), (0, .inr (.inr (.inl 115))), (1, .inr (.inr (.inl 122))), (2, .inl n)] [] (zup s_lp 118 (0 : Int).toNat (zd (Nat.land (zi (s_lp 118 (0 : Int).toNat)) (zi (zd ((zi 1 * 2 ^ (zi (s_lp 117 (i : Int).toNat) % 32)) % 4294967296)))))))))))))) ∧ (¬ (n ≤ s_lp 116 (i : Int).toNat) → ((0 ≤ i ∧ i < 20) ∧ ((0 ≤ s_lp 116 (i : Int).toNat ∧ s_lp 116 (i : Int).toNat < 20) ∧ ((0 ≤ i ∧ i < 20) ∧ ((n ≤ s_lp 116 (i : Int).toNat → ((0 ≤ s_lp 116 (i : Int).toNat ∧ s_lp 116 (i : Int).toNat < 20) ∧ ((-2147483648 ≤ i + 1 ∧ i + 1 ≤ 2147483647) ∧ K (rx_find rx_m26 17) [(3, .inl (i + 1)), (4, .inl (s_lp 116 (i : Int).toNat)), (0, .inr (.inr (.inl 115))), (1, .inr (.inr (.inl 122))), (2, .inl n)] [] (zup s_lp 118 (s_lp 116 (i : Int).toNat : Int).toNat (zd (Nat.land (zi (s_lp 118 (s_lp 116 (i : Int).toNat : Int).toNat)) (zi 0))))))) ∧ (¬ (n ≤ s_lp 116 (i : Int).toNat) → ((0 ≤ i ∧ i < 20) ∧ ((0 ≤ s_lp 116 (i : Int).toNat ∧ s_lp 116 (i : Int).toNat < 20) ∧ ((-2147483648 ≤ i + 1 ∧ i + 1 ≤ 2147483647) ∧ K (rx_find rx_m26 17) [(3, .inl (i + 1)), (4, .inl (s_lp 116 (i : Int).toNat)), (0, .inr (.inr (.inl 115))), (1, .inr (.inr (.inl 122))), (2, .inl n)] [] (zup s_lp 118 (s_lp 116 (i : Int).toNat : Int).toNat (zd (Nat.land (zi (s_lp 118 (s_lp 116 (i : Int).toNat : Int).toNat)) (zi (zd ((zi 1 * 2 ^ (zi (s_lp 117 (i : Int).toNat) % 32)) % 4294967296)))))))))))))))))))
      refine ⟨fun h3 => ?_, fun h3 => ?_⟩
      · exact hQ _ ⟨gI_lp, fI_lp, (show OPN (st 122 1) (st 116) (st 117) n (st 115 5) (s_lp 118) from (by rw [show st 115 5 = i by omega]; exact o_lp))⟩
      · have g5 := g_a116 hG (i : Int).toNat
        have e4 : s_lp 116 (i : Int).toNat = st 116 (i : Int).toNat := fI_lp 116 (i : Int).toNat rfl rfl
        refine ⟨by omega, ?_⟩
        refine ⟨fun h6 => ?_, fun h6 => ?_⟩
        · have g7 := g_a118 gI_lp (0 : Int).toNat
          refine ⟨by omega, ?_⟩
          refine ⟨by omega, ?_⟩
          refine ⟨fun h8 => ?_, fun h8 => ?_⟩
          · refine ⟨by omega, ?_⟩
            refine ⟨by omega, ?_⟩
            exact hsl _ _ _ _ _ (sb_cons (.head _) (sb_cons (.tail _ (.tail _ (.head _))) (sb_cons (.tail _ (.tail _ (.tail _ (.head _)))) (sb_cons (.tail _ (.tail _ (.tail _ (.tail _ (.head _))))) sb_nil)))) (ih _ (show (st 115 5 - (i + 1) : Int).toNat < u from by omega) (i + 1) (zup s_lp 118 (0 : Int).toNat (zd (Nat.land (zi (s_lp 118 (0 : Int).toNat)) (zi 0)))) ⟨(gInv_up gI_lp (p_a118 (zdand_ok _ _))), (fr_a fI_lp rfl), (show 0 ≤ (i + 1) ∧ (i + 1) ≤ st 115 5 from by omega), (show OPN (st 122 1) (st 116) (st 117) n (i + 1) ((zup s_lp 118 (0 : Int).toNat (zd (Nat.land (zi (s_lp 118 (0 : Int).toNat)) (zi 0)))) 118) from (by
              have z := OPN_out (v := (zd (Nat.land (zi (s_lp 118 (0 : Int).toNat)) (zi 0)))) o_lp (by omega) (show ¬ st 116 (i : Int).toNat < n by omega) rfl
              exact z))⟩ rfl)
          · have g10 := g_a117 hG (i : Int).toNat
            have e9 : s_lp 117 (i : Int).toNat = st 117 (i : Int).toNat := fI_lp 117 (i : Int).toNat rfl rfl
            refine ⟨by omega, ?_⟩
            refine ⟨by omega, ?_⟩
            refine ⟨by omega, ?_⟩
            exact hsl _ _ _ _ _ (sb_cons (.head _) (sb_cons (.tail _ (.tail _ (.head _))) (sb_cons (.tail _ (.tail _ (.tail _ (.head _)))) (sb_cons (.tail _ (.tail _ (.tail _ (.tail _ (.head _))))) sb_nil)))) (ih _ (show (st 115 5 - (i + 1) : Int).toNat < u from by omega) (i + 1) (zup s_lp 118 (0 : Int).toNat (zd (Nat.land (zi (s_lp 118 (0 : Int).toNat)) (zi (zd ((zi 1 * 2 ^ (zi (s_lp 117 (i : Int).toNat) % 32)) % 4294967296)))))) ⟨(gInv_up gI_lp (p_a118 (zdand_ok _ _))), (fr_a fI_lp rfl), (show 0 ≤ (i + 1) ∧ (i + 1) ≤ st 115 5 from by omega), (show OPN (st 122 1) (st 116) (st 117) n (i + 1) ((zup s_lp 118 (0 : Int).toNat (zd (Nat.land (zi (s_lp 118 (0 : Int).toNat)) (zi (zd ((zi 1 * 2 ^ (zi (s_lp 117 (i : Int).toNat) % 32)) % 4294967296)))))) 118) from (by exfalso; omega))⟩ rfl)
        · refine ⟨by omega, ?_⟩
          have g11 := g_a118 gI_lp (s_lp 116 (i : Int).toNat : Int).toNat
          have e12 : s_lp 118 (s_lp 116 (i : Int).toNat : Int).toNat = s_lp 118 (st 116 (i : Int).toNat : Int).toNat := by rw [e4]
          have g13 := g_a118 gI_lp (st 116 (i : Int).toNat : Int).toNat
          refine ⟨by omega, ?_⟩
          refine ⟨by omega, ?_⟩
          refine ⟨fun h14 => ?_, fun h14 => ?_⟩
          · refine ⟨by omega, ?_⟩
            refine ⟨by omega, ?_⟩
            exact hsl _ _ _ _ _ (sb_cons (.head _) (sb_cons (.tail _ (.tail _ (.head _))) (sb_cons (.tail _ (.tail _ (.tail _ (.head _)))) (sb_cons (.tail _ (.tail _ (.tail _ (.tail _ (.head _))))) sb_nil)))) (ih _ (show (st 115 5 - (i + 1) : Int).toNat < u from by omega) (i + 1) (zup s_lp 118 (s_lp 116 (i : Int).toNat : Int).toNat (zd (Nat.land (zi (s_lp 118 (s_lp 116 (i : Int).toNat : Int).toNat)) (zi 0)))) ⟨(gInv_up gI_lp (p_a118 (zdand_ok _ _))), (fr_a fI_lp rfl), (show 0 ≤ (i + 1) ∧ (i + 1) ≤ st 115 5 from by omega), (show OPN (st 122 1) (st 116) (st 117) n (i + 1) ((zup s_lp 118 (s_lp 116 (i : Int).toNat : Int).toNat (zd (Nat.land (zi (s_lp 118 (s_lp 116 (i : Int).toNat : Int).toNat)) (zi 0)))) 118) from (by exfalso; omega))⟩ rfl)
          · have g16 := g_a117 hG (i : Int).toNat
            have e15 : s_lp 117 (i : Int).toNat = st 117 (i : Int).toNat := fI_lp 117 (i : Int).toNat rfl rfl
            refine ⟨by omega, ?_⟩
            refine ⟨by omega, ?_⟩
            refine ⟨by omega, ?_⟩
            exact hsl _ _ _ _ _ (sb_cons (.head _) (sb_cons (.tail _ (.tail _ (.head _))) (sb_cons (.tail _ (.tail _ (.tail _ (.head _)))) (sb_cons (.tail _ (.tail _ (.tail _ (.tail _ (.head _))))) sb_nil)))) (ih _ (show (st 115 5 - (i + 1) : Int).toNat < u from by omega) (i + 1) (zup s_lp 118 (s_lp 116 (i : Int).toNat : Int).toNat (zd (Nat.land (zi (s_lp 118 (s_lp 116 (i : Int).toNat : Int).toNat)) (zi (zd ((zi 1 * 2 ^ (zi (s_lp 117 (i : Int).toNat) % 32)) % 4294967296)))))) ⟨(gInv_up gI_lp (p_a118 (zdand_ok _ _))), (fr_a fI_lp rfl), (show 0 ≤ (i + 1) ∧ (i + 1) ≤ st 115 5 from by omega), (show OPN (st 122 1) (st 116) (st 117) n (i + 1) ((zup s_lp 118 (s_lp 116 (i : Int).toNat : Int).toNat (zd (Nat.land (zi (s_lp 118 (s_lp 116 (i : Int).toNat : Int).toNat)) (zi (zd ((zi 1 * 2 ^ (zi (s_lp 117 (i : Int).toNat) % 32)) % 4294967296)))))) 118) from (by
              have hs := sp (i : Int).toNat (by omega)
              have hr := g_a116 hG (i : Int).toNat
              have z := OPN_in (x := (s_lp 116 (i : Int).toNat : Int).toNat) (v := (zd (Nat.land (zi (s_lp 118 (s_lp 116 (i : Int).toNat : Int).toNat)) (zi (zd ((zi 1 * 2 ^ (zi (s_lp 117 (i : Int).toNat) % 32)) % 4294967296)))))) pp.2 o_lp (by omega) hr.1 hr.2 hs.1 hs.2 (by omega) (by omega) (by rw [← e117])
              exact z))⟩ rfl)
  have g17 := g_f115_5 hG
  have g18 := g_f122_1 hG
  refine yr1_ok (Rt := Q) (wc := (wcL [(23, k_wFill118)])) (stp := [17]) hcm hcl [] 72 ?_
  show ((-2147483648 ≤ (zd ((zi 1 * 2 ^ (zi (st 122 1) % 32)) % 4294967296)) - 1 ∧ (zd ((zi 1 * 2 ^ (zi (st 122 1) % 32)) % 4294967296)) - 1 ≤ 2147483647) ∧ ((118) = 118 ∧ (rq_wFill118 ((zd ((zi 1 * 2 ^ (zi (st 122 1) % 32)) % 4294967296)) - 1) st ∧ (∀ (s19 : zS), en_wFill118 ((zd ((zi 1 * 2 ^ (zi (st 122 1) % 32)) % 4294967296)) - 1) st s19 → K (rx_find rx_m26 17) [(3, .inl 0), (0, .inr (.inr (.inl 115))), (1, .inr (.inr (.inl 122))), (2, .inl n)] [] s19))))
  refine ⟨by omega, ?_⟩
  refine ⟨rfl, ⟨hG, (show -2147483648 ≤ ((zd ((zi 1 * 2 ^ (zi (st 122 1) % 32)) % 4294967296)) - 1) ∧ ((zd ((zi 1 * 2 ^ (zi (st 122 1) % 32)) % 4294967296)) - 1) ≤ 2147483647 from by omega)⟩, fun s19 q19 => ?_⟩
  obtain ⟨gs19, fs19, z19⟩ := q19
  change ∀ j : Int, 0 ≤ j → j < 20 → s19 118 j.toNat = ((zd ((zi 1 * 2 ^ (zi (st 122 1) % 32)) % 4294967296)) - 1) at z19
  exact lp _ 0 s19 ⟨gs19, (fr_tr (fr_rf _ _) fs19 rfl), (show 0 ≤ (0 : Int) ∧ (0 : Int) ≤ st 115 5 from by omega), (show OPN (st 122 1) (st 116) (st 117) n (0 : Int) (s19 118) from (OPN_0 pp.1 pp.2 (v := zd ((zi 1 * 2 ^ (zi (st 122 1) % 32)) % 4294967296) - 1) rfl z19))⟩ rfl
theorem k_wOpenA_m (hTb : aTb zSh rx_tb cl) {D : Nat} (hD : 2 ≤ D) : ∀ as st (Q Q' : zQ), (∀ r st', Q r st' → Q' r st') → k_wOpenA 26 as st Q → cl D 26 as st Q' := by
  intro as st Q Q' hQ h
  unfold k_wOpenA at h
  split at h
  · obtain ⟨rfl, rfl, h⟩ := h
    exact c_wOpenA hTb hD (ct_wOpenA_m hQ h)
  · exact h.elim
set_option maxHeartbeats 4000000 in
set_option maxRecDepth 100000 in
theorem c_wSBA119 (hTb : aTb zSh rx_tb cl) {D : Nat} (hD : 3 ≤ D) {k p : Int} {st : zS} {Q : zQ} (h : ct_wSBA119 k p st Q) : cl D 226 [.inr (.inr (.inl 122)), .inr (.inr (.inl 119)), .inl k, .inl p] st Q := by
  obtain ⟨d, rfl⟩ : ∃ d, D = d + 1 := ⟨D - 1, by omega⟩
  refine hTb d 226 (rx_m226, 7, 0, 0, 5) rfl _ _ _ (Nat.le_of_ble_eq_true rfl) (fun K hcl hsf hsl => ?_)
  have hcm : zmo (wcL [(286, k_cBetweenA)]) (cl d) := (wcL_m (wm_cons (k_cBetweenA_m hTb (by omega)) wm_nil))
  obtain ⟨hR, hQ⟩ := h
  obtain ⟨hG, tw, q, fb⟩ := hR
  change TW (tn 122 st) at tw
  change 0 ≤ k ∧ k < 20 ∧ 0 ≤ p ∧ p < st 122 1 at q
  change ∀ q : Nat, (q : Int) < st 122 1 → 0 ≤ st 119 ((k * 8) + (q : Int) : Int).toNat ∧ st 119 ((k * 8) + (q : Int) : Int).toNat ≤ 144115188075855872 at fb
  have b8 := tw.1.1
  have b8 : 0 ≤ st 122 1 ∧ st 122 1 ≤ 8 := b8
  have lp : ∀ (u : Nat) (i : Int) (su : Int), (0 ≤ i ∧ i ≤ st 122 1 ∧ 0 ≤ su ∧ su ≤ i * 144115188075855872) ∧ (su = flS (fun q : Nat => if 0 ≤ lnk (tn 122 st) ((p : Int).toNat : Int) (q : Int) then st 119 ((k * 8) + (q : Int) : Int).toNat else 0) (i : Int).toNat) → (st 122 1 - i).toNat = u → K (rx_find rx_m226 6) [(6, .inl i), (4, .inr (.inl su)), (0, .inr (.inr (.inl 122))), (1, .inr (.inr (.inl 119))), (2, .inl k), (3, .inl p)] [] st := by
    intro u
    induction u using Nat.strongRecOn with
    | _ u ih =>
      intro i su hi hu
      obtain ⟨i_lp, v_lp⟩ := hi
      have hfb : i < st 122 1 → 0 ≤ st 119 ((k * 8) + i).toNat ∧ st 119 ((k * 8) + i).toNat ≤ 144115188075855872 := fun z => by
        have y := fb (i : Int).toNat (by omega)
        rw [show (((i : Int).toNat : Nat) : Int) = i by omega] at y
        exact y
      have g1 := g_f122_1 hG
      refine yr1_ok (Rt := Q) (wc := (wcL [(286, k_cBetweenA)])) (stp := [6]) hcm hcl [] 48 ?_
      show ((st 122 1 ≤ i → Q (some (.inr (.inl su))) st) ∧ (¬ (st 122 1 ≤ i) → (122 = 122 ∧ (rq_cBetweenA p i st ∧ (∀ (r2 : Int), en_cBetweenA p i st r2 → ((r2 = ((-1) : Int) → ((-2147483648 ≤ i + 1 ∧ i + 1 ≤ 2147483647) ∧ K (rx_find rx_m226 6) [(6, .inl (i + 1)), (4, .inr (.inl su)), (0, .inr (.inr (.inl 122))), (1, .inr (.inr (.inl 119))), (2, .inl k), (3, .inl p)] [] st)) ∧ (¬ (r2 = ((-1) : Int)) → ((-2147483648 ≤ k * 8 ∧ k * 8 ≤ 2147483647) ∧ ((-2147483648 ≤ (k * 8) + i ∧ (k * 8) + i ≤ 2147483647) ∧ ((0 ≤ (k * 8) + i ∧ (k * 8) + i < 160) ∧ ((-9223372036854775808 ≤ su + (st 119 ((k * 8) + i : Int).toNat) ∧ su + (st 119 ((k * 8) + i : Int).toNat) ≤ 9223372036854775807) ∧ ((-2147483648 ≤ i + 1 ∧ i + 1 ≤ 2147483647) ∧ K (rx_find rx_m226 6) [(6, .inl (i + 1)), (4, .inr (.inl (su + (st 119 ((k * 8) + i : Int).toNat)))), (0, .inr (.inr (.inl 122))), (1, .inr (.inr (.inl 119))), (2, .inl k), (3, .inl p)] [] st))))))))))))
      refine ⟨fun h3 => ?_, fun h3 => ?_⟩
      · exact hQ _ ⟨(show su = flb (tn 122 st) (fun q : Nat => st 119 ((k * 8) + (q : Int) : Int).toNat) (p : Int).toNat from (by
          show su = flS (fun q : Nat => if 0 ≤ lnk (tn 122 st) ((p : Int).toNat : Int) (q : Int) then st 119 ((k * 8) + (q : Int) : Int).toNat else 0) (st 122 1 : Int).toNat
          rw [show st 122 1 = i by omega]
          exact v_lp)), (show 0 ≤ su ∧ su ≤ 1152921504606846976 from by omega)⟩
      · refine ⟨rfl, hG, fun r2 q2 => ?_⟩
        have e2 := q2
        change (0 ≤ p ∧ p < st 122 1 ∧ 0 ≤ i ∧ i < st 122 1 → r2 = st 127 (p * 8 + i : Int).toNat) ∧ (¬ (0 ≤ p ∧ p < st 122 1 ∧ 0 ≤ i ∧ i < st 122 1) → r2 = -1) at e2
        have g4 := g_a127 hG (p * 8 + i : Int).toNat
        refine ⟨fun h5 => ?_, fun h5 => ?_⟩
        · refine ⟨by omega, ?_⟩
          exact ih _ (show (st 122 1 - (i + 1) : Int).toNat < u from by omega) (i + 1) su ⟨(show 0 ≤ (i + 1) ∧ (i + 1) ≤ st 122 1 ∧ 0 ≤ su ∧ su ≤ (i + 1) * 144115188075855872 from by omega), (show su = flS (fun q : Nat => if 0 ≤ lnk (tn 122 st) ((p : Int).toNat : Int) (q : Int) then st 119 ((k * 8) + (q : Int) : Int).toNat else 0) ((i + 1) : Int).toNat from (by
              have hl : lnk (tn 122 st) p i = r2 := by
                show st 127 (8 * p + i : Int).toNat = _
                rw [show 8 * p + i = p * 8 + i by omega]
                omega
              have hw := tw.2.2.1 p i (by omega) (by omega) (by omega) (by omega)
              have hv := flb_s (T := tn 122 st) (f := fun q : Nat => st 119 ((k * 8) + (q : Int) : Int).toNat) (p := p) (i := i) (by omega) (by omega)
              refine Eq.trans ?_ hv.symm
              rw [if_neg (show ¬ 0 ≤ lnk (tn 122 st) p i by omega), ← v_lp]
              omega))⟩ rfl
        · refine ⟨by omega, ?_⟩
          refine ⟨by omega, ?_⟩
          have g6 := g_a119 hG ((k * 8) + i : Int).toNat
          refine ⟨by omega, ?_⟩
          refine ⟨by omega, ?_⟩
          refine ⟨by omega, ?_⟩
          exact ih _ (show (st 122 1 - (i + 1) : Int).toNat < u from by omega) (i + 1) (su + (st 119 ((k * 8) + i : Int).toNat)) ⟨(show 0 ≤ (i + 1) ∧ (i + 1) ≤ st 122 1 ∧ 0 ≤ (su + (st 119 ((k * 8) + i : Int).toNat)) ∧ (su + (st 119 ((k * 8) + i : Int).toNat)) ≤ (i + 1) * 144115188075855872 from by omega), (show (su + (st 119 ((k * 8) + i : Int).toNat)) = flS (fun q : Nat => if 0 ≤ lnk (tn 122 st) ((p : Int).toNat : Int) (q : Int) then st 119 ((k * 8) + (q : Int) : Int).toNat else 0) ((i + 1) : Int).toNat from (by
              have hl : lnk (tn 122 st) p i = r2 := by
                show st 127 (8 * p + i : Int).toNat = _
                rw [show 8 * p + i = p * 8 + i by omega]
                omega
              have hw := tw.2.2.1 p i (by omega) (by omega) (by omega) (by omega)
              have hv := flb_s (T := tn 122 st) (f := fun q : Nat => st 119 ((k * 8) + (q : Int) : Int).toNat) (p := p) (i := i) (by omega) (by omega)
              refine Eq.trans ?_ hv.symm
              rw [if_pos (show 0 ≤ lnk (tn 122 st) p i by omega), ← v_lp]
              show su + _ = su + st 119 ((k * 8) + ((i.toNat : Nat) : Int) : Int).toNat
              rw [show ((i.toNat : Nat) : Int) = i by omega]))⟩ rfl
  have g7 := g_f122_1 hG
  refine yr1_ok (Rt := Q) (wc := (wcL [(286, k_cBetweenA)])) (stp := [6]) hcm hcl [] 48 ?_
  show K (rx_find rx_m226 6) [(6, .inl 0), (4, .inr (.inl 0)), (0, .inr (.inr (.inl 122))), (1, .inr (.inr (.inl 119))), (2, .inl k), (3, .inl p)] [] st
  exact lp _ 0 0 ⟨(show 0 ≤ (0 : Int) ∧ (0 : Int) ≤ st 122 1 ∧ 0 ≤ (0 : Int) ∧ (0 : Int) ≤ (0 : Int) * 144115188075855872 from by omega), (show (0 : Int) = flS (fun q : Nat => if 0 ≤ lnk (tn 122 st) ((p : Int).toNat : Int) (q : Int) then st 119 ((k * 8) + (q : Int) : Int).toNat else 0) ((0 : Int) : Int).toNat from rfl)⟩ rfl
theorem k_wSBA119_m (hTb : aTb zSh rx_tb cl) {D : Nat} (hD : 3 ≤ D) : ∀ as st (Q Q' : zQ), (∀ r st', Q r st' → Q' r st') → k_wSBA119 226 as st Q → cl D 226 as st Q' := by
  intro as st Q Q' hQ h
  unfold k_wSBA119 at h
  split at h
  · obtain ⟨rfl, rfl, h⟩ := h
    exact c_wSBA119 hTb hD (ct_wSBA119_m hQ h)
  · exact h.elim
set_option maxHeartbeats 4000000 in
set_option maxRecDepth 100000 in
theorem c_wSBA120 (hTb : aTb zSh rx_tb cl) {D : Nat} (hD : 3 ≤ D) {k p : Int} {st : zS} {Q : zQ} (h : ct_wSBA120 k p st Q) : cl D 226 [.inr (.inr (.inl 122)), .inr (.inr (.inl 120)), .inl k, .inl p] st Q := by
  obtain ⟨d, rfl⟩ : ∃ d, D = d + 1 := ⟨D - 1, by omega⟩
  refine hTb d 226 (rx_m226, 7, 0, 0, 5) rfl _ _ _ (Nat.le_of_ble_eq_true rfl) (fun K hcl hsf hsl => ?_)
  have hcm : zmo (wcL [(286, k_cBetweenA)]) (cl d) := (wcL_m (wm_cons (k_cBetweenA_m hTb (by omega)) wm_nil))
  obtain ⟨hR, hQ⟩ := h
  obtain ⟨hG, tw, q, fb⟩ := hR
  change TW (tn 122 st) at tw
  change 0 ≤ k ∧ k < 20 ∧ 0 ≤ p ∧ p < st 122 1 at q
  change ∀ q : Nat, (q : Int) < st 122 1 → 0 ≤ st 120 ((k * 8) + (q : Int) : Int).toNat ∧ st 120 ((k * 8) + (q : Int) : Int).toNat ≤ 144115188075855872 at fb
  have b8 := tw.1.1
  have b8 : 0 ≤ st 122 1 ∧ st 122 1 ≤ 8 := b8
  have lp : ∀ (u : Nat) (i : Int) (su : Int), (0 ≤ i ∧ i ≤ st 122 1 ∧ 0 ≤ su ∧ su ≤ i * 144115188075855872) ∧ (su = flS (fun q : Nat => if 0 ≤ lnk (tn 122 st) ((p : Int).toNat : Int) (q : Int) then st 120 ((k * 8) + (q : Int) : Int).toNat else 0) (i : Int).toNat) → (st 122 1 - i).toNat = u → K (rx_find rx_m226 6) [(6, .inl i), (4, .inr (.inl su)), (0, .inr (.inr (.inl 122))), (1, .inr (.inr (.inl 120))), (2, .inl k), (3, .inl p)] [] st := by
    intro u
    induction u using Nat.strongRecOn with
    | _ u ih =>
      intro i su hi hu
      obtain ⟨i_lp, v_lp⟩ := hi
      have hfb : i < st 122 1 → 0 ≤ st 120 ((k * 8) + i).toNat ∧ st 120 ((k * 8) + i).toNat ≤ 144115188075855872 := fun z => by
        have y := fb (i : Int).toNat (by omega)
        rw [show (((i : Int).toNat : Nat) : Int) = i by omega] at y
        exact y
      have g1 := g_f122_1 hG
      refine yr1_ok (Rt := Q) (wc := (wcL [(286, k_cBetweenA)])) (stp := [6]) hcm hcl [] 48 ?_
      show ((st 122 1 ≤ i → Q (some (.inr (.inl su))) st) ∧ (¬ (st 122 1 ≤ i) → (122 = 122 ∧ (rq_cBetweenA p i st ∧ (∀ (r2 : Int), en_cBetweenA p i st r2 → ((r2 = ((-1) : Int) → ((-2147483648 ≤ i + 1 ∧ i + 1 ≤ 2147483647) ∧ K (rx_find rx_m226 6) [(6, .inl (i + 1)), (4, .inr (.inl su)), (0, .inr (.inr (.inl 122))), (1, .inr (.inr (.inl 120))), (2, .inl k), (3, .inl p)] [] st)) ∧ (¬ (r2 = ((-1) : Int)) → ((-2147483648 ≤ k * 8 ∧ k * 8 ≤ 2147483647) ∧ ((-2147483648 ≤ (k * 8) + i ∧ (k * 8) + i ≤ 2147483647) ∧ ((0 ≤ (k * 8) + i ∧ (k * 8) + i < 160) ∧ ((-9223372036854775808 ≤ su + (st 120 ((k * 8) + i : Int).toNat) ∧ su + (st 120 ((k * 8) + i : Int).toNat) ≤ 9223372036854775807) ∧ ((-2147483648 ≤ i + 1 ∧ i + 1 ≤ 2147483647) ∧ K (rx_find rx_m226 6) [(6, .inl (i + 1)), (4, .inr (.inl (su + (st 120 ((k * 8) + i : Int).toNat)))), (0, .inr (.inr (.inl 122))), (1, .inr (.inr (.inl 120))), (2, .inl k), (3, .inl p)] [] st))))))))))))
      refine ⟨fun h3 => ?_, fun h3 => ?_⟩
      · exact hQ _ ⟨(show su = flb (tn 122 st) (fun q : Nat => st 120 ((k * 8) + (q : Int) : Int).toNat) (p : Int).toNat from (by
          show su = flS (fun q : Nat => if 0 ≤ lnk (tn 122 st) ((p : Int).toNat : Int) (q : Int) then st 120 ((k * 8) + (q : Int) : Int).toNat else 0) (st 122 1 : Int).toNat
          rw [show st 122 1 = i by omega]
          exact v_lp)), (show 0 ≤ su ∧ su ≤ 1152921504606846976 from by omega)⟩
      · refine ⟨rfl, hG, fun r2 q2 => ?_⟩
        have e2 := q2
        change (0 ≤ p ∧ p < st 122 1 ∧ 0 ≤ i ∧ i < st 122 1 → r2 = st 127 (p * 8 + i : Int).toNat) ∧ (¬ (0 ≤ p ∧ p < st 122 1 ∧ 0 ≤ i ∧ i < st 122 1) → r2 = -1) at e2
        have g4 := g_a127 hG (p * 8 + i : Int).toNat
        refine ⟨fun h5 => ?_, fun h5 => ?_⟩
        · refine ⟨by omega, ?_⟩
          exact ih _ (show (st 122 1 - (i + 1) : Int).toNat < u from by omega) (i + 1) su ⟨(show 0 ≤ (i + 1) ∧ (i + 1) ≤ st 122 1 ∧ 0 ≤ su ∧ su ≤ (i + 1) * 144115188075855872 from by omega), (show su = flS (fun q : Nat => if 0 ≤ lnk (tn 122 st) ((p : Int).toNat : Int) (q : Int) then st 120 ((k * 8) + (q : Int) : Int).toNat else 0) ((i + 1) : Int).toNat from (by
              have hl : lnk (tn 122 st) p i = r2 := by
                show st 127 (8 * p + i : Int).toNat = _
                rw [show 8 * p + i = p * 8 + i by omega]
                omega
              have hw := tw.2.2.1 p i (by omega) (by omega) (by omega) (by omega)
              have hv := flb_s (T := tn 122 st) (f := fun q : Nat => st 120 ((k * 8) + (q : Int) : Int).toNat) (p := p) (i := i) (by omega) (by omega)
              refine Eq.trans ?_ hv.symm
              rw [if_neg (show ¬ 0 ≤ lnk (tn 122 st) p i by omega), ← v_lp]
              omega))⟩ rfl
        · refine ⟨by omega, ?_⟩
          refine ⟨by omega, ?_⟩
          have g6 := g_a120 hG ((k * 8) + i : Int).toNat
          refine ⟨by omega, ?_⟩
          refine ⟨by omega, ?_⟩
          refine ⟨by omega, ?_⟩
          exact ih _ (show (st 122 1 - (i + 1) : Int).toNat < u from by omega) (i + 1) (su + (st 120 ((k * 8) + i : Int).toNat)) ⟨(show 0 ≤ (i + 1) ∧ (i + 1) ≤ st 122 1 ∧ 0 ≤ (su + (st 120 ((k * 8) + i : Int).toNat)) ∧ (su + (st 120 ((k * 8) + i : Int).toNat)) ≤ (i + 1) * 144115188075855872 from by omega), (show (su + (st 120 ((k * 8) + i : Int).toNat)) = flS (fun q : Nat => if 0 ≤ lnk (tn 122 st) ((p : Int).toNat : Int) (q : Int) then st 120 ((k * 8) + (q : Int) : Int).toNat else 0) ((i + 1) : Int).toNat from (by
              have hl : lnk (tn 122 st) p i = r2 := by
                show st 127 (8 * p + i : Int).toNat = _
                rw [show 8 * p + i = p * 8 + i by omega]
                omega
              have hw := tw.2.2.1 p i (by omega) (by omega) (by omega) (by omega)
              have hv := flb_s (T := tn 122 st) (f := fun q : Nat => st 120 ((k * 8) + (q : Int) : Int).toNat) (p := p) (i := i) (by omega) (by omega)
              refine Eq.trans ?_ hv.symm
              rw [if_pos (show 0 ≤ lnk (tn 122 st) p i by omega), ← v_lp]
              show su + _ = su + st 120 ((k * 8) + ((i.toNat : Nat) : Int) : Int).toNat
              rw [show ((i.toNat : Nat) : Int) = i by omega]))⟩ rfl
  have g7 := g_f122_1 hG
  refine yr1_ok (Rt := Q) (wc := (wcL [(286, k_cBetweenA)])) (stp := [6]) hcm hcl [] 48 ?_
  show K (rx_find rx_m226 6) [(6, .inl 0), (4, .inr (.inl 0)), (0, .inr (.inr (.inl 122))), (1, .inr (.inr (.inl 120))), (2, .inl k), (3, .inl p)] [] st
  exact lp _ 0 0 ⟨(show 0 ≤ (0 : Int) ∧ (0 : Int) ≤ st 122 1 ∧ 0 ≤ (0 : Int) ∧ (0 : Int) ≤ (0 : Int) * 144115188075855872 from by omega), (show (0 : Int) = flS (fun q : Nat => if 0 ≤ lnk (tn 122 st) ((p : Int).toNat : Int) (q : Int) then st 120 ((k * 8) + (q : Int) : Int).toNat else 0) ((0 : Int) : Int).toNat from rfl)⟩ rfl
theorem k_wSBA120_m (hTb : aTb zSh rx_tb cl) {D : Nat} (hD : 3 ≤ D) : ∀ as st (Q Q' : zQ), (∀ r st', Q r st' → Q' r st') → k_wSBA120 226 as st Q → cl D 226 as st Q' := by
  intro as st Q Q' hQ h
  unfold k_wSBA120 at h
  split at h
  · obtain ⟨rfl, rfl, h⟩ := h
    exact c_wSBA120 hTb hD (ct_wSBA120_m hQ h)
  · exact h.elim
set_option maxHeartbeats 4000000 in
set_option maxRecDepth 100000 in
theorem c_wSumA (hTb : aTb zSh rx_tb cl) {D : Nat} (hD : 1 ≤ D) {k : Int} {st : zS} {Q : zQ} (h : ct_wSumA k st Q) : cl D 34 [.inr (.inr (.inl 122)), .inr (.inr (.inl 119)), .inl k] st Q := by
  obtain ⟨d, rfl⟩ : ∃ d, D = d + 1 := ⟨D - 1, by omega⟩
  refine hTb d 34 (rx_m34, 6, 0, 0, 5) rfl _ _ _ (Nat.le_of_ble_eq_true rfl) (fun K hcl hsf hsl => ?_)
  have hcm : zmo (zno) (cl d) := zno_m
  obtain ⟨hR, hQ⟩ := h
  obtain ⟨hG, pp, fb⟩ := hR
  change 0 ≤ st 122 1 ∧ st 122 1 ≤ 8 ∧ k = 0 at pp
  change ∀ q : Nat, (q : Int) < st 122 1 → 0 ≤ st 119 q ∧ st 119 q ≤ 144115188075855872 at fb
  have lp : ∀ (u : Nat) (i : Int) (su : Int), (0 ≤ i ∧ i ≤ st 122 1 ∧ 0 ≤ su ∧ su ≤ i * 144115188075855872) ∧ (su = flS (st 119) (i : Int).toNat) → (st 122 1 - i).toNat = u → K (rx_find rx_m34 5) [(5, .inl i), (3, .inr (.inl su)), (0, .inr (.inr (.inl 122))), (1, .inr (.inr (.inl 119))), (2, .inl k)] [] st := by
    intro u
    induction u using Nat.strongRecOn with
    | _ u ih =>
      intro i su hi hu
      obtain ⟨i_lp, v_lp⟩ := hi
      have hix : st 119 ((k * 8) + i).toNat = st 119 (i : Int).toNat := by rw [show ((k * 8) + i).toNat = (i : Int).toNat by omega]
      have hfb : i < st 122 1 → 0 ≤ st 119 (i : Int).toNat ∧ st 119 (i : Int).toNat ≤ 144115188075855872 := fun z => fb (i : Int).toNat (by omega)
      have g1 := g_f122_1 hG
      refine yr1_ok (Rt := Q) (wc := (zno)) (stp := [5]) hcm hcl [] 42 ?_
      show ((st 122 1 ≤ i → Q (some (.inr (.inl su))) st) ∧ (¬ (st 122 1 ≤ i) → ((-2147483648 ≤ k * 8 ∧ k * 8 ≤ 2147483647) ∧ ((-2147483648 ≤ (k * 8) + i ∧ (k * 8) + i ≤ 2147483647) ∧ ((0 ≤ (k * 8) + i ∧ (k * 8) + i < 160) ∧ ((-9223372036854775808 ≤ su + (st 119 ((k * 8) + i : Int).toNat) ∧ su + (st 119 ((k * 8) + i : Int).toNat) ≤ 9223372036854775807) ∧ ((-2147483648 ≤ i + 1 ∧ i + 1 ≤ 2147483647) ∧ K (rx_find rx_m34 5) [(5, .inl (i + 1)), (3, .inr (.inl (su + (st 119 ((k * 8) + i : Int).toNat)))), (0, .inr (.inr (.inl 122))), (1, .inr (.inr (.inl 119))), (2, .inl k)] [] st)))))))
      refine ⟨fun h2 => ?_, fun h2 => ?_⟩
      · exact hQ _ (show su = flS (st 119) (st 122 1 : Int).toNat from (by
          rw [show st 122 1 = i by omega]
          exact v_lp))
      · refine ⟨by omega, ?_⟩
        refine ⟨by omega, ?_⟩
        have g3 := g_a119 hG ((k * 8) + i : Int).toNat
        refine ⟨by omega, ?_⟩
        refine ⟨by omega, ?_⟩
        refine ⟨by omega, ?_⟩
        exact ih _ (show (st 122 1 - (i + 1) : Int).toNat < u from by omega) (i + 1) (su + (st 119 ((k * 8) + i : Int).toNat)) ⟨(show 0 ≤ (i + 1) ∧ (i + 1) ≤ st 122 1 ∧ 0 ≤ (su + (st 119 ((k * 8) + i : Int).toNat)) ∧ (su + (st 119 ((k * 8) + i : Int).toNat)) ≤ (i + 1) * 144115188075855872 from by omega), (show (su + (st 119 ((k * 8) + i : Int).toNat)) = flS (st 119) ((i + 1) : Int).toNat from (by
              rw [flS_s (by omega), ← v_lp]
              omega))⟩ rfl
  have g4 := g_f122_1 hG
  refine yr1_ok (Rt := Q) (wc := (zno)) (stp := [5]) hcm hcl [] 42 ?_
  show K (rx_find rx_m34 5) [(5, .inl 0), (3, .inr (.inl 0)), (0, .inr (.inr (.inl 122))), (1, .inr (.inr (.inl 119))), (2, .inl k)] [] st
  exact lp _ 0 0 ⟨(show 0 ≤ (0 : Int) ∧ (0 : Int) ≤ st 122 1 ∧ 0 ≤ (0 : Int) ∧ (0 : Int) ≤ (0 : Int) * 144115188075855872 from by omega), (show (0 : Int) = flS (st 119) ((0 : Int) : Int).toNat from rfl)⟩ rfl
theorem k_wSumA_m (hTb : aTb zSh rx_tb cl) {D : Nat} (hD : 1 ≤ D) : ∀ as st (Q Q' : zQ), (∀ r st', Q r st' → Q' r st') → k_wSumA 34 as st Q → cl D 34 as st Q' := by
  intro as st Q Q' hQ h
  unfold k_wSumA at h
  split at h
  · obtain ⟨rfl, rfl, h⟩ := h
    exact c_wSumA hTb hD (ct_wSumA_m hQ h)
  · exact h.elim
set_option maxHeartbeats 4000000 in
set_option maxRecDepth 100000 in
theorem c_wCRA (hTb : aTb zSh rx_tb cl) {D : Nat} (hD : 4 ≤ D) {n : Int} {st : zS} {Q : zQ} (h : ct_wCRA n st Q) : cl D 25 [.inr (.inr (.inl 115)), .inr (.inr (.inl 122)), .inl n] st Q := by
  obtain ⟨d, rfl⟩ : ∃ d, D = d + 1 := ⟨D - 1, by omega⟩
  refine hTb d 25 (rx_m25, 7, 0, 0, 5) rfl _ _ _ (Nat.le_of_ble_eq_true rfl) (fun K hcl hsf hsl => ?_)
  have hcm : zmo (wcL [(26, k_wOpenA), (226, k_wSBA119), (225, k_wMay), (34, k_wSumA)]) (cl d) := (wcL_m (wm_cons (k_wOpenA_m hTb (by omega)) (wm_cons (k_wSBA119_m hTb (by omega)) (wm_cons (k_wMay_m hTb (by omega)) (wm_cons (k_wSumA_m hTb (by omega)) wm_nil)))))
  obtain ⟨hR, hQ⟩ := h
  obtain ⟨hG, tw, sp, nn⟩ := hR
  change TW (tn 122 st) at tw
  change ∀ i : Nat, (i : Int) < st 115 5 → 0 ≤ st 117 i ∧ st 117 i < 8 at sp
  change 1 ≤ n ∧ n ≤ 20 at nn
  have b8 : 0 ≤ st 122 1 ∧ st 122 1 ≤ 8 := tw.1.1
  have hP : ((tn 122 st) 0 1).toNat ≤ 8 := (by omega : (st 122 1).toNat ≤ 8)
  have la : ∀ (u : Nat) (k : Int) (s_la : zS), gInv zgt s_la ∧ aFr m_wCRA st s_la ∧ (-1 ≤ k ∧ k < n) ∧ (OPN (st 122 1) (st 116) (st 117) n (st 115 5) (s_la 118)) ∧ (TD (tn 122 st) (flo (st 116) (st 117) (st 115 5) n) (n - 1 : Int).toNat (s_la 119) k) → (k + 1).toNat = u → K (rx_find rx_m25 10) [(3, .inl k), (0, .inr (.inr (.inl 115))), (1, .inr (.inr (.inl 122))), (2, .inl n)] [] s_la := by
    intro u_la
    induction u_la using Nat.strongRecOn with
    | _ u_la ih_la =>
      intro k s_la hi hu_la
      obtain ⟨gI_la, fI_la, i_la, o_la, t_la⟩ := hi
      have g2 := g_f122_1 hG
      have e1 : s_la 122 1 = st 122 1 := fI_la 122 1 rfl rfl
      have lb : ∀ (u : Nat) (z : Int) (s_lb : zS), gInv zgt s_lb ∧ aFr m_wCRA st s_lb ∧ (0 ≤ z ∧ z ≤ st 122 1 ∧ 0 ≤ k ∧ k < n) ∧ (OPN (st 122 1) (st 116) (st 117) n (st 115 5) (s_lb 118)) ∧ (TD (tn 122 st) (flo (st 116) (st 117) (st 115 5) n) (n - 1 : Int).toNat (s_lb 119) k) ∧ (TDp (tn 122 st) (flo (st 116) (st 117) (st 115 5) n) (n - 1 : Int).toNat (s_lb 119) k z) → (st 122 1 - z).toNat = u → K (rx_find rx_m25 17) [(4, .inl z), (3, .inl k), (0, .inr (.inr (.inl 115))), (1, .inr (.inr (.inl 122))), (2, .inl n)] [] s_lb := by
        intro u_lb
        induction u_lb using Nat.strongRecOn with
        | _ u_lb ih_lb =>
          intro z s_lb hi hu_lb
          obtain ⟨gI_lb, fI_lb, i_lb, o_lb, t_lb, p_lb⟩ := hi
          have g4 := g_f122_1 hG
          have e3 : s_lb 122 1 = st 122 1 := fI_lb 122 1 rfl rfl
          refine yr1_ok (Rt := Q) (wc := (wcL [(26, k_wOpenA), (226, k_wSBA119), (225, k_wMay), (34, k_wSumA)])) (stp := [10, 17]) hcm hcl [] 78 ?_
          show ((s_lb 122 1 ≤ z → ((-2147483648 ≤ k + (-1) ∧ k + (-1) ≤ 2147483647) ∧ K (rx_find rx_m25 10) [(3, .inl (k + (-1))), (4, .inl z), (0, .inr (.inr (.inl 115))), (1, .inr (.inr (.inl 122))), (2, .inl n)] [] s_lb)) ∧ (¬ (s_lb 122 1 ≤ z) → ((-2147483648 ≤ n - 1 ∧ n - 1 ≤ 2147483647) ∧ ((¬ k = n - 1 → ((-2147483648 ≤ k + 1 ∧ k + 1 ≤ 2147483647) ∧ ((122) = 122 ∧ ((119) = 119 ∧ (rq_wSBA119 (k + 1) z s_lb ∧ (∀ (r5 : Int), en_wSBA119 (k + 1) z s_lb r5 → ((-2147483648 ≤ k * 8 ∧ k * 8 ≤ 2147483647) ∧ ((-2147483648 ≤ (k * 8) + z ∧ (k * 8) + z ≤ 2147483647) ∧ (115 = 115 ∧ (rq_wMay k z s_lb ∧ (∀ (r6 : Int), en_wMay k z s_lb r6 → ((r6 = (0 : Int) → ((0 ≤ (k * 8) + z ∧ (k * 8) + z < 160) ∧ ((-2147483648 ≤ z + 1 ∧ z + 1 ≤ 2147483647) ∧ K (rx_find rx_m25 17) [(4, .inl (z + 1)), (5, .inr (.inl r5)), (3, .inl k), (0, .inr (.inr (.inl 115))), (1, .inr (.inr (.inl 122))), (2, .inl n)] [] (zup s_lb 119 ((k * 8) + z : Int).toNat 0)))) ∧ (¬ (r6 = (0 : Int)) → ((0 ≤ (k * 8) + z ∧ (k * 8) + z < 160) ∧ ((-2147483648 ≤ z + 1 ∧ z + 1 ≤ 2147483647) ∧ K (rx_find rx_m25 17) [(4, .inl (z + 1)), (5, .inr (.inl r5)), (3, .inl k), (0, .inr (.inr (.inl 115))), (1, .inr (.inr (.inl 122))), (2, .inl n)] [] (zup s_lb 119 ((k * 8) + z : Int).toNat r5)))))))))))))))) ∧ (¬ (¬ k = n - 1) → ((-2147483648 ≤ k * 8 ∧ k * 8 ≤ 2147483647) ∧ ((-2147483648 ≤ (k * 8) + z ∧ (k * 8) + z ≤ 2147483647) ∧ (115 = 115 ∧ (rq_wMay k z s_lb ∧ (∀ (r7 : Int), en_wMay k z s_lb r7 → ((r7 = (0 : Int) → ((0 ≤ (k * 8) + z ∧ (k * 8) + z < 160) ∧ ((-2147483648 ≤ z + 1 ∧ z + 1 ≤ 2147483647) ∧ K (rx_find rx_m25 17) [(4, .inl (z + 1)), (5, .inr (.inl 1)), (3, .inl k), (0, .inr (.inr (.inl 115))), (1, .inr (.inr (.inl 122))), (2, .inl n)] [] (zup s_lb 119 ((k * 8) + z : Int).toNat 0)))) ∧ (¬ (r7 = (0 : Int)) → ((0 ≤ (k * 8) + z ∧ (k * 8) + z < 160) ∧ ((-2147483648 ≤ z + 1 ∧ z + 1 ≤ 2147483647) ∧ K (rx_find rx_m25 17) [(4, .inl (z + 1)), (5, .inr (.inl 1)), (3, .inl k), (0, .inr (.inr (.inl 115))), (1, .inr (.inr (.inl 122))), (2, .inl n)] [] (zup s_lb 119 ((k * 8) + z : Int).toNat 1)))))))))))))))
          refine ⟨fun h8 => ?_, fun h8 => ?_⟩
          · refine ⟨by omega, ?_⟩
            exact hsl _ _ _ _ _ (sb_cons (.head _) (sb_cons (.tail _ (.tail _ (.head _))) (sb_cons (.tail _ (.tail _ (.tail _ (.head _)))) (sb_cons (.tail _ (.tail _ (.tail _ (.tail _ (.head _))))) sb_nil)))) (ih_la _ (show ((k + (-1)) + 1 : Int).toNat < u_la from by omega) (k + (-1)) s_lb ⟨gI_lb, fI_lb, (show -1 ≤ (k + (-1)) ∧ (k + (-1)) < n from by omega), (show OPN (st 122 1) (st 116) (st 117) n (st 115 5) (s_lb 118) from o_lb), (show TD (tn 122 st) (flo (st 116) (st 117) (st 115 5) n) (n - 1 : Int).toNat (s_lb 119) (k + (-1)) from (TD_row t_lb p_lb (by omega) (show (tn 122 st) 0 1 ≤ z from (show st 122 1 ≤ z by omega))))⟩ rfl)
          · refine ⟨by omega, ?_⟩
            refine ⟨fun h9 => ?_, fun h9 => ?_⟩
            · refine ⟨by omega, ?_⟩
              refine ⟨rfl, rfl, ⟨gI_lb, (show TW (tn 122 s_lb) from (by rw [(tn_fr rfl (show aFr m_wCRA st s_lb from fI_lb))]; exact tw)), (show 0 ≤ (k + 1) ∧ (k + 1) < 20 ∧ 0 ≤ z ∧ z < s_lb 122 1 from by omega), (show ∀ q : Nat, (q : Int) < s_lb 122 1 → 0 ≤ s_lb 119 (((k + 1) * 8) + (q : Int) : Int).toNat ∧ s_lb 119 (((k + 1) * 8) + (q : Int) : Int).toNat ≤ 144115188075855872 from (by
              intro q hq
              have z := TD_b hP (show (n - 1 : Int).toNat ≤ 19 by omega) t_lb (j := k.toNat + 1) (by omega) (by omega) (q := q) (show (q : Int) < st 122 1 by omega)
              rw [show 8 * (k.toNat + 1) + q = (((k + 1) * 8) + (q : Int) : Int).toNat by omega] at z
              exact z))⟩, fun r5 q5 => ?_⟩
              obtain ⟨e5, b5⟩ := q5
              change r5 = flb (tn 122 s_lb) (fun q : Nat => s_lb 119 (((k + 1) * 8) + (q : Int) : Int).toNat) (z : Int).toNat at e5
              change 0 ≤ r5 ∧ r5 ≤ 1152921504606846976 at b5
              refine ⟨by omega, ?_⟩
              refine ⟨by omega, ?_⟩
              refine ⟨rfl, ⟨gI_lb, (show 0 ≤ k ∧ k < 20 ∧ 0 ≤ z ∧ z < 8 from by omega)⟩, fun r6 q6 => ?_⟩
              have e6 := q6
              change r6 = hb (s_lb 118 (k : Int).toNat) z at e6
              refine ⟨fun h10 => ?_, fun h10 => ?_⟩
              · refine ⟨by omega, ?_⟩
                refine ⟨by omega, ?_⟩
                exact hsl _ _ _ _ _ (sb_cons (.head _) (sb_cons (.tail _ (.tail _ (.head _))) (sb_cons (.tail _ (.tail _ (.tail _ (.head _)))) (sb_cons (.tail _ (.tail _ (.tail _ (.tail _ (.head _))))) (sb_cons (.tail _ (.tail _ (.tail _ (.tail _ (.tail _ (.head _)))))) sb_nil))))) (ih_lb _ (show (st 122 1 - (z + 1) : Int).toNat < u_lb from by omega) (z + 1) (zup s_lb 119 ((k * 8) + z : Int).toNat 0) ⟨(gInv_up gI_lb (p_a119 (by omega))), (fr_a fI_lb rfl), (show 0 ≤ (z + 1) ∧ (z + 1) ≤ st 122 1 ∧ 0 ≤ k ∧ k < n from by omega), (show OPN (st 122 1) (st 116) (st 117) n (st 115 5) ((zup s_lb 119 ((k * 8) + z : Int).toNat 0) 118) from o_lb), (show TD (tn 122 st) (flo (st 116) (st 117) (st 115 5) n) (n - 1 : Int).toNat ((zup s_lb 119 ((k * 8) + z : Int).toNat 0) 119) k from (TD_up (show (tn 122 st) 0 1 ≤ 8 from b8.2) t_lb (z := z) (by omega) (by omega) (by omega) (x := ((k * 8) + z : Int).toNat) (by omega))), (show TDp (tn 122 st) (flo (st 116) (st 117) (st 115 5) n) (n - 1 : Int).toNat ((zup s_lb 119 ((k * 8) + z : Int).toNat 0) 119) k (z + 1) from (TDp_up p_lb (by omega) (by omega) (x := ((k * 8) + z : Int).toNat) (by omega) (by
              have hO := OPN_o o_lb (k := k) (p := z) (by omega) (by omega) (by omega) (by omega)
              have h01 := hb_01 (s_lb 118 (k : Int).toNat) z
              by_cases hq : k.toNat = (n - 1 : Int).toNat
              · rw [TD_v1 hq, if_neg (by omega)]
              · rw [TD_v2 (by omega) (by omega) t_lb (g := (fun q : Nat => s_lb 119 (((k + 1) * 8) + (q : Int) : Int).toNat)) (fun q hq => by show s_lb 119 _ = _; rw [show (((k + 1) * 8) + (q : Int) : Int).toNat = 8 * (k.toNat + 1) + q by omega]), if_neg (by omega)])))⟩ rfl)
              · refine ⟨by omega, ?_⟩
                refine ⟨by omega, ?_⟩
                exact hsl _ _ _ _ _ (sb_cons (.head _) (sb_cons (.tail _ (.tail _ (.head _))) (sb_cons (.tail _ (.tail _ (.tail _ (.head _)))) (sb_cons (.tail _ (.tail _ (.tail _ (.tail _ (.head _))))) (sb_cons (.tail _ (.tail _ (.tail _ (.tail _ (.tail _ (.head _)))))) sb_nil))))) (ih_lb _ (show (st 122 1 - (z + 1) : Int).toNat < u_lb from by omega) (z + 1) (zup s_lb 119 ((k * 8) + z : Int).toNat r5) ⟨(gInv_up gI_lb (p_a119 (by omega))), (fr_a fI_lb rfl), (show 0 ≤ (z + 1) ∧ (z + 1) ≤ st 122 1 ∧ 0 ≤ k ∧ k < n from by omega), (show OPN (st 122 1) (st 116) (st 117) n (st 115 5) ((zup s_lb 119 ((k * 8) + z : Int).toNat r5) 118) from o_lb), (show TD (tn 122 st) (flo (st 116) (st 117) (st 115 5) n) (n - 1 : Int).toNat ((zup s_lb 119 ((k * 8) + z : Int).toNat r5) 119) k from (TD_up (show (tn 122 st) 0 1 ≤ 8 from b8.2) t_lb (z := z) (by omega) (by omega) (by omega) (x := ((k * 8) + z : Int).toNat) (by omega))), (show TDp (tn 122 st) (flo (st 116) (st 117) (st 115 5) n) (n - 1 : Int).toNat ((zup s_lb 119 ((k * 8) + z : Int).toNat r5) 119) k (z + 1) from (TDp_up p_lb (by omega) (by omega) (x := ((k * 8) + z : Int).toNat) (by omega) (by
              have hO := OPN_o o_lb (k := k) (p := z) (by omega) (by omega) (by omega) (by omega)
              have h01 := hb_01 (s_lb 118 (k : Int).toNat) z
              rw [TD_v2 (by omega) (by omega) t_lb (g := (fun q : Nat => s_lb 119 (((k + 1) * 8) + (q : Int) : Int).toNat)) (fun q hq => by show s_lb 119 _ = _; rw [show (((k + 1) * 8) + (q : Int) : Int).toNat = 8 * (k.toNat + 1) + q by omega]), if_pos (by omega), e5, (tn_fr rfl (show aFr m_wCRA st s_lb from fI_lb))])))⟩ rfl)
            · refine ⟨by omega, ?_⟩
              refine ⟨by omega, ?_⟩
              refine ⟨rfl, ⟨gI_lb, (show 0 ≤ k ∧ k < 20 ∧ 0 ≤ z ∧ z < 8 from by omega)⟩, fun r7 q7 => ?_⟩
              have e7 := q7
              change r7 = hb (s_lb 118 (k : Int).toNat) z at e7
              refine ⟨fun h11 => ?_, fun h11 => ?_⟩
              · refine ⟨by omega, ?_⟩
                refine ⟨by omega, ?_⟩
                exact hsl _ _ _ _ _ (sb_cons (.head _) (sb_cons (.tail _ (.tail _ (.head _))) (sb_cons (.tail _ (.tail _ (.tail _ (.head _)))) (sb_cons (.tail _ (.tail _ (.tail _ (.tail _ (.head _))))) (sb_cons (.tail _ (.tail _ (.tail _ (.tail _ (.tail _ (.head _)))))) sb_nil))))) (ih_lb _ (show (st 122 1 - (z + 1) : Int).toNat < u_lb from by omega) (z + 1) (zup s_lb 119 ((k * 8) + z : Int).toNat 0) ⟨(gInv_up gI_lb (p_a119 (by omega))), (fr_a fI_lb rfl), (show 0 ≤ (z + 1) ∧ (z + 1) ≤ st 122 1 ∧ 0 ≤ k ∧ k < n from by omega), (show OPN (st 122 1) (st 116) (st 117) n (st 115 5) ((zup s_lb 119 ((k * 8) + z : Int).toNat 0) 118) from o_lb), (show TD (tn 122 st) (flo (st 116) (st 117) (st 115 5) n) (n - 1 : Int).toNat ((zup s_lb 119 ((k * 8) + z : Int).toNat 0) 119) k from (TD_up (show (tn 122 st) 0 1 ≤ 8 from b8.2) t_lb (z := z) (by omega) (by omega) (by omega) (x := ((k * 8) + z : Int).toNat) (by omega))), (show TDp (tn 122 st) (flo (st 116) (st 117) (st 115 5) n) (n - 1 : Int).toNat ((zup s_lb 119 ((k * 8) + z : Int).toNat 0) 119) k (z + 1) from (TDp_up p_lb (by omega) (by omega) (x := ((k * 8) + z : Int).toNat) (by omega) (by
              have hO := OPN_o o_lb (k := k) (p := z) (by omega) (by omega) (by omega) (by omega)
              have h01 := hb_01 (s_lb 118 (k : Int).toNat) z
              by_cases hq : k.toNat = (n - 1 : Int).toNat
              · rw [TD_v1 hq, if_neg (by omega)]
              · rw [TD_v2 (by omega) (by omega) t_lb (g := (fun q : Nat => s_lb 119 (((k + 1) * 8) + (q : Int) : Int).toNat)) (fun q hq => by show s_lb 119 _ = _; rw [show (((k + 1) * 8) + (q : Int) : Int).toNat = 8 * (k.toNat + 1) + q by omega]), if_neg (by omega)])))⟩ rfl)
              · refine ⟨by omega, ?_⟩
                refine ⟨by omega, ?_⟩
                exact hsl _ _ _ _ _ (sb_cons (.head _) (sb_cons (.tail _ (.tail _ (.head _))) (sb_cons (.tail _ (.tail _ (.tail _ (.head _)))) (sb_cons (.tail _ (.tail _ (.tail _ (.tail _ (.head _))))) (sb_cons (.tail _ (.tail _ (.tail _ (.tail _ (.tail _ (.head _)))))) sb_nil))))) (ih_lb _ (show (st 122 1 - (z + 1) : Int).toNat < u_lb from by omega) (z + 1) (zup s_lb 119 ((k * 8) + z : Int).toNat 1) ⟨(gInv_up gI_lb (p_a119 (by omega))), (fr_a fI_lb rfl), (show 0 ≤ (z + 1) ∧ (z + 1) ≤ st 122 1 ∧ 0 ≤ k ∧ k < n from by omega), (show OPN (st 122 1) (st 116) (st 117) n (st 115 5) ((zup s_lb 119 ((k * 8) + z : Int).toNat 1) 118) from o_lb), (show TD (tn 122 st) (flo (st 116) (st 117) (st 115 5) n) (n - 1 : Int).toNat ((zup s_lb 119 ((k * 8) + z : Int).toNat 1) 119) k from (TD_up (show (tn 122 st) 0 1 ≤ 8 from b8.2) t_lb (z := z) (by omega) (by omega) (by omega) (x := ((k * 8) + z : Int).toNat) (by omega))), (show TDp (tn 122 st) (flo (st 116) (st 117) (st 115 5) n) (n - 1 : Int).toNat ((zup s_lb 119 ((k * 8) + z : Int).toNat 1) 119) k (z + 1) from (TDp_up p_lb (by omega) (by omega) (x := ((k * 8) + z : Int).toNat) (by omega) (by
              have hO := OPN_o o_lb (k := k) (p := z) (by omega) (by omega) (by omega) (by omega)
              have h01 := hb_01 (s_lb 118 (k : Int).toNat) z
              rw [TD_v1 (by omega), if_pos (by omega)])))⟩ rfl)
      refine yr1_ok (Rt := Q) (wc := (wcL [(26, k_wOpenA), (226, k_wSBA119), (225, k_wMay), (34, k_wSumA)])) (stp := [10, 17]) hcm hcl [] 78 ?_
      show ((k < (0 : Int) → ((122) = 122 ∧ ((119) = 119 ∧ (rq_wSumA (0) s_la ∧ (∀ (r12 : Int), en_wSumA (0) s_la r12 → Q (some (.inr (.inl r12))) s_la))))) ∧ (¬ (k < (0 : Int)) → K (rx_find rx_m25 17) [(4, .inl 0), (3, .inl k), (0, .inr (.inr (.inl 115))), (1, .inr (.inr (.inl 122))), (2, .inl n)] [] s_la))
      refine ⟨fun h13 => ?_, fun h13 => ?_⟩
      · refine ⟨rfl, rfl, ⟨gI_la, (show 0 ≤ s_la 122 1 ∧ s_la 122 1 ≤ 8 ∧ (0) = 0 from by omega), (show ∀ q : Nat, (q : Int) < s_la 122 1 → 0 ≤ s_la 119 q ∧ s_la 119 q ≤ 144115188075855872 from (by
              intro q hq
              have z := TD_b hP (show (n - 1 : Int).toNat ≤ 19 by omega) t_la (j := 0) (by omega) (by omega) (q := q) (show (q : Int) < st 122 1 by omega)
              rw [show 8 * 0 + q = q by omega] at z
              exact z))⟩, fun r12 q12 => ?_⟩
        have e12 := q12
        change r12 = flS (s_la 119) (s_la 122 1 : Int).toNat at e12
        exact hQ _ _ ⟨gI_la, fI_la, (show r12 = flT (tn 122 st) (flo (st 116) (st 117) (st 115 5) n) (n - 1 : Int).toNat from (by
          rw [e12, show s_la 122 1 = st 122 1 from fI_la 122 1 rfl rfl]
          exact TT_sum (T := (tn 122 st)) (by rw [show (-1 : Int) = k by omega]; exact t_la) (fun q _ => rfl))), (show OPN (st 122 1) (st 116) (st 117) n (st 115 5) (s_la 118) from o_la), (show TD (tn 122 st) (flo (st 116) (st 117) (st 115 5) n) (n - 1 : Int).toNat (s_la 119) (-1) from (by rw [show (-1 : Int) = k by omega]; exact t_la))⟩
      · exact lb _ 0 s_la ⟨gI_la, fI_la, (show 0 ≤ (0 : Int) ∧ (0 : Int) ≤ st 122 1 ∧ 0 ≤ k ∧ k < n from by omega), (show OPN (st 122 1) (st 116) (st 117) n (st 115 5) (s_la 118) from o_la), (show TD (tn 122 st) (flo (st 116) (st 117) (st 115 5) n) (n - 1 : Int).toNat (s_la 119) k from t_la), (show TDp (tn 122 st) (flo (st 116) (st 117) (st 115 5) n) (n - 1 : Int).toNat (s_la 119) k (0 : Int) from (TDp_0 _ _ _ _ _))⟩ rfl
  have g14 := g_f115_5 hG
  have g15 := g_f122_1 hG
  refine yr1_ok (Rt := Q) (wc := (wcL [(26, k_wOpenA), (226, k_wSBA119), (225, k_wMay), (34, k_wSumA)])) (stp := [10, 17]) hcm hcl [] 78 ?_
  show (115 = 115 ∧ ((122) = 122 ∧ (rq_wOpenA n st ∧ (∀ (s16 : zS), en_wOpenA n st s16 → ((-2147483648 ≤ n - 1 ∧ n - 1 ≤ 2147483647) ∧ K (rx_find rx_m25 10) [(3, .inl (n - 1)), (0, .inr (.inr (.inl 115))), (1, .inr (.inr (.inl 122))), (2, .inl n)] [] s16)))))
  refine ⟨rfl, rfl, ⟨hG, (show 0 ≤ st 122 1 ∧ st 122 1 ≤ 8 from by omega), (show ∀ i : Nat, (i : Int) < st 115 5 → 0 ≤ st 117 i ∧ st 117 i < 8 from sp), (show 1 ≤ n ∧ n ≤ 20 from by omega)⟩, fun s16 q16 => ?_⟩
  obtain ⟨gs16, fs16, o16⟩ := q16
  change OPN (st 122 1) (st 116) (st 117) n (st 115 5) (s16 118) at o16
  refine ⟨by omega, ?_⟩
  exact la _ (n - 1) s16 ⟨gs16, (fr_tr (fr_rf _ _) fs16 rfl), (show -1 ≤ (n - 1) ∧ (n - 1) < n from by omega), (show OPN (st 122 1) (st 116) (st 117) n (st 115 5) (s16 118) from o16), (show TD (tn 122 st) (flo (st 116) (st 117) (st 115 5) n) (n - 1 : Int).toNat (s16 119) (n - 1) from (TD_0 _ _ _ _ (by omega)))⟩ rfl
theorem k_wCRA_m (hTb : aTb zSh rx_tb cl) {D : Nat} (hD : 4 ≤ D) : ∀ as st (Q Q' : zQ), (∀ r st', Q r st' → Q' r st') → k_wCRA 25 as st Q → cl D 25 as st Q' := by
  intro as st Q Q' hQ h
  unfold k_wCRA at h
  split at h
  · obtain ⟨rfl, rfl, h⟩ := h
    exact c_wCRA hTb hD (ct_wCRA_m hQ h)
  · exact h.elim
set_option maxHeartbeats 4000000 in
set_option maxRecDepth 100000 in
theorem c_wLstA (hTb : aTb zSh rx_tb cl) {D : Nat} (hD : 3 ≤ D) {k a : Int} {st : zS} {Q : zQ} (h : ct_wLstA k a st Q) : cl D 227 [.inr (.inr (.inl 115)), .inr (.inr (.inl 122)), .inl k, .inl a] st Q := by
  obtain ⟨d, rfl⟩ : ∃ d, D = d + 1 := ⟨D - 1, by omega⟩
  refine hTb d 227 (rx_m227, 6, 0, 0, 1) rfl _ _ _ (Nat.le_of_ble_eq_true rfl) (fun K hcl hsf hsl => ?_)
  have hcm : zmo (wcL [(286, k_cBetweenA)]) (cl d) := (wcL_m (wm_cons (k_cBetweenA_m hTb (by omega)) wm_nil))
  obtain ⟨hR, hQ⟩ := h
  obtain ⟨hG, tw, q⟩ := hR
  change TW (tn 122 st) at tw
  change 0 ≤ k ∧ k < 20 ∧ ((k = 0 ∧ a = -1) ∨ (0 < k ∧ 0 ≤ a ∧ a < st 122 1)) at q
  have b8 : 0 ≤ st 122 1 ∧ st 122 1 ≤ 8 := tw.1.1
  have lp : ∀ (u : Nat) (i : Int), (0 ≤ i ∧ i ≤ st 122 1) ∧ (∀ q : Int, 0 ≤ q → q < i → ¬ ((a = -1 ∨ 0 ≤ lnk (tn 122 st) a q) ∧ 0 < st 119 ((k * 8) + ((q : Int).toNat : Int) : Int).toNat)) → (st 122 1 - i).toNat = u → K (rx_find rx_m227 3) [(4, .inl i), (0, .inr (.inr (.inl 115))), (1, .inr (.inr (.inl 122))), (2, .inl k), (3, .inl a)] [] st := by
    intro u
    induction u using Nat.strongRecOn with
    | _ u ih =>
      intro i hi hu
      obtain ⟨i_lp, n_lp⟩ := hi
      have g1 := g_f122_1 hG
      refine yr1_ok (Rt := Q) (wc := (wcL [(286, k_cBetweenA)])) (stp := [3]) hcm hcl [] 57 ?_
      show ((st 122 1 ≤ i → Q (some (.inl (-1))) st) ∧ (¬ (st 122 1 ≤ i) → ((k = (0 : Int) → (((1 : Int) = (0 : Int) → _) ∧ (¬ ((1 : Int) = (0 : Int)) → ((-2147483648 ≤ k * 8 ∧ k * 8 ≤ 2147483647) ∧ ((-2147483648 ≤ (k * 8) + i ∧ (k * 8) + i ≤ 2147483647) ∧ ((0 ≤ (k * 8) + i ∧ (k * 8) + i < 160) ∧ (∀ (w2 : Int), (st 119 ((k * 8) + i : Int).toNat < 0 ∧ w2 = -1 ∨ st 119 ((k * 8) + i : Int).toNat = 0 ∧ w2 = 0 ∨ 0 < st 119 ((k * 8) + i : Int).toNat ∧ w2 = 1) → ((w2 ≤ (0 : Int) → ((-2147483648 ≤ i + 1 ∧ i + 1 ≤ 2147483647) ∧ K (rx_find rx_m227 3) [(4, .inl (i + 1)), (5, .inl 1), (0, .inr (.inr (.inl 115))), (1, .inr (.inr (.inl 122))), (2, .inl k), (3, .inl a)] [] st)) ∧ (¬ (w2 ≤ (0 : Int)) → Q (some (.inl i)) st))))))))) ∧ (¬ (k = (0 : Int)) → (122 = 122 ∧ (rq_cBetweenA a i st ∧ (∀ (r3 : Int), en_cBetweenA a i st r3 → ((r3 = ((-1) : Int) → (((0 : Int) = (0 : Int) → ((-2147483648 ≤ i + 1 ∧ i + 1 ≤ 2147483647) ∧ K (rx_find rx_m227 3) [(4, .inl (i + 1)), (5, .inl 0), (0, .inr (.inr (.inl 115))), (1, .inr (.inr (.inl 122))), (2, .inl k), (3, .inl a)] [] st)) ∧ (¬ ((0 : Int) = (0 : Int)) → _))) ∧ (¬ (r3 = ((-1) : Int)) → (((1 : Int) = (0 : Int) → _) ∧ (¬ ((1 : Int) = (0 : Int)) → ((-2147483648 ≤ k * 8 ∧ k * 8 ≤ 2147483647) ∧ ((-2147483648 ≤ (k * 8) + i ∧ (k * 8) + i ≤ 2147483647) ∧ ((0 ≤ (k * 8) + i ∧ (k * 8) + i < 160) ∧ (∀ (w4 : Int), (st 119 ((k * 8) + i : Int).toNat < 0 ∧ w4 = -1 ∨ st 119 ((k * 8) + i : Int).toNat = 0 ∧ w4 = 0 ∨ 0 < st 119 ((k * 8) + i : Int).toNat ∧ w4 = 1) → ((w4 ≤ (0 : Int) → ((-2147483648 ≤ i + 1 ∧ i + 1 ≤ 2147483647) ∧ K (rx_find rx_m227 3) [(4, .inl (i + 1)), (5, .inl 1), (0, .inr (.inr (.inl 115))), (1, .inr (.inr (.inl 122))), (2, .inl k), (3, .inl a)] [] st)) ∧ (¬ (w4 ≤ (0 : Int)) → Q (some (.inl i)) st)))))))))))))))))
      refine ⟨fun h5 => ?_, fun h5 => ?_⟩
      · exact hQ _ (show FN (tn 122 st) (fun q : Nat => st 119 ((k * 8) + (q : Int) : Int).toNat) a ((-1) : Int) ∨ (((-1) : Int) = -1 ∧ ∀ q : Int, 0 ≤ q → q < st 122 1 → ¬ ((a = -1 ∨ 0 ≤ lnk (tn 122 st) a q) ∧ 0 < (fun q : Nat => st 119 ((k * 8) + (q : Int) : Int).toNat) q.toNat)) from (Or.inr ⟨rfl, fun q z1 z2 => n_lp q z1 (by omega)⟩))
      · refine ⟨fun h6 => ?_, fun h6 => ?_⟩
        · refine ⟨fun h7 => absurd h7 (by decide), fun h7 => ?_⟩
          refine ⟨by omega, ?_⟩
          refine ⟨by omega, ?_⟩
          have g8 := g_a119 hG ((k * 8) + i : Int).toNat
          refine ⟨by omega, ?_⟩
          intro w2 hw2
          refine ⟨fun h9 => ?_, fun h9 => ?_⟩
          · refine ⟨by omega, ?_⟩
            exact hsl _ _ _ _ _ (sb_cons (.head _) (sb_cons (.tail _ (.tail _ (.head _))) (sb_cons (.tail _ (.tail _ (.tail _ (.head _)))) (sb_cons (.tail _ (.tail _ (.tail _ (.tail _ (.head _))))) (sb_cons (.tail _ (.tail _ (.tail _ (.tail _ (.tail _ (.head _)))))) sb_nil))))) (ih _ (show (st 122 1 - (i + 1) : Int).toNat < u from by omega) (i + 1) ⟨(show 0 ≤ (i + 1) ∧ (i + 1) ≤ st 122 1 from by omega), (show ∀ q : Int, 0 ≤ q → q < (i + 1) → ¬ ((a = -1 ∨ 0 ≤ lnk (tn 122 st) a q) ∧ 0 < st 119 ((k * 8) + ((q : Int).toNat : Int) : Int).toNat) from (by
              intro q z1 z2 z3
              by_cases z4 : q = i
              · rw [z4] at z3
                have hl : 0 < k → lnk (tn 122 st) a i = st 127 ((a * 8) + i : Int).toNat := fun _ => by
                  show st 127 (8 * a + i : Int).toNat = _
                  rw [show 8 * a + i = a * 8 + i by omega]
                have hw : 0 < k → _ := fun _ => tw.2.2.1 a i (by omega) (by omega) (by omega) (by omega)
                have hix : ((k * 8) + ((i.toNat : Nat) : Int) : Int).toNat = ((k * 8) + i : Int).toNat := by omega
                rw [hix] at z3
                omega
              · exact n_lp q z1 (by omega) z3))⟩ rfl)
          · exact hQ _ (show FN (tn 122 st) (fun q : Nat => st 119 ((k * 8) + (q : Int) : Int).toNat) a i ∨ (i = -1 ∧ ∀ q : Int, 0 ≤ q → q < st 122 1 → ¬ ((a = -1 ∨ 0 ≤ lnk (tn 122 st) a q) ∧ 0 < (fun q : Nat => st 119 ((k * 8) + (q : Int) : Int).toNat) q.toNat)) from (by
            have hl : 0 < k → lnk (tn 122 st) a i = st 127 ((a * 8) + i : Int).toNat := fun _ => by
              show st 127 (8 * a + i : Int).toNat = _
              rw [show 8 * a + i = a * 8 + i by omega]
            have hw : 0 < k → _ := fun _ => tw.2.2.1 a i (by omega) (by omega) (by omega) (by omega)
            have hix : ((k * 8) + ((i.toNat : Nat) : Int) : Int).toNat = ((k * 8) + i : Int).toNat := by omega
            refine Or.inl ⟨⟨by omega, by show i < st 122 1; omega⟩, ⟨by omega, ?_⟩, n_lp⟩
            show 0 < st 119 ((k * 8) + ((i.toNat : Nat) : Int) : Int).toNat
            rw [hix]
            omega))
        · refine ⟨rfl, hG, fun r3 q3 => ?_⟩
          have e3 := q3
          change (0 ≤ a ∧ a < st 122 1 ∧ 0 ≤ i ∧ i < st 122 1 → r3 = st 127 (a * 8 + i : Int).toNat) ∧ (¬ (0 ≤ a ∧ a < st 122 1 ∧ 0 ≤ i ∧ i < st 122 1) → r3 = -1) at e3
          have g10 := g_a127 hG (a * 8 + i : Int).toNat
          refine ⟨fun h11 => ?_, fun h11 => ?_⟩
          · refine ⟨fun h12 => ?_, fun h12 => absurd (by decide) h12⟩
            refine ⟨by omega, ?_⟩
            exact hsl _ _ _ _ _ (sb_cons (.head _) (sb_cons (.tail _ (.tail _ (.head _))) (sb_cons (.tail _ (.tail _ (.tail _ (.head _)))) (sb_cons (.tail _ (.tail _ (.tail _ (.tail _ (.head _))))) (sb_cons (.tail _ (.tail _ (.tail _ (.tail _ (.tail _ (.head _)))))) sb_nil))))) (ih _ (show (st 122 1 - (i + 1) : Int).toNat < u from by omega) (i + 1) ⟨(show 0 ≤ (i + 1) ∧ (i + 1) ≤ st 122 1 from by omega), (show ∀ q : Int, 0 ≤ q → q < (i + 1) → ¬ ((a = -1 ∨ 0 ≤ lnk (tn 122 st) a q) ∧ 0 < st 119 ((k * 8) + ((q : Int).toNat : Int) : Int).toNat) from (by
              intro q z1 z2 z3
              by_cases z4 : q = i
              · rw [z4] at z3
                have hl : 0 < k → lnk (tn 122 st) a i = st 127 ((a * 8) + i : Int).toNat := fun _ => by
                  show st 127 (8 * a + i : Int).toNat = _
                  rw [show 8 * a + i = a * 8 + i by omega]
                have hw : 0 < k → _ := fun _ => tw.2.2.1 a i (by omega) (by omega) (by omega) (by omega)
                have hix : ((k * 8) + ((i.toNat : Nat) : Int) : Int).toNat = ((k * 8) + i : Int).toNat := by omega
                rw [hix] at z3
                omega
              · exact n_lp q z1 (by omega) z3))⟩ rfl)
          · refine ⟨fun h13 => absurd h13 (by decide), fun h13 => ?_⟩
            refine ⟨by omega, ?_⟩
            refine ⟨by omega, ?_⟩
            have g14 := g_a119 hG ((k * 8) + i : Int).toNat
            refine ⟨by omega, ?_⟩
            intro w4 hw4
            refine ⟨fun h15 => ?_, fun h15 => ?_⟩
            · refine ⟨by omega, ?_⟩
              exact hsl _ _ _ _ _ (sb_cons (.head _) (sb_cons (.tail _ (.tail _ (.head _))) (sb_cons (.tail _ (.tail _ (.tail _ (.head _)))) (sb_cons (.tail _ (.tail _ (.tail _ (.tail _ (.head _))))) (sb_cons (.tail _ (.tail _ (.tail _ (.tail _ (.tail _ (.head _)))))) sb_nil))))) (ih _ (show (st 122 1 - (i + 1) : Int).toNat < u from by omega) (i + 1) ⟨(show 0 ≤ (i + 1) ∧ (i + 1) ≤ st 122 1 from by omega), (show ∀ q : Int, 0 ≤ q → q < (i + 1) → ¬ ((a = -1 ∨ 0 ≤ lnk (tn 122 st) a q) ∧ 0 < st 119 ((k * 8) + ((q : Int).toNat : Int) : Int).toNat) from (by
              intro q z1 z2 z3
              by_cases z4 : q = i
              · rw [z4] at z3
                have hl : 0 < k → lnk (tn 122 st) a i = st 127 ((a * 8) + i : Int).toNat := fun _ => by
                  show st 127 (8 * a + i : Int).toNat = _
                  rw [show 8 * a + i = a * 8 + i by omega]
                have hw : 0 < k → _ := fun _ => tw.2.2.1 a i (by omega) (by omega) (by omega) (by omega)
                have hix : ((k * 8) + ((i.toNat : Nat) : Int) : Int).toNat = ((k * 8) + i : Int).toNat := by omega
                rw [hix] at z3
                omega
              · exact n_lp q z1 (by omega) z3))⟩ rfl)
            · exact hQ _ (show FN (tn 122 st) (fun q : Nat => st 119 ((k * 8) + (q : Int) : Int).toNat) a i ∨ (i = -1 ∧ ∀ q : Int, 0 ≤ q → q < st 122 1 → ¬ ((a = -1 ∨ 0 ≤ lnk (tn 122 st) a q) ∧ 0 < (fun q : Nat => st 119 ((k * 8) + (q : Int) : Int).toNat) q.toNat)) from (by
            have hl : 0 < k → lnk (tn 122 st) a i = st 127 ((a * 8) + i : Int).toNat := fun _ => by
              show st 127 (8 * a + i : Int).toNat = _
              rw [show 8 * a + i = a * 8 + i by omega]
            have hw : 0 < k → _ := fun _ => tw.2.2.1 a i (by omega) (by omega) (by omega) (by omega)
            have hix : ((k * 8) + ((i.toNat : Nat) : Int) : Int).toNat = ((k * 8) + i : Int).toNat := by omega
            refine Or.inl ⟨⟨by omega, by show i < st 122 1; omega⟩, ⟨by omega, ?_⟩, n_lp⟩
            show 0 < st 119 ((k * 8) + ((i.toNat : Nat) : Int) : Int).toNat
            rw [hix]
            omega))
  have g16 := g_f122_1 hG
  refine yr1_ok (Rt := Q) (wc := (wcL [(286, k_cBetweenA)])) (stp := [3]) hcm hcl [] 57 ?_
  show K (rx_find rx_m227 3) [(4, .inl 0), (0, .inr (.inr (.inl 115))), (1, .inr (.inr (.inl 122))), (2, .inl k), (3, .inl a)] [] st
  exact lp _ 0 ⟨(show 0 ≤ (0 : Int) ∧ (0 : Int) ≤ st 122 1 from by omega), (show ∀ q : Int, 0 ≤ q → q < (0 : Int) → ¬ ((a = -1 ∨ 0 ≤ lnk (tn 122 st) a q) ∧ 0 < st 119 ((k * 8) + ((q : Int).toNat : Int) : Int).toNat) from fun q z1 z2 => by omega)⟩ rfl
theorem k_wLstA_m (hTb : aTb zSh rx_tb cl) {D : Nat} (hD : 3 ≤ D) : ∀ as st (Q Q' : zQ), (∀ r st', Q r st' → Q' r st') → k_wLstA 227 as st Q → cl D 227 as st Q' := by
  intro as st Q Q' hQ h
  unfold k_wLstA at h
  split at h
  · obtain ⟨rfl, rfl, h⟩ := h
    exact c_wLstA hTb hD (ct_wLstA_m hQ h)
  · exact h.elim
set_option maxHeartbeats 4000000 in
set_option maxRecDepth 100000 in
theorem c_wPFA (hTb : aTb zSh rx_tb cl) {D : Nat} (hD : 5 ≤ D) {n k : Int} {st : zS} {Q : zQ} (h : ct_wPFA n k st Q) : cl D 54 [.inr (.inr (.inl 115)), .inr (.inr (.inl 122)), .inl n, .inl k] st Q := by
  obtain ⟨d, rfl⟩ : ∃ d, D = d + 1 := ⟨D - 1, by omega⟩
  refine hTb d 54 (rx_m54, 6, 0, 0, 1) rfl _ _ _ (Nat.le_of_ble_eq_true rfl) (fun K hcl hsf hsl => ?_)
  have hcm : zmo (wcL [(25, k_wCRA), (227, k_wLstA)]) (cl d) := (wcL_m (wm_cons (k_wCRA_m hTb (by omega)) (wm_cons (k_wLstA_m hTb (by omega)) wm_nil)))
  obtain ⟨hR, hQ⟩ := h
  obtain ⟨hG, tw, sp, nn⟩ := hR
  change TW (tn 122 st) at tw
  change ∀ i : Nat, (i : Int) < st 115 5 → 0 ≤ st 117 i ∧ st 117 i < 8 at sp
  change 1 ≤ n ∧ n ≤ 20 ∧ 0 ≤ k ∧ k < n at nn
  have b8 : 0 ≤ st 122 1 ∧ st 122 1 ≤ 8 := tw.1.1
  have hP : ((tn 122 st) 0 1).toNat ≤ 8 := (by omega : (st 122 1).toNat ≤ 8)
  have lp : ∀ (u : Nat) (j : Int) (pa : Int) (s_lp : zS), gInv zgt s_lp ∧ aFr m_wPFA st s_lp ∧ (0 ≤ j ∧ j ≤ k + 1) ∧ (0 < flT (tn 122 st) (flo (st 116) (st 117) (st 115 5) n) (n - 1 : Int).toNat) ∧ (TD (tn 122 st) (flo (st 116) (st 117) (st 115 5) n) (n - 1 : Int).toNat (s_lp 119) (-1)) ∧ (FX (tn 122 st) (flo (st 116) (st 117) (st 115 5) n) (n - 1 : Int).toNat (j : Int).toNat) ∧ (pa = flG (tn 122 st) (flo (st 116) (st 117) (st 115 5) n) (n - 1 : Int).toNat (j : Int).toNat) → (k + 1 - j).toNat = u → K (rx_find rx_m54 19) [(5, .inl j), (4, .inl pa), (0, .inr (.inr (.inl 115))), (1, .inr (.inr (.inl 122))), (2, .inl n), (3, .inl k)] [] s_lp := by
    intro u
    induction u using Nat.strongRecOn with
    | _ u ih =>
      intro j pa s_lp hi hu
      obtain ⟨gI_lp, fI_lp, i_lp, p_lp, t_lp, x_lp, v_lp⟩ := hi
      refine yr1_ok (Rt := Q) (wc := (wcL [(25, k_wCRA), (227, k_wLstA)])) (stp := [19]) hcm hcl [] 46 ?_
      show ((k < j → Q (some (.inl pa)) s_lp) ∧ (¬ (k < j) → (115 = 115 ∧ ((122) = 122 ∧ (rq_wLstA j pa s_lp ∧ (∀ (r1 : Int), en_wLstA j pa s_lp r1 → ((-2147483648 ≤ j + 1 ∧ j + 1 ≤ 2147483647) ∧ K (rx_find rx_m54 19) [(5, .inl (j + 1)), (4, .inl r1), (0, .inr (.inr (.inl 115))), (1, .inr (.inr (.inl 122))), (2, .inl n), (3, .inl k)] [] s_lp)))))))
      refine ⟨fun h2 => ?_, fun h2 => ?_⟩
      · exact hQ _ _ ⟨gI_lp, fI_lp, (show (flT (tn 122 st) (flo (st 116) (st 117) (st 115 5) n) (n - 1 : Int).toNat = 0 → pa = -1) ∧ (¬ flT (tn 122 st) (flo (st 116) (st 117) (st 115 5) n) (n - 1 : Int).toNat = 0 → pa = flG (tn 122 st) (flo (st 116) (st 117) (st 115 5) n) (n - 1 : Int).toNat (k + 1 : Int).toNat) from (by
          refine ⟨fun z => by exfalso; omega, fun _ => ?_⟩
          rw [show (k + 1 : Int) = j by omega]
          exact v_lp))⟩
      · have g4 := g_f122_1 hG
        have e3 : s_lp 122 1 = st 122 1 := fI_lp 122 1 rfl rfl
        refine ⟨rfl, rfl, ⟨gI_lp, (show TW (tn 122 s_lp) from (by rw [(tn_fr rfl (show aFr m_wPFA st s_lp from fI_lp))]; exact tw)), (show 0 ≤ j ∧ j < 20 ∧ ((j = 0 ∧ pa = -1) ∨ (0 < j ∧ 0 ≤ pa ∧ pa < s_lp 122 1)) from (by
              have hx := x_lp
              unfold FX at hx
              rw [← v_lp] at hx
              have e1 : s_lp 122 1 = st 122 1 := fI_lp 122 1 rfl rfl
              have hx2 : ((j : Int).toNat = 0 ∧ pa = -1) ∨ 0 < (j : Int).toNat ∧ 0 ≤ pa ∧ pa < st 122 1 := hx.elim Or.inl (fun y => Or.inr ⟨y.1, y.2.1⟩)
              omega))⟩, fun r1 q1 => ?_⟩
        have e1 := q1
        change FN (tn 122 s_lp) (fun q : Nat => s_lp 119 ((j * 8) + (q : Int) : Int).toNat) pa r1 ∨ (r1 = -1 ∧ ∀ q : Int, 0 ≤ q → q < s_lp 122 1 → ¬ ((pa = -1 ∨ 0 ≤ lnk (tn 122 s_lp) pa q) ∧ 0 < (fun q : Nat => s_lp 119 ((j * 8) + (q : Int) : Int).toNat) q.toNat)) at e1
        refine ⟨by omega, ?_⟩
        exact ih _ (show (k + 1 - (j + 1) : Int).toNat < u from by omega) (j + 1) r1 s_lp ⟨gI_lp, fI_lp, (show 0 ≤ (j + 1) ∧ (j + 1) ≤ k + 1 from by omega), (show 0 < flT (tn 122 st) (flo (st 116) (st 117) (st 115 5) n) (n - 1 : Int).toNat from p_lp), (show TD (tn 122 st) (flo (st 116) (st 117) (st 115 5) n) (n - 1 : Int).toNat (s_lp 119) (-1) from t_lp), (show FX (tn 122 st) (flo (st 116) (st 117) (st 115 5) n) (n - 1 : Int).toNat ((j + 1) : Int).toNat from (by
              have hx := FX_ex hP p_lp (show (j : Int).toNat ≤ (n - 1 : Int).toNat by omega) x_lp
              have hF : FN (tn 122 st) (flD (tn 122 st) (flo (st 116) (st 117) (st 115 5) n) (n - 1 : Int).toNat ((n - 1 : Int).toNat - (j : Int).toNat)) (flG (tn 122 st) (flo (st 116) (st 117) (st 115 5) n) (n - 1 : Int).toNat (j : Int).toNat) r1 := by
                have tt : ∀ q : Nat, (q : Int) < st 122 1 → s_lp 119 ((j * 8) + (q : Int) : Int).toNat = flD (tn 122 st) (flo (st 116) (st 117) (st 115 5) n) (n - 1 : Int).toNat ((n - 1 : Int).toNat - (j : Int).toNat) q := fun q hq => by
                  rw [show ((j * 8) + (q : Int) : Int).toNat = 8 * (j : Int).toNat + q by omega]
                  exact t_lp _ _ (by omega) (by omega) hq
                rw [(tn_fr rfl (show aFr m_wPFA st s_lp from fI_lp)), v_lp] at e1
                rcases e1 with z | ⟨z1, z2⟩
                · exact FN_e tt z
                · obtain ⟨q, ⟨q1, q2⟩, q3, q4⟩ := hx
                  refine absurd ⟨q3, ?_⟩ (z2 q q1 (show q < s_lp 122 1 by rw [fI_lp 122 1 rfl rfl]; exact q2))
                  show 0 < s_lp 119 ((j * 8) + ((q.toNat : Nat) : Int) : Int).toNat
                  rw [tt q.toNat (show ((q.toNat : Nat) : Int) < st 122 1 by have q5 : q < st 122 1 := q2; omega)]
                  exact q4
              rw [show (j + 1 : Int).toNat = (j : Int).toNat + 1 by omega]
              exact FX_s hF)), (show r1 = flG (tn 122 st) (flo (st 116) (st 117) (st 115 5) n) (n - 1 : Int).toNat ((j + 1) : Int).toNat from (by
              have hx := FX_ex hP p_lp (show (j : Int).toNat ≤ (n - 1 : Int).toNat by omega) x_lp
              have hF : FN (tn 122 st) (flD (tn 122 st) (flo (st 116) (st 117) (st 115 5) n) (n - 1 : Int).toNat ((n - 1 : Int).toNat - (j : Int).toNat)) (flG (tn 122 st) (flo (st 116) (st 117) (st 115 5) n) (n - 1 : Int).toNat (j : Int).toNat) r1 := by
                have tt : ∀ q : Nat, (q : Int) < st 122 1 → s_lp 119 ((j * 8) + (q : Int) : Int).toNat = flD (tn 122 st) (flo (st 116) (st 117) (st 115 5) n) (n - 1 : Int).toNat ((n - 1 : Int).toNat - (j : Int).toNat) q := fun q hq => by
                  rw [show ((j * 8) + (q : Int) : Int).toNat = 8 * (j : Int).toNat + q by omega]
                  exact t_lp _ _ (by omega) (by omega) hq
                rw [(tn_fr rfl (show aFr m_wPFA st s_lp from fI_lp)), v_lp] at e1
                rcases e1 with z | ⟨z1, z2⟩
                · exact FN_e tt z
                · obtain ⟨q, ⟨q1, q2⟩, q3, q4⟩ := hx
                  refine absurd ⟨q3, ?_⟩ (z2 q q1 (show q < s_lp 122 1 by rw [fI_lp 122 1 rfl rfl]; exact q2))
                  show 0 < s_lp 119 ((j * 8) + ((q.toNat : Nat) : Int) : Int).toNat
                  rw [tt q.toNat (show ((q.toNat : Nat) : Int) < st 122 1 by have q5 : q < st 122 1 := q2; omega)]
                  exact q4
              rw [show (j + 1 : Int).toNat = (j : Int).toNat + 1 by omega]
              exact flG_s hF))⟩ rfl
  have g5 := g_f115_5 hG
  have g6 := g_f122_1 hG
  refine yr1_ok (Rt := Q) (wc := (wcL [(25, k_wCRA), (227, k_wLstA)])) (stp := [19]) hcm hcl [] 46 ?_
  show (115 = 115 ∧ ((122) = 122 ∧ (rq_wCRA n st ∧ (∀ (r7 : Int) (s7 : zS), en_wCRA n st r7 s7 → (∀ (w8 : Int), (r7 < 0 ∧ w8 = -1 ∨ r7 = 0 ∧ w8 = 0 ∨ 0 < r7 ∧ w8 = 1) → ((¬ w8 = (0 : Int) → K (rx_find rx_m54 19) [(5, .inl 0), (4, .inl (-1)), (0, .inr (.inr (.inl 115))), (1, .inr (.inr (.inl 122))), (2, .inl n), (3, .inl k)] [] s7) ∧ (¬ (¬ w8 = (0 : Int)) → Q (some (.inl (-1))) s7)))))))
  refine ⟨rfl, rfl, ⟨hG, (show TW (tn 122 st) from tw), (show ∀ i : Nat, (i : Int) < st 115 5 → 0 ≤ st 117 i ∧ st 117 i < 8 from sp), (show 1 ≤ n ∧ n ≤ 20 from by omega)⟩, fun r7 s7 q7 => ?_⟩
  obtain ⟨gs7, fs7, e7, o7, t7⟩ := q7
  change r7 = flT (tn 122 st) (flo (st 116) (st 117) (st 115 5) n) (n - 1 : Int).toNat at e7
  change OPN (st 122 1) (st 116) (st 117) n (st 115 5) (s7 118) at o7
  change TD (tn 122 st) (flo (st 116) (st 117) (st 115 5) n) (n - 1 : Int).toNat (s7 119) (-1) at t7
  intro w8 hw8
  refine ⟨fun h9 => ?_, fun h9 => ?_⟩
  · exact lp _ 0 (-1) s7 ⟨gs7, (fr_tr (fr_rf _ _) fs7 rfl), (show 0 ≤ (0 : Int) ∧ (0 : Int) ≤ k + 1 from by omega), (show 0 < flT (tn 122 st) (flo (st 116) (st 117) (st 115 5) n) (n - 1 : Int).toNat from (by have z := flT_c hP (flo (st 116) (st 117) (st 115 5) n) (m := (n - 1 : Int).toNat) (by omega); have z2 := e7; omega)), (show TD (tn 122 st) (flo (st 116) (st 117) (st 115 5) n) (n - 1 : Int).toNat (s7 119) (-1) from t7), (show FX (tn 122 st) (flo (st 116) (st 117) (st 115 5) n) (n - 1 : Int).toNat ((0 : Int) : Int).toNat from FX_0), (show ((-1) : Int) = flG (tn 122 st) (flo (st 116) (st 117) (st 115 5) n) (n - 1 : Int).toNat ((0 : Int) : Int).toNat from rfl)⟩ rfl
  · exact hQ _ _ ⟨gs7, (fr_tr (fr_rf _ _) fs7 rfl), (show (flT (tn 122 st) (flo (st 116) (st 117) (st 115 5) n) (n - 1 : Int).toNat = 0 → ((-1) : Int) = -1) ∧ (¬ flT (tn 122 st) (flo (st 116) (st 117) (st 115 5) n) (n - 1 : Int).toNat = 0 → ((-1) : Int) = flG (tn 122 st) (flo (st 116) (st 117) (st 115 5) n) (n - 1 : Int).toNat (k + 1 : Int).toNat) from ⟨fun _ => rfl, fun z => by exfalso; omega⟩)⟩
theorem k_wPFA_m (hTb : aTb zSh rx_tb cl) {D : Nat} (hD : 5 ≤ D) : ∀ as st (Q Q' : zQ), (∀ r st', Q r st' → Q' r st') → k_wPFA 54 as st Q → cl D 54 as st Q' := by
  intro as st Q Q' hQ h
  unfold k_wPFA at h
  split at h
  · obtain ⟨rfl, rfl, h⟩ := h
    exact c_wPFA hTb hD (ct_wPFA_m hQ h)
  · exact h.elim
set_option maxHeartbeats 4000000 in
set_option maxRecDepth 100000 in
theorem c_wMostA (hTb : aTb zSh rx_tb cl) {D : Nat} (hD : 2 ≤ D) {k : Int} {st : zS} {Q : zQ} (h : ct_wMostA k st Q) : cl D 229 [.inr (.inr (.inl 115)), .inr (.inr (.inl 122)), .inl k] st Q := by
  obtain ⟨d, rfl⟩ : ∃ d, D = d + 1 := ⟨D - 1, by omega⟩
  refine hTb d 229 (rx_m229, 7, 0, 0, 5) rfl _ _ _ (Nat.le_of_ble_eq_true rfl) (fun K hcl hsf hsl => ?_)
  have hcm : zmo (wcL [(303, k_wMaxL)]) (cl d) := (wcL_m (wm_cons (k_wMaxL_m hTb (by omega)) wm_nil))
  obtain ⟨hR, hQ⟩ := h
  obtain ⟨hG, pp, fb⟩ := hR
  change 0 ≤ st 122 1 ∧ st 122 1 ≤ 8 ∧ 0 ≤ k ∧ k < 20 at pp
  change ∀ q : Nat, (q : Int) < st 122 1 → 0 ≤ st 120 ((k * 8) + (q : Int) : Int).toNat * st 119 ((k * 8) + (q : Int) : Int).toNat ∧ st 120 ((k * 8) + (q : Int) : Int).toNat * st 119 ((k * 8) + (q : Int) : Int).toNat ≤ 144115188075855872 at fb
  have lp : ∀ (u : Nat) (i : Int) (mo : Int), (0 ≤ i ∧ i ≤ st 122 1 ∧ 0 ≤ mo ∧ mo ≤ 144115188075855872) ∧ (mo = flX (fun q : Nat => st 120 ((k * 8) + (q : Int) : Int).toNat * st 119 ((k * 8) + (q : Int) : Int).toNat) (i : Int).toNat) → (st 122 1 - i).toNat = u → K (rx_find rx_m229 5) [(5, .inl i), (3, .inr (.inl mo)), (0, .inr (.inr (.inl 115))), (1, .inr (.inr (.inl 122))), (2, .inl k)] [] st := by
    intro u
    induction u using Nat.strongRecOn with
    | _ u ih =>
      intro i mo hi hu
      obtain ⟨i_lp, v_lp⟩ := hi
      have hfb : i < st 122 1 → 0 ≤ st 120 ((k * 8) + i).toNat * st 119 ((k * 8) + i).toNat ∧ st 120 ((k * 8) + i).toNat * st 119 ((k * 8) + i).toNat ≤ 144115188075855872 := fun z => by
        have y := fb (i : Int).toNat (by omega)
        rw [show (((i : Int).toNat : Nat) : Int) = i by omega] at y
        exact y
      have g1 := g_f122_1 hG
      refine yr1_ok (Rt := Q) (wc := (wcL [(303, k_wMaxL)])) (stp := [5]) hcm hcl [] 50 ?_
      show ((st 122 1 ≤ i → Q (some (.inr (.inl mo))) st) ∧ (¬ (st 122 1 ≤ i) → ((-2147483648 ≤ k * 8 ∧ k * 8 ≤ 2147483647) ∧ ((-2147483648 ≤ (k * 8) + i ∧ (k * 8) + i ≤ 2147483647) ∧ ((0 ≤ (k * 8) + i ∧ (k * 8) + i < 160) ∧ ((0 ≤ (k * 8) + i ∧ (k * 8) + i < 160) ∧ ((-9223372036854775808 ≤ (st 120 ((k * 8) + i : Int).toNat) * (st 119 ((k * 8) + i : Int).toNat) ∧ (st 120 ((k * 8) + i : Int).toNat) * (st 119 ((k * 8) + i : Int).toNat) ≤ 9223372036854775807) ∧ (∀ (r2 : Int), en_wMaxL mo ((st 120 ((k * 8) + i : Int).toNat) * (st 119 ((k * 8) + i : Int).toNat)) st r2 → ((-2147483648 ≤ i + 1 ∧ i + 1 ≤ 2147483647) ∧ K (rx_find rx_m229 5) [(5, .inl (i + 1)), (3, .inr (.inl r2)), (6, .inl ((k * 8) + i)), (0, .inr (.inr (.inl 115))), (1, .inr (.inr (.inl 122))), (2, .inl k)] [] st)))))))))
      refine ⟨fun h3 => ?_, fun h3 => ?_⟩
      · exact hQ _ ⟨(show mo = flX (fun q : Nat => st 120 ((k * 8) + (q : Int) : Int).toNat * st 119 ((k * 8) + (q : Int) : Int).toNat) (st 122 1 : Int).toNat from (by
          rw [show st 122 1 = i by omega]
          exact v_lp)), (show 0 ≤ mo ∧ mo ≤ 144115188075855872 from by omega)⟩
      · refine ⟨by omega, ?_⟩
        refine ⟨by omega, ?_⟩
        have g4 := g_a120 hG ((k * 8) + i : Int).toNat
        refine ⟨by omega, ?_⟩
        have g5 := g_a119 hG ((k * 8) + i : Int).toNat
        refine ⟨by omega, ?_⟩
        refine ⟨by omega, ?_⟩
        refine fun r2 q2 => ?_
        have e2 := q2
        change (((st 120 ((k * 8) + i : Int).toNat) * (st 119 ((k * 8) + i : Int).toNat)) ≤ mo → r2 = mo) ∧ (mo < ((st 120 ((k * 8) + i : Int).toNat) * (st 119 ((k * 8) + i : Int).toNat)) → r2 = ((st 120 ((k * 8) + i : Int).toNat) * (st 119 ((k * 8) + i : Int).toNat))) at e2
        refine ⟨by omega, ?_⟩
        exact hsl _ _ _ _ _ (sb_cons (.head _) (sb_cons (.tail _ (.head _)) (sb_cons (.tail _ (.tail _ (.tail _ (.head _)))) (sb_cons (.tail _ (.tail _ (.tail _ (.tail _ (.head _))))) (sb_cons (.tail _ (.tail _ (.tail _ (.tail _ (.tail _ (.head _)))))) sb_nil))))) (ih _ (show (st 122 1 - (i + 1) : Int).toNat < u from by omega) (i + 1) r2 ⟨(show 0 ≤ (i + 1) ∧ (i + 1) ≤ st 122 1 ∧ 0 ≤ r2 ∧ r2 ≤ 144115188075855872 from by omega), (show r2 = flX (fun q : Nat => st 120 ((k * 8) + (q : Int) : Int).toNat * st 119 ((k * 8) + (q : Int) : Int).toNat) ((i + 1) : Int).toNat from (by
              rw [flX_s (by omega), ← v_lp]
              show _ = if mo < st 120 ((k * 8) + ((i.toNat : Nat) : Int) : Int).toNat * st 119 ((k * 8) + ((i.toNat : Nat) : Int) : Int).toNat then st 120 ((k * 8) + ((i.toNat : Nat) : Int) : Int).toNat * st 119 ((k * 8) + ((i.toNat : Nat) : Int) : Int).toNat else mo
              rw [show ((i.toNat : Nat) : Int) = i by omega]
              split <;> omega))⟩ rfl)
  have g6 := g_f122_1 hG
  refine yr1_ok (Rt := Q) (wc := (wcL [(303, k_wMaxL)])) (stp := [5]) hcm hcl [] 50 ?_
  show K (rx_find rx_m229 5) [(5, .inl 0), (3, .inr (.inl 0)), (0, .inr (.inr (.inl 115))), (1, .inr (.inr (.inl 122))), (2, .inl k)] [] st
  exact lp _ 0 0 ⟨(show 0 ≤ (0 : Int) ∧ (0 : Int) ≤ st 122 1 ∧ 0 ≤ (0 : Int) ∧ (0 : Int) ≤ 144115188075855872 from by omega), (show (0 : Int) = flX (fun q : Nat => st 120 ((k * 8) + (q : Int) : Int).toNat * st 119 ((k * 8) + (q : Int) : Int).toNat) ((0 : Int) : Int).toNat from rfl)⟩ rfl
theorem k_wMostA_m (hTb : aTb zSh rx_tb cl) {D : Nat} (hD : 2 ≤ D) : ∀ as st (Q Q' : zQ), (∀ r st', Q r st' → Q' r st') → k_wMostA 229 as st Q → cl D 229 as st Q' := by
  intro as st Q Q' hQ h
  unfold k_wMostA at h
  split at h
  · obtain ⟨rfl, rfl, h⟩ := h
    exact c_wMostA hTb hD (ct_wMostA_m hQ h)
  · exact h.elim
set_option maxHeartbeats 4000000 in
set_option maxRecDepth 100000 in
theorem c_wAskA (hTb : aTb zSh rx_tb cl) {D : Nat} (hD : 4 ≤ D) {n : Int} {st : zS} {Q : zQ} (h : ct_wAskA n st Q) : cl D 228 [.inr (.inr (.inl 115)), .inr (.inr (.inl 122)), .inl n] st Q := by
  obtain ⟨d, rfl⟩ : ∃ d, D = d + 1 := ⟨D - 1, by omega⟩
  refine hTb d 228 (rx_m228, 7, 0, 0, 0) rfl _ _ _ (Nat.le_of_ble_eq_true rfl) (fun K hcl hsf hsl => ?_)
  have hcm : zmo (wcL [(226, k_wSBA120), (225, k_wMay), (229, k_wMostA)]) (cl d) := (wcL_m (wm_cons (k_wSBA120_m hTb (by omega)) (wm_cons (k_wMay_m hTb (by omega)) (wm_cons (k_wMostA_m hTb (by omega)) wm_nil))))
  obtain ⟨hR, hQ⟩ := h
  obtain ⟨hG, tw, nn, op, on⟩ := hR
  change TW (tn 122 st) at tw
  change 1 ≤ n ∧ n ≤ 20 at nn
  change OPN (st 122 1) (st 116) (st 117) n (st 115 5) (st 118) at op
  change TD (tn 122 st) (flo (st 116) (st 117) (st 115 5) n) (n - 1 : Int).toNat (st 119) (-1) at on
  have b8 : 0 ≤ st 122 1 ∧ st 122 1 ≤ 8 := tw.1.1
  have hP : ((tn 122 st) 0 1).toNat ≤ 8 := (by omega : (st 122 1).toNat ≤ 8)
  have l3 : ∀ (u : Nat) (k : Int) (s_l3 : zS), gInv zgt s_l3 ∧ aFr m_wAskA st s_l3 ∧ (0 ≤ k ∧ k ≤ n) ∧ (TU (tn 122 st) (flo (st 116) (st 117) (st 115 5) n) (s_l3 120) n) ∧ (AK (fun j => flM (tn 122 st) (flo (st 116) (st 117) (st 115 5) n) (n - 1 : Int).toNat j) k (s_l3 115 6) (s_l3 115 7)) → (n - k).toNat = u → K (rx_find rx_m228 89) [(3, .inl k), (0, .inr (.inr (.inl 115))), (1, .inr (.inr (.inl 122))), (2, .inl n)] [] s_l3 := by
    intro u_l3
    induction u_l3 using Nat.strongRecOn with
    | _ u_l3 ih_l3 =>
      intro k s_l3 hi hu_l3
      obtain ⟨gI_l3, fI_l3, i_l3, w_l3, k_l3⟩ := hi
      have g2 := g_f122_1 hG
      have e1 : s_l3 122 1 = st 122 1 := fI_l3 122 1 rfl rfl
      have g3 := g_f115_6 gI_l3
      have g4 := g_f115_7 gI_l3
      refine yr1_ok (Rt := Q) (wc := (wcL [(226, k_wSBA120), (225, k_wMay), (229, k_wMostA)])) (stp := [89]) hcm hcl [] 95 ?_
      show ((n ≤ k → Q none s_l3) ∧ (¬ (n ≤ k) → (115 = 115 ∧ ((122) = 122 ∧ (rq_wMostA k s_l3 ∧ (∀ (r5 : Int), en_wMostA k s_l3 r5 → ((s_l3 115 6 = ((-1) : Int) → ((-2147483648 ≤ k + 1 ∧ k + 1 ≤ 2147483647) ∧ K (rx_find rx_m228 89) [(3, .inl (k + 1)), (4, .inr (.inl r5)), (0, .inr (.inr (.inl 115))), (1, .inr (.inr (.inl 122))), (2, .inl n)] [] (zup (zup s_l3 115 6 k) 115 7 r5))) ∧ (¬ (s_l3 115 6 = ((-1) : Int)) → (∀ (w6 : Int), (r5 < s_l3 115 7 ∧ w6 = -1 ∨ r5 = s_l3 115 7 ∧ w6 = 0 ∨ s_l3 115 7 < r5 ∧ w6 = 1) → (((0 : Int) ≤ w6 → ((-2147483648 ≤ k + 1 ∧ k + 1 ≤ 2147483647) ∧ K (rx_find rx_m228 89) [(3, .inl (k + 1)), (4, .inr (.inl r5)), (0, .inr (.inr (.inl 115))), (1, .inr (.inr (.inl 122))), (2, .inl n)] [] s_l3)) ∧ (¬ ((0 : Int) ≤ w6) → ((-2147483648 ≤ k + 1 ∧ k + 1 ≤ 2147483647) ∧ K (rx_find rx_m228 89) [(3, .inl (k + 1)), (4, .inr (.inl r5)), (0, .inr (.inr (.inl 115))), (1, .inr (.inr (.inl 122))), (2, .inl n)] [] (zup (zup s_l3 115 6 k) 115 7 r5)))))))))))))
      refine ⟨fun h7 => ?_, fun h7 => ?_⟩
      · exact hQ _ ⟨gI_l3, fI_l3, (show AK (fun j => flM (tn 122 st) (flo (st 116) (st 117) (st 115 5) n) (n - 1 : Int).toNat j) n (s_l3 115 6) (s_l3 115 7) from (by
          have z := k_l3
          rw [show k = n by omega] at z
          exact z))⟩
      · refine ⟨rfl, rfl, ⟨gI_l3, (show 0 ≤ s_l3 122 1 ∧ s_l3 122 1 ≤ 8 ∧ 0 ≤ k ∧ k < 20 from by omega), (show ∀ q : Nat, (q : Int) < s_l3 122 1 → 0 ≤ s_l3 120 ((k * 8) + (q : Int) : Int).toNat * s_l3 119 ((k * 8) + (q : Int) : Int).toNat ∧ s_l3 120 ((k * 8) + (q : Int) : Int).toNat * s_l3 119 ((k * 8) + (q : Int) : Int).toNat ≤ 144115188075855872 from (by
              intro q hq
              have hq2 : (q : Int) < st 122 1 := by omega
              have z := flUD_c hP (flo (st 116) (st 117) (st 115 5) n) (m := (n - 1 : Int).toNat) (k := k.toNat) (by omega) (by omega) q
              rw [← w_l3 k.toNat q (by omega) hq2, ← on k.toNat q (by omega) (by omega) hq2] at z
              rw [show ((k * 8) + (q : Int) : Int).toNat = 8 * k.toNat + q by omega, fI_l3 119 _ rfl rfl]
              exact z))⟩, fun r5 q5 => ?_⟩
        obtain ⟨e5, b5⟩ := q5
        change r5 = flX (fun q : Nat => s_l3 120 ((k * 8) + (q : Int) : Int).toNat * s_l3 119 ((k * 8) + (q : Int) : Int).toNat) (s_l3 122 1 : Int).toNat at e5
        change 0 ≤ r5 ∧ r5 ≤ 144115188075855872 at b5
        refine ⟨fun h8 => ?_, fun h8 => ?_⟩
        · refine ⟨by omega, ?_⟩
          exact hsl _ _ _ _ _ (sb_cons (.head _) (sb_cons (.tail _ (.tail _ (.head _))) (sb_cons (.tail _ (.tail _ (.tail _ (.head _)))) (sb_cons (.tail _ (.tail _ (.tail _ (.tail _ (.head _))))) sb_nil)))) (ih_l3 _ (show (n - (k + 1) : Int).toNat < u_l3 from by omega) (k + 1) (zup (zup s_l3 115 6 k) 115 7 r5) ⟨(gInv_up (gInv_up gI_l3 (p_f115_6 (by omega))) (p_f115_7 (by omega))), (fr_f (fr_f fI_l3 rfl) rfl), (show 0 ≤ (k + 1) ∧ (k + 1) ≤ n from by omega), (show TU (tn 122 st) (flo (st 116) (st 117) (st 115 5) n) ((zup (zup s_l3 115 6 k) 115 7 r5) 120) n from w_l3), (show AK (fun j => flM (tn 122 st) (flo (st 116) (st 117) (st 115 5) n) (n - 1 : Int).toNat j) (k + 1) ((zup (zup s_l3 115 6 k) 115 7 r5) 115 6) ((zup (zup s_l3 115 6 k) 115 7 r5) 115 7) from (by
              have hm : r5 = flM (tn 122 st) (flo (st 116) (st 117) (st 115 5) n) (n - 1 : Int).toNat k.toNat := by
                rw [e5]
                refine TT_max (T := (tn 122 st)) on (B := s_l3 120) (by rw [show (((n - 1 : Int).toNat : Nat) : Int) + 1 = n by omega]; exact w_l3) (j := k.toNat) (by omega) (fun q hq => ?_) |> (fun z => by rw [show s_l3 122 1 = st 122 1 from fI_l3 122 1 rfl rfl]; exact z)
                show s_l3 120 _ * s_l3 119 _ = _
                rw [show ((k * 8) + (q : Int) : Int).toNat = 8 * k.toNat + q by omega, fI_l3 119 _ rfl rfl]
              exact AK_new (g := (fun j => flM (tn 122 st) (flo (st 116) (st 117) (st 115 5) n) (n - 1 : Int).toNat j)) (x := r5) k_l3 (by omega) hm (by omega)))⟩ rfl)
        · intro w6 hw6
          refine ⟨fun h9 => ?_, fun h9 => ?_⟩
          · refine ⟨by omega, ?_⟩
            exact hsl _ _ _ _ _ (sb_cons (.head _) (sb_cons (.tail _ (.tail _ (.head _))) (sb_cons (.tail _ (.tail _ (.tail _ (.head _)))) (sb_cons (.tail _ (.tail _ (.tail _ (.tail _ (.head _))))) sb_nil)))) (ih_l3 _ (show (n - (k + 1) : Int).toNat < u_l3 from by omega) (k + 1) s_l3 ⟨gI_l3, fI_l3, (show 0 ≤ (k + 1) ∧ (k + 1) ≤ n from by omega), (show TU (tn 122 st) (flo (st 116) (st 117) (st 115 5) n) (s_l3 120) n from w_l3), (show AK (fun j => flM (tn 122 st) (flo (st 116) (st 117) (st 115 5) n) (n - 1 : Int).toNat j) (k + 1) (s_l3 115 6) (s_l3 115 7) from (by
              have hm : r5 = flM (tn 122 st) (flo (st 116) (st 117) (st 115 5) n) (n - 1 : Int).toNat k.toNat := by
                rw [e5]
                refine TT_max (T := (tn 122 st)) on (B := s_l3 120) (by rw [show (((n - 1 : Int).toNat : Nat) : Int) + 1 = n by omega]; exact w_l3) (j := k.toNat) (by omega) (fun q hq => ?_) |> (fun z => by rw [show s_l3 122 1 = st 122 1 from fI_l3 122 1 rfl rfl]; exact z)
                show s_l3 120 _ * s_l3 119 _ = _
                rw [show ((k * 8) + (q : Int) : Int).toNat = 8 * k.toNat + q by omega, fI_l3 119 _ rfl rfl]
              exact AK_old (g := (fun j => flM (tn 122 st) (flo (st 116) (st 117) (st 115 5) n) (n - 1 : Int).toNat j)) k_l3 hm ⟨by omega, by omega⟩))⟩ rfl)
          · refine ⟨by omega, ?_⟩
            exact hsl _ _ _ _ _ (sb_cons (.head _) (sb_cons (.tail _ (.tail _ (.head _))) (sb_cons (.tail _ (.tail _ (.tail _ (.head _)))) (sb_cons (.tail _ (.tail _ (.tail _ (.tail _ (.head _))))) sb_nil)))) (ih_l3 _ (show (n - (k + 1) : Int).toNat < u_l3 from by omega) (k + 1) (zup (zup s_l3 115 6 k) 115 7 r5) ⟨(gInv_up (gInv_up gI_l3 (p_f115_6 (by omega))) (p_f115_7 (by omega))), (fr_f (fr_f fI_l3 rfl) rfl), (show 0 ≤ (k + 1) ∧ (k + 1) ≤ n from by omega), (show TU (tn 122 st) (flo (st 116) (st 117) (st 115 5) n) ((zup (zup s_l3 115 6 k) 115 7 r5) 120) n from w_l3), (show AK (fun j => flM (tn 122 st) (flo (st 116) (st 117) (st 115 5) n) (n - 1 : Int).toNat j) (k + 1) ((zup (zup s_l3 115 6 k) 115 7 r5) 115 6) ((zup (zup s_l3 115 6 k) 115 7 r5) 115 7) from (by
              have hm : r5 = flM (tn 122 st) (flo (st 116) (st 117) (st 115 5) n) (n - 1 : Int).toNat k.toNat := by
                rw [e5]
                refine TT_max (T := (tn 122 st)) on (B := s_l3 120) (by rw [show (((n - 1 : Int).toNat : Nat) : Int) + 1 = n by omega]; exact w_l3) (j := k.toNat) (by omega) (fun q hq => ?_) |> (fun z => by rw [show s_l3 122 1 = st 122 1 from fI_l3 122 1 rfl rfl]; exact z)
                show s_l3 120 _ * s_l3 119 _ = _
                rw [show ((k * 8) + (q : Int) : Int).toNat = 8 * k.toNat + q by omega, fI_l3 119 _ rfl rfl]
              exact AK_new (g := (fun j => flM (tn 122 st) (flo (st 116) (st 117) (st 115 5) n) (n - 1 : Int).toNat j)) (x := r5) k_l3 (by omega) hm (by omega)))⟩ rfl)
  have la : ∀ (u : Nat) (k : Int) (s_la : zS), gInv zgt s_la ∧ aFr m_wAskA st s_la ∧ (0 ≤ k ∧ k ≤ n) ∧ (TU (tn 122 st) (flo (st 116) (st 117) (st 115 5) n) (s_la 120) k) → (n - k).toNat = u → K (rx_find rx_m228 2) [(3, .inl k), (0, .inr (.inr (.inl 115))), (1, .inr (.inr (.inl 122))), (2, .inl n)] [] s_la := by
    intro u_la
    induction u_la using Nat.strongRecOn with
    | _ u_la ih_la =>
      intro k s_la hi hu_la
      obtain ⟨gI_la, fI_la, i_la, t_la⟩ := hi
      have g11 := g_f122_1 hG
      have e10 : s_la 122 1 = st 122 1 := fI_la 122 1 rfl rfl
      have lb : ∀ (u : Nat) (z : Int) (s_lb : zS), gInv zgt s_lb ∧ aFr m_wAskA st s_lb ∧ (0 ≤ z ∧ z ≤ st 122 1 ∧ 0 ≤ k ∧ k < n) ∧ (TU (tn 122 st) (flo (st 116) (st 117) (st 115 5) n) (s_lb 120) k) ∧ (TUp (tn 122 st) (flo (st 116) (st 117) (st 115 5) n) (s_lb 120) k z) → (st 122 1 - z).toNat = u → K (rx_find rx_m228 10) [(4, .inl z), (3, .inl k), (0, .inr (.inr (.inl 115))), (1, .inr (.inr (.inl 122))), (2, .inl n)] [] s_lb := by
        intro u_lb
        induction u_lb using Nat.strongRecOn with
        | _ u_lb ih_lb =>
          intro z s_lb hi hu_lb
          obtain ⟨gI_lb, fI_lb, i_lb, t_lb, p_lb⟩ := hi
          have g13 := g_f122_1 hG
          have e12 : s_lb 122 1 = st 122 1 := fI_lb 122 1 rfl rfl
          refine yr1_ok (Rt := Q) (wc := (wcL [(226, k_wSBA120), (225, k_wMay), (229, k_wMostA)])) (stp := [2, 10, 89]) hcm hcl [] 95 ?_
          show ((s_lb 122 1 ≤ z → ((-2147483648 ≤ k + 1 ∧ k + 1 ≤ 2147483647) ∧ K (rx_find rx_m228 2) [(3, .inl (k + 1)), (4, .inl z), (0, .inr (.inr (.inl 115))), (1, .inr (.inr (.inl 122))), (2, .inl n)] [] s_lb)) ∧ (¬ (s_lb 122 1 ≤ z) → ((¬ k = (0 : Int) → ((-2147483648 ≤ k - 1 ∧ k - 1 ≤ 2147483647) ∧ ((122) = 122 ∧ ((120) = 120 ∧ (rq_wSBA120 (k - 1) z s_lb ∧ (∀ (r14 : Int), en_wSBA120 (k - 1) z s_lb r14 → ((-2147483648 ≤ k * 8 ∧ k * 8 ≤ 2147483647) ∧ ((-2147483648 ≤ (k * 8) + z ∧ (k * 8) + z ≤ 2147483647) ∧ (115 = 115 ∧ (rq_wMay k z s_lb ∧ (∀ (r15 : Int), en_wMay k z s_lb r15 → ((r15 = (0 : Int) → ((0 ≤ (k * 8) + z ∧ (k * 8) + z < 160) ∧ ((-2147483648 ≤ z + 1 ∧ z + 1 ≤ 2147483647) ∧ K (rx_find rx_m228 10) [(4, .inl (z + 1)), (5, .inr (.inl r14)), (3, .inl k), (0, .inr (.inr (.inl 115))), (1, .inr (.inr (.inl 122))), (2, .inl n)] [] (zup s_lb 120 ((k * 8) + z : Int).toNat 0)))) ∧ (¬ (r15 = (0 : Int)) → ((0 ≤ (k * 8) + z ∧ (k * 8) + z < 160) ∧ ((-2147483648 ≤ z + 1 ∧ z + 1 ≤ 2147483647) ∧ K (rx_find rx_m228 10) [(4, .inl (z + 1)), (5, .inr (.inl r14)), (3, .inl k), (0, .inr (.inr (.inl 115))), (1, .inr (.inr (.inl 122))), (2, .inl n)] [] (zup s_lb 120 ((k * 8) + z : Int).toNat r14)))))))))))))))) ∧ (¬ (¬ k = (0 : Int)) → ((-2147483648 ≤ k * 8 ∧ k * 8 ≤ 2147483647) ∧ ((-2147483648 ≤ (k * 8) + z ∧ (k * 8) + z ≤ 2147483647) ∧ (115 = 115 ∧ (rq_wMay k z s_lb ∧ (∀ (r16 : Int), en_wMay k z s_lb r16 → ((r16 = (0 : Int) → ((0 ≤ (k * 8) + z ∧ (k * 8) + z < 160) ∧ ((-2147483648 ≤ z + 1 ∧ z + 1 ≤ 2147483647) ∧ K (rx_find rx_m228 10) [(4, .inl (z + 1)), (5, .inr (.inl 1)), (3, .inl k), (0, .inr (.inr (.inl 115))), (1, .inr (.inr (.inl 122))), (2, .inl n)] [] (zup s_lb 120 ((k * 8) + z : Int).toNat 0)))) ∧ (¬ (r16 = (0 : Int)) → ((0 ≤ (k * 8) + z ∧ (k * 8) + z < 160) ∧ ((-2147483648 ≤ z + 1 ∧ z + 1 ≤ 2147483647) ∧ K (rx_find rx_m228 10) [(4, .inl (z + 1)), (5, .inr (.inl 1)), (3, .inl k), (0, .inr (.inr (.inl 115))), (1, .inr (.inr (.inl 122))), (2, .inl n)] [] (zup s_lb 120 ((k * 8) + z : Int).toNat 1))))))))))))))
          refine ⟨fun h17 => ?_, fun h17 => ?_⟩
          · refine ⟨by omega, ?_⟩
            exact hsl _ _ _ _ _ (sb_cons (.head _) (sb_cons (.tail _ (.tail _ (.head _))) (sb_cons (.tail _ (.tail _ (.tail _ (.head _)))) (sb_cons (.tail _ (.tail _ (.tail _ (.tail _ (.head _))))) sb_nil)))) (ih_la _ (show (n - (k + 1) : Int).toNat < u_la from by omega) (k + 1) s_lb ⟨gI_lb, fI_lb, (show 0 ≤ (k + 1) ∧ (k + 1) ≤ n from by omega), (show TU (tn 122 st) (flo (st 116) (st 117) (st 115 5) n) (s_lb 120) (k + 1) from (TU_row t_lb p_lb (by omega) (show (tn 122 st) 0 1 ≤ z from (show st 122 1 ≤ z by omega))))⟩ rfl)
          · refine ⟨fun h18 => ?_, fun h18 => ?_⟩
            · refine ⟨by omega, ?_⟩
              refine ⟨rfl, rfl, ⟨gI_lb, (show TW (tn 122 s_lb) from (by rw [(tn_fr rfl (show aFr m_wAskA st s_lb from fI_lb))]; exact tw)), (show 0 ≤ (k - 1) ∧ (k - 1) < 20 ∧ 0 ≤ z ∧ z < s_lb 122 1 from by omega), (show ∀ q : Nat, (q : Int) < s_lb 122 1 → 0 ≤ s_lb 120 (((k - 1) * 8) + (q : Int) : Int).toNat ∧ s_lb 120 (((k - 1) * 8) + (q : Int) : Int).toNat ≤ 144115188075855872 from (by
              intro q hq
              have z := TU_b hP t_lb (j := k.toNat - 1) (by omega) (by omega) (q := q) (show (q : Int) < st 122 1 by omega)
              rw [show 8 * (k.toNat - 1) + q = (((k - 1) * 8) + (q : Int) : Int).toNat by omega] at z
              exact z))⟩, fun r14 q14 => ?_⟩
              obtain ⟨e14, b14⟩ := q14
              change r14 = flb (tn 122 s_lb) (fun q : Nat => s_lb 120 (((k - 1) * 8) + (q : Int) : Int).toNat) (z : Int).toNat at e14
              change 0 ≤ r14 ∧ r14 ≤ 1152921504606846976 at b14
              refine ⟨by omega, ?_⟩
              refine ⟨by omega, ?_⟩
              refine ⟨rfl, ⟨gI_lb, (show 0 ≤ k ∧ k < 20 ∧ 0 ≤ z ∧ z < 8 from by omega)⟩, fun r15 q15 => ?_⟩
              have e15 := q15
              change r15 = hb (s_lb 118 (k : Int).toNat) z at e15
              refine ⟨fun h19 => ?_, fun h19 => ?_⟩
              · refine ⟨by omega, ?_⟩
                refine ⟨by omega, ?_⟩
                exact hsl _ _ _ _ _ (sb_cons (.head _) (sb_cons (.tail _ (.tail _ (.head _))) (sb_cons (.tail _ (.tail _ (.tail _ (.head _)))) (sb_cons (.tail _ (.tail _ (.tail _ (.tail _ (.head _))))) (sb_cons (.tail _ (.tail _ (.tail _ (.tail _ (.tail _ (.head _)))))) sb_nil))))) (ih_lb _ (show (st 122 1 - (z + 1) : Int).toNat < u_lb from by omega) (z + 1) (zup s_lb 120 ((k * 8) + z : Int).toNat 0) ⟨(gInv_up gI_lb (p_a120 (by omega))), (fr_a fI_lb rfl), (show 0 ≤ (z + 1) ∧ (z + 1) ≤ st 122 1 ∧ 0 ≤ k ∧ k < n from by omega), (show TU (tn 122 st) (flo (st 116) (st 117) (st 115 5) n) ((zup s_lb 120 ((k * 8) + z : Int).toNat 0) 120) k from (TU_up (show (tn 122 st) 0 1 ≤ 8 from b8.2) t_lb (z := z) (by omega) (by omega) (x := ((k * 8) + z : Int).toNat) (by omega))), (show TUp (tn 122 st) (flo (st 116) (st 117) (st 115 5) n) ((zup s_lb 120 ((k * 8) + z : Int).toNat 0) 120) k (z + 1) from (TUp_up p_lb (by omega) (by omega) (x := ((k * 8) + z : Int).toNat) (by omega) (by
              have hO := OPN_o (show OPN (st 122 1) (st 116) (st 117) n (st 115 5) (s_lb 118) from by rw [show s_lb 118 = st 118 from funext (fun i => fI_lb 118 i rfl rfl)]; exact op) (k := k) (p := z) (by omega) (by omega) (by omega) (by omega)
              have h01 := hb_01 (s_lb 118 (k : Int).toNat) z
              by_cases hq : k = 0
              · rw [TU_v1 hq, if_neg (by omega)]
              · rw [TU_v2 (by omega) t_lb (g := (fun q : Nat => s_lb 120 (((k - 1) * 8) + (q : Int) : Int).toNat)) (fun q hq => by show s_lb 120 _ = _; rw [show (((k - 1) * 8) + (q : Int) : Int).toNat = 8 * (k.toNat - 1) + q by omega]), if_neg (by omega)])))⟩ rfl)
              · refine ⟨by omega, ?_⟩
                refine ⟨by omega, ?_⟩
                exact hsl _ _ _ _ _ (sb_cons (.head _) (sb_cons (.tail _ (.tail _ (.head _))) (sb_cons (.tail _ (.tail _ (.tail _ (.head _)))) (sb_cons (.tail _ (.tail _ (.tail _ (.tail _ (.head _))))) (sb_cons (.tail _ (.tail _ (.tail _ (.tail _ (.tail _ (.head _)))))) sb_nil))))) (ih_lb _ (show (st 122 1 - (z + 1) : Int).toNat < u_lb from by omega) (z + 1) (zup s_lb 120 ((k * 8) + z : Int).toNat r14) ⟨(gInv_up gI_lb (p_a120 (by omega))), (fr_a fI_lb rfl), (show 0 ≤ (z + 1) ∧ (z + 1) ≤ st 122 1 ∧ 0 ≤ k ∧ k < n from by omega), (show TU (tn 122 st) (flo (st 116) (st 117) (st 115 5) n) ((zup s_lb 120 ((k * 8) + z : Int).toNat r14) 120) k from (TU_up (show (tn 122 st) 0 1 ≤ 8 from b8.2) t_lb (z := z) (by omega) (by omega) (x := ((k * 8) + z : Int).toNat) (by omega))), (show TUp (tn 122 st) (flo (st 116) (st 117) (st 115 5) n) ((zup s_lb 120 ((k * 8) + z : Int).toNat r14) 120) k (z + 1) from (TUp_up p_lb (by omega) (by omega) (x := ((k * 8) + z : Int).toNat) (by omega) (by
              have hO := OPN_o (show OPN (st 122 1) (st 116) (st 117) n (st 115 5) (s_lb 118) from by rw [show s_lb 118 = st 118 from funext (fun i => fI_lb 118 i rfl rfl)]; exact op) (k := k) (p := z) (by omega) (by omega) (by omega) (by omega)
              have h01 := hb_01 (s_lb 118 (k : Int).toNat) z
              rw [TU_v2 (by omega) t_lb (g := (fun q : Nat => s_lb 120 (((k - 1) * 8) + (q : Int) : Int).toNat)) (fun q hq => by show s_lb 120 _ = _; rw [show (((k - 1) * 8) + (q : Int) : Int).toNat = 8 * (k.toNat - 1) + q by omega]), if_pos (by omega), e14, (tn_fr rfl (show aFr m_wAskA st s_lb from fI_lb))])))⟩ rfl)
            · refine ⟨by omega, ?_⟩
              refine ⟨by omega, ?_⟩
              refine ⟨rfl, ⟨gI_lb, (show 0 ≤ k ∧ k < 20 ∧ 0 ≤ z ∧ z < 8 from by omega)⟩, fun r16 q16 => ?_⟩
              have e16 := q16
              change r16 = hb (s_lb 118 (k : Int).toNat) z at e16
              refine ⟨fun h20 => ?_, fun h20 => ?_⟩
              · refine ⟨by omega, ?_⟩
                refine ⟨by omega, ?_⟩
                exact hsl _ _ _ _ _ (sb_cons (.head _) (sb_cons (.tail _ (.tail _ (.head _))) (sb_cons (.tail _ (.tail _ (.tail _ (.head _)))) (sb_cons (.tail _ (.tail _ (.tail _ (.tail _ (.head _))))) (sb_cons (.tail _ (.tail _ (.tail _ (.tail _ (.tail _ (.head _)))))) sb_nil))))) (ih_lb _ (show (st 122 1 - (z + 1) : Int).toNat < u_lb from by omega) (z + 1) (zup s_lb 120 ((k * 8) + z : Int).toNat 0) ⟨(gInv_up gI_lb (p_a120 (by omega))), (fr_a fI_lb rfl), (show 0 ≤ (z + 1) ∧ (z + 1) ≤ st 122 1 ∧ 0 ≤ k ∧ k < n from by omega), (show TU (tn 122 st) (flo (st 116) (st 117) (st 115 5) n) ((zup s_lb 120 ((k * 8) + z : Int).toNat 0) 120) k from (TU_up (show (tn 122 st) 0 1 ≤ 8 from b8.2) t_lb (z := z) (by omega) (by omega) (x := ((k * 8) + z : Int).toNat) (by omega))), (show TUp (tn 122 st) (flo (st 116) (st 117) (st 115 5) n) ((zup s_lb 120 ((k * 8) + z : Int).toNat 0) 120) k (z + 1) from (TUp_up p_lb (by omega) (by omega) (x := ((k * 8) + z : Int).toNat) (by omega) (by
              have hO := OPN_o (show OPN (st 122 1) (st 116) (st 117) n (st 115 5) (s_lb 118) from by rw [show s_lb 118 = st 118 from funext (fun i => fI_lb 118 i rfl rfl)]; exact op) (k := k) (p := z) (by omega) (by omega) (by omega) (by omega)
              have h01 := hb_01 (s_lb 118 (k : Int).toNat) z
              by_cases hq : k = 0
              · rw [TU_v1 hq, if_neg (by omega)]
              · rw [TU_v2 (by omega) t_lb (g := (fun q : Nat => s_lb 120 (((k - 1) * 8) + (q : Int) : Int).toNat)) (fun q hq => by show s_lb 120 _ = _; rw [show (((k - 1) * 8) + (q : Int) : Int).toNat = 8 * (k.toNat - 1) + q by omega]), if_neg (by omega)])))⟩ rfl)
              · refine ⟨by omega, ?_⟩
                refine ⟨by omega, ?_⟩
                exact hsl _ _ _ _ _ (sb_cons (.head _) (sb_cons (.tail _ (.tail _ (.head _))) (sb_cons (.tail _ (.tail _ (.tail _ (.head _)))) (sb_cons (.tail _ (.tail _ (.tail _ (.tail _ (.head _))))) (sb_cons (.tail _ (.tail _ (.tail _ (.tail _ (.tail _ (.head _)))))) sb_nil))))) (ih_lb _ (show (st 122 1 - (z + 1) : Int).toNat < u_lb from by omega) (z + 1) (zup s_lb 120 ((k * 8) + z : Int).toNat 1) ⟨(gInv_up gI_lb (p_a120 (by omega))), (fr_a fI_lb rfl), (show 0 ≤ (z + 1) ∧ (z + 1) ≤ st 122 1 ∧ 0 ≤ k ∧ k < n from by omega), (show TU (tn 122 st) (flo (st 116) (st 117) (st 115 5) n) ((zup s_lb 120 ((k * 8) + z : Int).toNat 1) 120) k from (TU_up (show (tn 122 st) 0 1 ≤ 8 from b8.2) t_lb (z := z) (by omega) (by omega) (x := ((k * 8) + z : Int).toNat) (by omega))), (show TUp (tn 122 st) (flo (st 116) (st 117) (st 115 5) n) ((zup s_lb 120 ((k * 8) + z : Int).toNat 1) 120) k (z + 1) from (TUp_up p_lb (by omega) (by omega) (x := ((k * 8) + z : Int).toNat) (by omega) (by
              have hO := OPN_o (show OPN (st 122 1) (st 116) (st 117) n (st 115 5) (s_lb 118) from by rw [show s_lb 118 = st 118 from funext (fun i => fI_lb 118 i rfl rfl)]; exact op) (k := k) (p := z) (by omega) (by omega) (by omega) (by omega)
              have h01 := hb_01 (s_lb 118 (k : Int).toNat) z
              rw [TU_v1 (by omega), if_pos (by omega)])))⟩ rfl)
      refine yr1_ok (Rt := Q) (wc := (wcL [(226, k_wSBA120), (225, k_wMay), (229, k_wMostA)])) (stp := [2, 10, 89]) hcm hcl [] 95 ?_
      show ((n ≤ k → K (rx_find rx_m228 89) [(3, .inl 0), (0, .inr (.inr (.inl 115))), (1, .inr (.inr (.inl 122))), (2, .inl n)] [] (zup s_la 115 6 (-1))) ∧ (¬ (n ≤ k) → K (rx_find rx_m228 10) [(4, .inl 0), (3, .inl k), (0, .inr (.inr (.inl 115))), (1, .inr (.inr (.inl 122))), (2, .inl n)] [] s_la))
      refine ⟨fun h21 => ?_, fun h21 => ?_⟩
      · exact l3 _ 0 (zup s_la 115 6 (-1)) ⟨(gInv_up gI_la (p_f115_6 (by omega))), (fr_f fI_la rfl), (show 0 ≤ (0 : Int) ∧ (0 : Int) ≤ n from by omega), (show TU (tn 122 st) (flo (st 116) (st 117) (st 115 5) n) ((zup s_la 115 6 (-1)) 120) n from (by
              have z := t_la
              rw [show k = n by omega] at z
              exact z)), (show AK (fun j => flM (tn 122 st) (flo (st 116) (st 117) (st 115 5) n) (n - 1 : Int).toNat j) (0 : Int) ((zup s_la 115 6 (-1)) 115 6) ((zup s_la 115 6 (-1)) 115 7) from (AK_0 _ _))⟩ rfl
      · exact lb _ 0 s_la ⟨gI_la, fI_la, (show 0 ≤ (0 : Int) ∧ (0 : Int) ≤ st 122 1 ∧ 0 ≤ k ∧ k < n from by omega), (show TU (tn 122 st) (flo (st 116) (st 117) (st 115 5) n) (s_la 120) k from t_la), (show TUp (tn 122 st) (flo (st 116) (st 117) (st 115 5) n) (s_la 120) k (0 : Int) from (TUp_0 _ _ _ _))⟩ rfl
  have g22 := g_f122_1 hG
  refine yr1_ok (Rt := Q) (wc := (wcL [(226, k_wSBA120), (225, k_wMay), (229, k_wMostA)])) (stp := [2, 10, 89]) hcm hcl [] 95 ?_
  show K (rx_find rx_m228 2) [(3, .inl 0), (0, .inr (.inr (.inl 115))), (1, .inr (.inr (.inl 122))), (2, .inl n)] [] st
  exact la _ 0 st ⟨hG, (fr_rf _ _), (show 0 ≤ (0 : Int) ∧ (0 : Int) ≤ n from by omega), (show TU (tn 122 st) (flo (st 116) (st 117) (st 115 5) n) (st 120) (0 : Int) from (TU_0 _ _ _))⟩ rfl
theorem k_wAskA_m (hTb : aTb zSh rx_tb cl) {D : Nat} (hD : 4 ≤ D) : ∀ as st (Q Q' : zQ), (∀ r st', Q r st' → Q' r st') → k_wAskA 228 as st Q → cl D 228 as st Q' := by
  intro as st Q Q' hQ h
  unfold k_wAskA at h
  split at h
  · obtain ⟨rfl, rfl, h⟩ := h
    exact c_wAskA hTb hD (ct_wAskA_m hQ h)
  · exact h.elim
set_option maxHeartbeats 4000000 in
set_option maxRecDepth 100000 in
theorem c_wFilledA (hTb : aTb zSh rx_tb cl) {D : Nat} (hD : 5 ≤ D) {n : Int} {st : zS} {Q : zQ} (h : ct_wFilledA n st Q) : cl D 38 [.inr (.inr (.inl 0)), .inl n] st Q := by
  obtain ⟨d, rfl⟩ : ∃ d, D = d + 1 := ⟨D - 1, by omega⟩
  refine hTb d 38 (rx_m38, 2, 0, 0, 1) rfl _ _ _ (Nat.le_of_ble_eq_true rfl) (fun K hcl hsf hsl => ?_)
  have hcm : zmo (wcL [(25, k_wCRA), (51, k_wCap)]) (cl d) := (wcL_m (wm_cons (k_wCRA_m hTb (by omega)) (wm_cons (k_wCap_m hTb (by omega)) wm_nil)))
  obtain ⟨hR, hQ⟩ := h
  obtain ⟨hG, dd, tw, sp⟩ := hR
  change st 0 8 = 122 at dd
  change TW (tn 122 st) at tw
  change ∀ i : Nat, (i : Int) < st 115 5 → 0 ≤ st 117 i ∧ st 117 i < 8 at sp
  have hc := fun (hn : 1 ≤ n ∧ n ≤ 20) => flT_c (T := (tn 122 st)) (by show (st 122 1 : Int).toNat ≤ 8; have z : 0 ≤ st 122 1 ∧ st 122 1 ≤ 8 := tw.1.1; omega) (flo (st 116) (st 117) (st 115 5) n) (m := (n - 1 : Int).toNat) (by omega)
  have g1 := g_f0_8 hG
  have g2 := g_f115_5 hG
  have g3 := g_f122_1 hG
  refine dr1_ok (Rt := Q) (wc := (wcL [(25, k_wCRA), (51, k_wCap)])) (stp := []) hcm hcl [(18, 122)] [] 36 ?_
  show ((n < (1 : Int) → Q (some (.inl (-1))) st) ∧ (¬ (n < (1 : Int)) → ((n ≤ (20 : Int) → ((st 0 8 = (122 : Int)) ∧ (115 = 115 ∧ ((122) = 122 ∧ (rq_wCRA n st ∧ (∀ (r4 : Int) (s4 : zS), en_wCRA n st r4 s4 → (rq_wCap r4 s4 ∧ (∀ (r5 : Int), en_wCap r4 s4 r5 → Q (some (.inl r5)) s4)))))))) ∧ (¬ (n ≤ (20 : Int)) → Q (some (.inl (-1))) st))))
  refine ⟨fun h6 => ?_, fun h6 => ?_⟩
  · exact hQ _ _ ⟨hG, (fr_rf _ _), (show ((-1) : Int) = fF (tn 122 st) (st 116) (st 117) (st 115 5) n from (by unfold fF; rw [if_neg (by omega)]))⟩
  · refine ⟨fun h7 => ?_, fun h7 => ?_⟩
    · refine ⟨by omega, ?_⟩
      refine ⟨rfl, rfl, ⟨hG, (show TW (tn 122 st) from tw), (show ∀ i : Nat, (i : Int) < st 115 5 → 0 ≤ st 117 i ∧ st 117 i < 8 from sp), (show 1 ≤ n ∧ n ≤ 20 from by omega)⟩, fun r4 s4 q4 => ?_⟩
      obtain ⟨gs4, fs4, e4, o4, t4⟩ := q4
      change r4 = flT (tn 122 st) (flo (st 116) (st 117) (st 115 5) n) (n - 1 : Int).toNat at e4
      change OPN (st 122 1) (st 116) (st 117) n (st 115 5) (s4 118) at o4
      change TD (tn 122 st) (flo (st 116) (st 117) (st 115 5) n) (n - 1 : Int).toNat (s4 119) (-1) at t4
      refine ⟨(show 0 ≤ r4 from (by have z := hc (by omega); omega)), fun r5 q5 => ?_⟩
      have e5 := q5
      change r5 = cp9 r4 at e5
      exact hQ _ _ ⟨gs4, (fr_tr (fr_rf _ _) fs4 rfl), (show r5 = fF (tn 122 st) (st 116) (st 117) (st 115 5) n from (by unfold fF; rw [if_pos (by omega)]; exact e5.trans (congrArg cp9 e4)))⟩
    · exact hQ _ _ ⟨hG, (fr_rf _ _), (show ((-1) : Int) = fF (tn 122 st) (st 116) (st 117) (st 115 5) n from (by unfold fF; rw [if_neg (by omega)]))⟩
theorem k_wFilledA_m (hTb : aTb zSh rx_tb cl) {D : Nat} (hD : 5 ≤ D) : ∀ as st (Q Q' : zQ), (∀ r st', Q r st' → Q' r st') → k_wFilledA 38 as st Q → cl D 38 as st Q' := by
  intro as st Q Q' hQ h
  unfold k_wFilledA at h
  split at h
  · obtain ⟨rfl, h⟩ := h
    exact c_wFilledA hTb hD (ct_wFilledA_m hQ h)
  · exact h.elim
set_option maxHeartbeats 4000000 in
set_option maxRecDepth 100000 in
theorem c_wFillingA (hTb : aTb zSh rx_tb cl) {D : Nat} (hD : 6 ≤ D) {n k : Int} {st : zS} {Q : zQ} (h : ct_wFillingA n k st Q) : cl D 24 [.inr (.inr (.inl 0)), .inl n, .inl k] st Q := by
  obtain ⟨d, rfl⟩ : ∃ d, D = d + 1 := ⟨D - 1, by omega⟩
  refine hTb d 24 (rx_m24, 3, 0, 0, 1) rfl _ _ _ (Nat.le_of_ble_eq_true rfl) (fun K hcl hsf hsl => ?_)
  have hcm : zmo (wcL [(54, k_wPFA)]) (cl d) := (wcL_m (wm_cons (k_wPFA_m hTb (by omega)) wm_nil))
  obtain ⟨hR, hQ⟩ := h
  obtain ⟨hG, dd, tw, sp⟩ := hR
  change st 0 8 = 122 at dd
  change TW (tn 122 st) at tw
  change ∀ i : Nat, (i : Int) < st 115 5 → 0 ≤ st 117 i ∧ st 117 i < 8 at sp
  have g1 := g_f0_8 hG
  have g2 := g_f115_5 hG
  have g3 := g_f122_1 hG
  refine dr1_ok (Rt := Q) (wc := (wcL [(54, k_wPFA)])) (stp := []) hcm hcl [(27, 122)] [] 41 ?_
  show ((n < (1 : Int) → Q (some (.inl (-1))) st) ∧ (¬ (n < (1 : Int)) → (((20 : Int) < n → Q (some (.inl (-1))) st) ∧ (¬ ((20 : Int) < n) → ((k < (0 : Int) → Q (some (.inl (-1))) st) ∧ (¬ (k < (0 : Int)) → ((k < n → ((st 0 8 = (122 : Int)) ∧ (115 = 115 ∧ ((122) = 122 ∧ (rq_wPFA n k st ∧ (∀ (r4 : Int) (s4 : zS), en_wPFA n k st r4 s4 → Q (some (.inl r4)) s4)))))) ∧ (¬ (k < n) → Q (some (.inl (-1))) st))))))))
  refine ⟨fun h5 => ?_, fun h5 => ?_⟩
  · exact hQ _ _ ⟨hG, (fr_rf _ _), (show ((-1) : Int) = fG (tn 122 st) (st 116) (st 117) (st 115 5) n k from (by unfold fG; rw [if_neg (fun z => by omega)]))⟩
  · refine ⟨fun h6 => ?_, fun h6 => ?_⟩
    · exact hQ _ _ ⟨hG, (fr_rf _ _), (show ((-1) : Int) = fG (tn 122 st) (st 116) (st 117) (st 115 5) n k from (by unfold fG; rw [if_neg (fun z => by omega)]))⟩
    · refine ⟨fun h7 => ?_, fun h7 => ?_⟩
      · exact hQ _ _ ⟨hG, (fr_rf _ _), (show ((-1) : Int) = fG (tn 122 st) (st 116) (st 117) (st 115 5) n k from (by unfold fG; rw [if_neg (fun z => by omega)]))⟩
      · refine ⟨fun h8 => ?_, fun h8 => ?_⟩
        · refine ⟨by omega, ?_⟩
          refine ⟨rfl, rfl, ⟨hG, (show TW (tn 122 st) from tw), (show ∀ i : Nat, (i : Int) < st 115 5 → 0 ≤ st 117 i ∧ st 117 i < 8 from sp), (show 1 ≤ n ∧ n ≤ 20 ∧ 0 ≤ k ∧ k < n from by omega)⟩, fun r4 s4 q4 => ?_⟩
          obtain ⟨gs4, fs4, e4⟩ := q4
          change (flT (tn 122 st) (flo (st 116) (st 117) (st 115 5) n) (n - 1 : Int).toNat = 0 → r4 = -1) ∧ (¬ flT (tn 122 st) (flo (st 116) (st 117) (st 115 5) n) (n - 1 : Int).toNat = 0 → r4 = flG (tn 122 st) (flo (st 116) (st 117) (st 115 5) n) (n - 1 : Int).toNat (k + 1 : Int).toNat) at e4
          exact hQ _ _ ⟨gs4, (fr_tr (fr_rf _ _) fs4 rfl), (show r4 = fG (tn 122 st) (st 116) (st 117) (st 115 5) n k from (by
          unfold fG
          by_cases q : flT (tn 122 st) (flo (st 116) (st 117) (st 115 5) n) (n - 1 : Int).toNat = 0
          · rw [if_neg (fun z => z.2.2 q)]
            exact e4.1 q
          · rw [if_pos ⟨by omega, by omega, q⟩]
            exact e4.2 q))⟩
        · exact hQ _ _ ⟨hG, (fr_rf _ _), (show ((-1) : Int) = fG (tn 122 st) (st 116) (st 117) (st 115 5) n k from (by unfold fG; rw [if_neg (fun z => by omega)]))⟩
theorem k_wFillingA_m (hTb : aTb zSh rx_tb cl) {D : Nat} (hD : 6 ≤ D) : ∀ as st (Q Q' : zQ), (∀ r st', Q r st' → Q' r st') → k_wFillingA 24 as st Q → cl D 24 as st Q' := by
  intro as st Q Q' hQ h
  unfold k_wFillingA at h
  split at h
  · obtain ⟨rfl, h⟩ := h
    exact c_wFillingA hTb hD (ct_wFillingA_m hQ h)
  · exact h.elim
set_option maxHeartbeats 4000000 in
set_option maxRecDepth 100000 in
theorem c_wAskedA (hTb : aTb zSh rx_tb cl) {D : Nat} (hD : 5 ≤ D) {n x : Int} {st : zS} {Q : zQ} (h : ct_wAskedA n x st Q) : cl D 37 [.inr (.inr (.inl 0)), .inl n, .inl x] st Q := by
  obtain ⟨d, rfl⟩ : ∃ d, D = d + 1 := ⟨D - 1, by omega⟩
  refine hTb d 37 (rx_m37, 3, 0, 0, 1) rfl _ _ _ (Nat.le_of_ble_eq_true rfl) (fun K hcl hsf hsl => ?_)
  have hcm : zmo (wcL [(25, k_wCRA), (228, k_wAskA), (51, k_wCap)]) (cl d) := (wcL_m (wm_cons (k_wCRA_m hTb (by omega)) (wm_cons (k_wAskA_m hTb (by omega)) (wm_cons (k_wCap_m hTb (by omega)) wm_nil))))
  obtain ⟨hR, hQ⟩ := h
  obtain ⟨hG, dd, tw, sp⟩ := hR
  change st 0 8 = 122 at dd
  change TW (tn 122 st) at tw
  change ∀ i : Nat, (i : Int) < st 115 5 → 0 ≤ st 117 i ∧ st 117 i < 8 at sp
  have hc := fun (hn : 1 ≤ n ∧ n ≤ 20) => flT_c (T := (tn 122 st)) (by show (st 122 1 : Int).toNat ≤ 8; have z : 0 ≤ st 122 1 ∧ st 122 1 ≤ 8 := tw.1.1; omega) (flo (st 116) (st 117) (st 115 5) n) (m := (n - 1 : Int).toNat) (by omega)
  have g1 := g_f0_8 hG
  have g2 := g_f115_5 hG
  have g3 := g_f122_1 hG
  refine dr1_ok (Rt := Q) (wc := (wcL [(25, k_wCRA), (228, k_wAskA), (51, k_wCap)])) (stp := []) hcm hcl [(27, 122), (46, 122)] [] 61 ?_
  show ((n < (1 : Int) → Q (some (.inl (-1))) st) ∧ (¬ (n < (1 : Int)) → (((20 : Int) < n → Q (some (.inl (-1))) st) ∧ (¬ ((20 : Int) < n) → ((x < (0 : Int) → Q (some (.inl (-1))) st) ∧ (¬ (x < (0 : Int)) → ((x ≤ (1 : Int) → ((st 0 8 = (122 : Int)) ∧ (115 = 115 ∧ ((122) = 122 ∧ (rq_wCRA n st ∧ (∀ (r4 : Int) (s4 : zS), en_wCRA n st r4 s4 → (∀ (w5 : Int), (r4 < 0 ∧ w5 = -1 ∨ r4 = 0 ∧ w5 = 0 ∨ 0 < r4 ∧ w5 = 1) → ((¬ w5 = (0 : Int) → ((s4 0 8 = (122 : Int)) ∧ (115 = 115 ∧ ((122) = 122 ∧ (rq_wAskA n s4 ∧ (∀ (s6 : zS), en_wAskA n s4 s6 → ((¬ x = (0 : Int) → (rq_wCap (s6 115 7) s6 ∧ (∀ (r7 : Int), en_wCap (s6 115 7) s6 r7 → Q (some (.inl r7)) s6))) ∧ (¬ (¬ x = (0 : Int)) → Q (some (.inl (s6 115 6))) s6)))))))) ∧ (¬ (¬ w5 = (0 : Int)) → Q (some (.inl (-1))) s4))))))))) ∧ (¬ (x ≤ (1 : Int)) → Q (some (.inl (-1))) st))))))))
  refine ⟨fun h8 => ?_, fun h8 => ?_⟩
  · exact hQ _ _ ⟨hG, (fr_rf _ _), (show ((-1) : Int) = fA (tn 122 st) (st 116) (st 117) (st 115 5) n x from (by unfold fA; rw [if_neg (fun z => by omega)]))⟩
  · refine ⟨fun h9 => ?_, fun h9 => ?_⟩
    · exact hQ _ _ ⟨hG, (fr_rf _ _), (show ((-1) : Int) = fA (tn 122 st) (st 116) (st 117) (st 115 5) n x from (by unfold fA; rw [if_neg (fun z => by omega)]))⟩
    · refine ⟨fun h10 => ?_, fun h10 => ?_⟩
      · exact hQ _ _ ⟨hG, (fr_rf _ _), (show ((-1) : Int) = fA (tn 122 st) (st 116) (st 117) (st 115 5) n x from (by unfold fA; rw [if_neg (fun z => by omega)]))⟩
      · refine ⟨fun h11 => ?_, fun h11 => ?_⟩
        · refine ⟨by omega, ?_⟩
          refine ⟨rfl, rfl, ⟨hG, (show TW (tn 122 st) from tw), (show ∀ i : Nat, (i : Int) < st 115 5 → 0 ≤ st 117 i ∧ st 117 i < 8 from sp), (show 1 ≤ n ∧ n ≤ 20 from by omega)⟩, fun r4 s4 q4 => ?_⟩
          obtain ⟨gs4, fs4, e4, o4, t4⟩ := q4
          change r4 = flT (tn 122 st) (flo (st 116) (st 117) (st 115 5) n) (n - 1 : Int).toNat at e4
          change OPN (st 122 1) (st 116) (st 117) n (st 115 5) (s4 118) at o4
          change TD (tn 122 st) (flo (st 116) (st 117) (st 115 5) n) (n - 1 : Int).toNat (s4 119) (-1) at t4
          have e_ := e4
          intro w5 hw5
          refine ⟨fun h12 => ?_, fun h12 => ?_⟩
          · have e13 : s4 0 8 = st 0 8 := fs4 0 8 rfl rfl
            refine ⟨by omega, ?_⟩
            refine ⟨rfl, rfl, ⟨gs4, (show TW (tn 122 s4) from (by rw [(tn_fr rfl fs4 : tn 122 s4 = tn 122 st)]; exact tw)), (show 1 ≤ n ∧ n ≤ 20 from by omega), (show OPN (s4 122 1) (s4 116) (s4 117) n (s4 115 5) (s4 118) from (by
          rw [show s4 116 = st 116 from funext (fun i => fs4 116 i rfl rfl), show s4 117 = st 117 from funext (fun i => fs4 117 i rfl rfl), show s4 115 5 = st 115 5 from fs4 115 5 rfl rfl, show s4 122 1 = st 122 1 from fs4 122 1 rfl rfl]
          exact o4)), (show TD (tn 122 s4) (flo (s4 116) (s4 117) (s4 115 5) n) (n - 1 : Int).toNat (s4 119) (-1) from (by
          rw [show s4 116 = st 116 from funext (fun i => fs4 116 i rfl rfl), show s4 117 = st 117 from funext (fun i => fs4 117 i rfl rfl), show s4 115 5 = st 115 5 from fs4 115 5 rfl rfl, (tn_fr rfl fs4 : tn 122 s4 = tn 122 st)]
          exact t4))⟩, fun s6 q6 => ?_⟩
            obtain ⟨gs6, fs6, o6⟩ := q6
            change AK (fun j => flM (tn 122 s4) (flo (s4 116) (s4 117) (s4 115 5) n) (n - 1 : Int).toNat j) n (s6 115 6) (s6 115 7) at o6
            rw [show s4 116 = st 116 from funext (fun i => fs4 116 i rfl rfl), show s4 117 = st 117 from funext (fun i => fs4 117 i rfl rfl), show s4 115 5 = st 115 5 from fs4 115 5 rfl rfl, (tn_fr rfl fs4 : tn 122 s4 = tn 122 st)] at o6
            refine ⟨fun h14 => ?_, fun h14 => ?_⟩
            · have g15 := g_f115_7 gs6
              refine ⟨(show 0 ≤ (s6 115 7) from (by
          have z := o6
          rcases z with ⟨z1, z2⟩ | ⟨z1, z2, z3⟩
          · exfalso; omega
          · rw [z3]
            exact (flM_c (T := (tn 122 st)) (by show (st 122 1 : Int).toNat ≤ 8; have z : 0 ≤ st 122 1 ∧ st 122 1 ≤ 8 := tw.1.1; omega) (flo (st 116) (st 117) (st 115 5) n) (Nat.le_trans (flA_b _ _) (Nat.le_refl _)) (by omega)).1)), fun r7 q7 => ?_⟩
              have e7 := q7
              change r7 = cp9 (s6 115 7) at e7
              exact hQ _ _ ⟨gs6, (fr_tr (fr_tr (fr_rf _ _) fs4 rfl) fs6 rfl), (show r7 = fA (tn 122 st) (st 116) (st 117) (st 115 5) n x from (by
          unfold fA
          rw [if_pos ⟨by omega, by omega, by omega⟩]
          rcases o6 with ⟨z1, z2⟩ | ⟨z1, z2, z3⟩
          · exfalso; omega
          · rw [if_neg (by omega)]
            have z4 := e7
            rw [z3] at z4
            exact z4))⟩
            · have g16 := g_f115_6 gs6
              exact hQ _ _ ⟨gs6, (fr_tr (fr_tr (fr_rf _ _) fs4 rfl) fs6 rfl), (show (s6 115 6) = fA (tn 122 st) (st 116) (st 117) (st 115 5) n x from (by
          unfold fA
          rw [if_pos ⟨by omega, by omega, by omega⟩]
          rcases o6 with ⟨z1, z2⟩ | ⟨z1, z2, z3⟩
          · exfalso; omega
          · rw [if_pos (by omega)]
            exact z2))⟩
          · exact hQ _ _ ⟨gs4, (fr_tr (fr_rf _ _) fs4 rfl), (show ((-1) : Int) = fA (tn 122 st) (st 116) (st 117) (st 115 5) n x from (by unfold fA; rw [if_neg (fun z => z.2.2 (by omega))]))⟩
        · exact hQ _ _ ⟨hG, (fr_rf _ _), (show ((-1) : Int) = fA (tn 122 st) (st 116) (st 117) (st 115 5) n x from (by unfold fA; rw [if_neg (fun z => by omega)]))⟩
theorem k_wAskedA_m (hTb : aTb zSh rx_tb cl) {D : Nat} (hD : 5 ≤ D) : ∀ as st (Q Q' : zQ), (∀ r st', Q r st' → Q' r st') → k_wAskedA 37 as st Q → cl D 37 as st Q' := by
  intro as st Q Q' hQ h
  unfold k_wAskedA at h
  split at h
  · obtain ⟨rfl, h⟩ := h
    exact c_wAskedA hTb hD (ct_wAskedA_m hQ h)
  · exact h.elim
set_option maxHeartbeats 4000000 in
set_option maxRecDepth 100000 in
theorem c_wOpenB (hTb : aTb zSh rx_tb cl) {D : Nat} (hD : 2 ≤ D) {n : Int} {st : zS} {Q : zQ} (h : ct_wOpenB n st Q) : cl D 26 [.inr (.inr (.inl 115)), .inr (.inr (.inl 135)), .inl n] st Q := by
  obtain ⟨d, rfl⟩ : ∃ d, D = d + 1 := ⟨D - 1, by omega⟩
  refine hTb d 26 (rx_m26, 5, 0, 0, 0) rfl _ _ _ (Nat.le_of_ble_eq_true rfl) (fun K hcl hsf hsl => ?_)
  have hcm : zmo (wcL [(23, k_wFill118)]) (cl d) := (wcL_m (wm_cons (k_wFill118_m hTb (by omega)) wm_nil))
  obtain ⟨hR, hQ⟩ := h
  obtain ⟨hG, pp, sp, nn⟩ := hR
  change 0 ≤ st 135 1 ∧ st 135 1 ≤ 8 at pp
  change ∀ i : Nat, (i : Int) < st 115 5 → 0 ≤ st 117 i ∧ st 117 i < 8 at sp
  change 1 ≤ n ∧ n ≤ 20 at nn
  have hsh := zsh (s := st 135 1) pp.1 pp.2
  have hpw := pw256 (s := st 135 1) pp.1 pp.2
  have lp : ∀ (u : Nat) (i : Int) (s_lp : zS), gInv zgt s_lp ∧ aFr m_wOpenB st s_lp ∧ (0 ≤ i ∧ i ≤ st 115 5) ∧ (OPN (st 135 1) (st 116) (st 117) n i (s_lp 118)) → (st 115 5 - i).toNat = u → K (rx_find rx_m26 17) [(3, .inl i), (0, .inr (.inr (.inl 115))), (1, .inr (.inr (.inl 135))), (2, .inl n)] [] s_lp := by
    intro u
    induction u using Nat.strongRecOn with
    | _ u ih =>
      intro i s_lp hi hu
      obtain ⟨gI_lp, fI_lp, i_lp, o_lp⟩ := hi
      have e116 : s_lp 116 (i : Int).toNat = st 116 (i : Int).toNat := fI_lp 116 _ rfl rfl
      have e117 : s_lp 117 (i : Int).toNat = st 117 (i : Int).toNat := fI_lp 117 _ rfl rfl
      have hr0 := g_a116 hG (i : Int).toNat
      have g1 := g_f115_5 hG
      have e2 : s_lp 115 5 = st 115 5 := fI_lp 115 5 rfl rfl
      refine yr1_ok (Rt := Q) (wc := (wcL [(23, k_wFill118)])) (stp := [17]) hcm hcl [] 72 ?_
      show ((s_lp 115 5 ≤ i → Q none s_lp) ∧ (¬ (s_lp 115 5 ≤ i) → ((0 ≤ i ∧ i < 20) ∧ ((n ≤ s_lp 116 (i : Int).toNat → ((0 ≤ (0 : Int) ∧ (0 : Int) < 20) ∧ ((0 ≤ i ∧ i < 20) ∧ ((n ≤ s_lp 116 (i : Int).toNat → ((0 ≤ (0 : Int) ∧ (0 : Int) < 20) ∧ ((-2147483648 ≤ i + 1 ∧ i + 1 ≤ 2147483647) ∧ K (rx_find rx_m26 17) [(3, .inl (i + 1)), (4, .inl 0), (0, .inr (.inr (.inl 115))), (1, .inr (.inr (.inl 135))), (2, .inl n)] [] (zup s_lp 118 (0 : Int).toNat (zd (Nat.land (zi (s_lp 118 (0 : Int).toNat)) (zi 0))))))) ∧ (¬ (n ≤ s_lp 116 (i : Int).toNat) → ((0 ≤ i ∧ i < 20) ∧ ((0 ≤ (0 : Int) ∧ (0 : Int) < 20) ∧ ((-2147483648 ≤ i + 1 ∧ i + 1 ≤ 2147483647) ∧ K (rx_find rx_m26 17) [(3, .inl (i + 1)), (4, .inl 0), (0, .inr (.inr (.inl 115))), (1, .inr (.inr (.inl 135))), (2, .inl n)] [] (zup s_lp 118 (0 : Int).toNat (zd (Nat.land (zi (s_lp 118 (0 : Int).toNat)) (zi (zd ((zi 1 * 2 ^ (zi (s_lp 117 (i : Int).toNat) % 32)) % 4294967296)))))))))))))) ∧ (¬ (n ≤ s_lp 116 (i : Int).toNat) → ((0 ≤ i ∧ i < 20) ∧ ((0 ≤ s_lp 116 (i : Int).toNat ∧ s_lp 116 (i : Int).toNat < 20) ∧ ((0 ≤ i ∧ i < 20) ∧ ((n ≤ s_lp 116 (i : Int).toNat → ((0 ≤ s_lp 116 (i : Int).toNat ∧ s_lp 116 (i : Int).toNat < 20) ∧ ((-2147483648 ≤ i + 1 ∧ i + 1 ≤ 2147483647) ∧ K (rx_find rx_m26 17) [(3, .inl (i + 1)), (4, .inl (s_lp 116 (i : Int).toNat)), (0, .inr (.inr (.inl 115))), (1, .inr (.inr (.inl 135))), (2, .inl n)] [] (zup s_lp 118 (s_lp 116 (i : Int).toNat : Int).toNat (zd (Nat.land (zi (s_lp 118 (s_lp 116 (i : Int).toNat : Int).toNat)) (zi 0))))))) ∧ (¬ (n ≤ s_lp 116 (i : Int).toNat) → ((0 ≤ i ∧ i < 20) ∧ ((0 ≤ s_lp 116 (i : Int).toNat ∧ s_lp 116 (i : Int).toNat < 20) ∧ ((-2147483648 ≤ i + 1 ∧ i + 1 ≤ 2147483647) ∧ K (rx_find rx_m26 17) [(3, .inl (i + 1)), (4, .inl (s_lp 116 (i : Int).toNat)), (0, .inr (.inr (.inl 115))), (1, .inr (.inr (.inl 135))), (2, .inl n)] [] (zup s_lp 118 (s_lp 116 (i : Int).toNat : Int).toNat (zd (Nat.land (zi (s_lp 118 (s_lp 116 (i : Int).toNat : Int).toNat)) (zi (zd ((zi 1 * 2 ^ (zi (s_lp 117 (i : Int).toNat) % 32)) % 4294967296)))))))))))))))))))
      refine ⟨fun h3 => ?_, fun h3 => ?_⟩
      · exact hQ _ ⟨gI_lp, fI_lp, (show OPN (st 135 1) (st 116) (st 117) n (st 115 5) (s_lp 118) from (by rw [show st 115 5 = i by omega]; exact o_lp))⟩
      · have g5 := g_a116 hG (i : Int).toNat
        have e4 : s_lp 116 (i : Int).toNat = st 116 (i : Int).toNat := fI_lp 116 (i : Int).toNat rfl rfl
        refine ⟨by omega, ?_⟩
        refine ⟨fun h6 => ?_, fun h6 => ?_⟩
        · have g7 := g_a118 gI_lp (0 : Int).toNat
          refine ⟨by omega, ?_⟩
          refine ⟨by omega, ?_⟩
          refine ⟨fun h8 => ?_, fun h8 => ?_⟩
          · refine ⟨by omega, ?_⟩
            refine ⟨by omega, ?_⟩
            exact hsl _ _ _ _ _ (sb_cons (.head _) (sb_cons (.tail _ (.tail _ (.head _))) (sb_cons (.tail _ (.tail _ (.tail _ (.head _)))) (sb_cons (.tail _ (.tail _ (.tail _ (.tail _ (.head _))))) sb_nil)))) (ih _ (show (st 115 5 - (i + 1) : Int).toNat < u from by omega) (i + 1) (zup s_lp 118 (0 : Int).toNat (zd (Nat.land (zi (s_lp 118 (0 : Int).toNat)) (zi 0)))) ⟨(gInv_up gI_lp (p_a118 (zdand_ok _ _))), (fr_a fI_lp rfl), (show 0 ≤ (i + 1) ∧ (i + 1) ≤ st 115 5 from by omega), (show OPN (st 135 1) (st 116) (st 117) n (i + 1) ((zup s_lp 118 (0 : Int).toNat (zd (Nat.land (zi (s_lp 118 (0 : Int).toNat)) (zi 0)))) 118) from (by
              have z := OPN_out (v := (zd (Nat.land (zi (s_lp 118 (0 : Int).toNat)) (zi 0)))) o_lp (by omega) (show ¬ st 116 (i : Int).toNat < n by omega) rfl
              exact z))⟩ rfl)
          · have g10 := g_a117 hG (i : Int).toNat
            have e9 : s_lp 117 (i : Int).toNat = st 117 (i : Int).toNat := fI_lp 117 (i : Int).toNat rfl rfl
            refine ⟨by omega, ?_⟩
            refine ⟨by omega, ?_⟩
            refine ⟨by omega, ?_⟩
            exact hsl _ _ _ _ _ (sb_cons (.head _) (sb_cons (.tail _ (.tail _ (.head _))) (sb_cons (.tail _ (.tail _ (.tail _ (.head _)))) (sb_cons (.tail _ (.tail _ (.tail _ (.tail _ (.head _))))) sb_nil)))) (ih _ (show (st 115 5 - (i + 1) : Int).toNat < u from by omega) (i + 1) (zup s_lp 118 (0 : Int).toNat (zd (Nat.land (zi (s_lp 118 (0 : Int).toNat)) (zi (zd ((zi 1 * 2 ^ (zi (s_lp 117 (i : Int).toNat) % 32)) % 4294967296)))))) ⟨(gInv_up gI_lp (p_a118 (zdand_ok _ _))), (fr_a fI_lp rfl), (show 0 ≤ (i + 1) ∧ (i + 1) ≤ st 115 5 from by omega), (show OPN (st 135 1) (st 116) (st 117) n (i + 1) ((zup s_lp 118 (0 : Int).toNat (zd (Nat.land (zi (s_lp 118 (0 : Int).toNat)) (zi (zd ((zi 1 * 2 ^ (zi (s_lp 117 (i : Int).toNat) % 32)) % 4294967296)))))) 118) from (by exfalso; omega))⟩ rfl)
        · refine ⟨by omega, ?_⟩
          have g11 := g_a118 gI_lp (s_lp 116 (i : Int).toNat : Int).toNat
          have e12 : s_lp 118 (s_lp 116 (i : Int).toNat : Int).toNat = s_lp 118 (st 116 (i : Int).toNat : Int).toNat := by rw [e4]
          have g13 := g_a118 gI_lp (st 116 (i : Int).toNat : Int).toNat
          refine ⟨by omega, ?_⟩
          refine ⟨by omega, ?_⟩
          refine ⟨fun h14 => ?_, fun h14 => ?_⟩
          · refine ⟨by omega, ?_⟩
            refine ⟨by omega, ?_⟩
            exact hsl _ _ _ _ _ (sb_cons (.head _) (sb_cons (.tail _ (.tail _ (.head _))) (sb_cons (.tail _ (.tail _ (.tail _ (.head _)))) (sb_cons (.tail _ (.tail _ (.tail _ (.tail _ (.head _))))) sb_nil)))) (ih _ (show (st 115 5 - (i + 1) : Int).toNat < u from by omega) (i + 1) (zup s_lp 118 (s_lp 116 (i : Int).toNat : Int).toNat (zd (Nat.land (zi (s_lp 118 (s_lp 116 (i : Int).toNat : Int).toNat)) (zi 0)))) ⟨(gInv_up gI_lp (p_a118 (zdand_ok _ _))), (fr_a fI_lp rfl), (show 0 ≤ (i + 1) ∧ (i + 1) ≤ st 115 5 from by omega), (show OPN (st 135 1) (st 116) (st 117) n (i + 1) ((zup s_lp 118 (s_lp 116 (i : Int).toNat : Int).toNat (zd (Nat.land (zi (s_lp 118 (s_lp 116 (i : Int).toNat : Int).toNat)) (zi 0)))) 118) from (by exfalso; omega))⟩ rfl)
          · have g16 := g_a117 hG (i : Int).toNat
            have e15 : s_lp 117 (i : Int).toNat = st 117 (i : Int).toNat := fI_lp 117 (i : Int).toNat rfl rfl
            refine ⟨by omega, ?_⟩
            refine ⟨by omega, ?_⟩
            refine ⟨by omega, ?_⟩
            exact hsl _ _ _ _ _ (sb_cons (.head _) (sb_cons (.tail _ (.tail _ (.head _))) (sb_cons (.tail _ (.tail _ (.tail _ (.head _)))) (sb_cons (.tail _ (.tail _ (.tail _ (.tail _ (.head _))))) sb_nil)))) (ih _ (show (st 115 5 - (i + 1) : Int).toNat < u from by omega) (i + 1) (zup s_lp 118 (s_lp 116 (i : Int).toNat : Int).toNat (zd (Nat.land (zi (s_lp 118 (s_lp 116 (i : Int).toNat : Int).toNat)) (zi (zd ((zi 1 * 2 ^ (zi (s_lp 117 (i : Int).toNat) % 32)) % 4294967296)))))) ⟨(gInv_up gI_lp (p_a118 (zdand_ok _ _))), (fr_a fI_lp rfl), (show 0 ≤ (i + 1) ∧ (i + 1) ≤ st 115 5 from by omega), (show OPN (st 135 1) (st 116) (st 117) n (i + 1) ((zup s_lp 118 (s_lp 116 (i : Int).toNat : Int).toNat (zd (Nat.land (zi (s_lp 118 (s_lp 116 (i : Int).toNat : Int).toNat)) (zi (zd ((zi 1 * 2 ^ (zi (s_lp 117 (i : Int).toNat) % 32)) % 4294967296)))))) 118) from (by
              have hs := sp (i : Int).toNat (by omega)
              have hr := g_a116 hG (i : Int).toNat
              have z := OPN_in (x := (s_lp 116 (i : Int).toNat : Int).toNat) (v := (zd (Nat.land (zi (s_lp 118 (s_lp 116 (i : Int).toNat : Int).toNat)) (zi (zd ((zi 1 * 2 ^ (zi (s_lp 117 (i : Int).toNat) % 32)) % 4294967296)))))) pp.2 o_lp (by omega) hr.1 hr.2 hs.1 hs.2 (by omega) (by omega) (by rw [← e117])
              exact z))⟩ rfl)
  have g17 := g_f115_5 hG
  have g18 := g_f135_1 hG
  refine yr1_ok (Rt := Q) (wc := (wcL [(23, k_wFill118)])) (stp := [17]) hcm hcl [] 72 ?_
  show ((-2147483648 ≤ (zd ((zi 1 * 2 ^ (zi (st 135 1) % 32)) % 4294967296)) - 1 ∧ (zd ((zi 1 * 2 ^ (zi (st 135 1) % 32)) % 4294967296)) - 1 ≤ 2147483647) ∧ ((118) = 118 ∧ (rq_wFill118 ((zd ((zi 1 * 2 ^ (zi (st 135 1) % 32)) % 4294967296)) - 1) st ∧ (∀ (s19 : zS), en_wFill118 ((zd ((zi 1 * 2 ^ (zi (st 135 1) % 32)) % 4294967296)) - 1) st s19 → K (rx_find rx_m26 17) [(3, .inl 0), (0, .inr (.inr (.inl 115))), (1, .inr (.inr (.inl 135))), (2, .inl n)] [] s19))))
  refine ⟨by omega, ?_⟩
  refine ⟨rfl, ⟨hG, (show -2147483648 ≤ ((zd ((zi 1 * 2 ^ (zi (st 135 1) % 32)) % 4294967296)) - 1) ∧ ((zd ((zi 1 * 2 ^ (zi (st 135 1) % 32)) % 4294967296)) - 1) ≤ 2147483647 from by omega)⟩, fun s19 q19 => ?_⟩
  obtain ⟨gs19, fs19, z19⟩ := q19
  change ∀ j : Int, 0 ≤ j → j < 20 → s19 118 j.toNat = ((zd ((zi 1 * 2 ^ (zi (st 135 1) % 32)) % 4294967296)) - 1) at z19
  exact lp _ 0 s19 ⟨gs19, (fr_tr (fr_rf _ _) fs19 rfl), (show 0 ≤ (0 : Int) ∧ (0 : Int) ≤ st 115 5 from by omega), (show OPN (st 135 1) (st 116) (st 117) n (0 : Int) (s19 118) from (OPN_0 pp.1 pp.2 (v := zd ((zi 1 * 2 ^ (zi (st 135 1) % 32)) % 4294967296) - 1) rfl z19))⟩ rfl
theorem k_wOpenB_m (hTb : aTb zSh rx_tb cl) {D : Nat} (hD : 2 ≤ D) : ∀ as st (Q Q' : zQ), (∀ r st', Q r st' → Q' r st') → k_wOpenB 26 as st Q → cl D 26 as st Q' := by
  intro as st Q Q' hQ h
  unfold k_wOpenB at h
  split at h
  · obtain ⟨rfl, rfl, h⟩ := h
    exact c_wOpenB hTb hD (ct_wOpenB_m hQ h)
  · exact h.elim
set_option maxHeartbeats 4000000 in
set_option maxRecDepth 100000 in
theorem c_wSBB119 (hTb : aTb zSh rx_tb cl) {D : Nat} (hD : 3 ≤ D) {k p : Int} {st : zS} {Q : zQ} (h : ct_wSBB119 k p st Q) : cl D 226 [.inr (.inr (.inl 135)), .inr (.inr (.inl 119)), .inl k, .inl p] st Q := by
  obtain ⟨d, rfl⟩ : ∃ d, D = d + 1 := ⟨D - 1, by omega⟩
  refine hTb d 226 (rx_m226, 7, 0, 0, 5) rfl _ _ _ (Nat.le_of_ble_eq_true rfl) (fun K hcl hsf hsl => ?_)
  have hcm : zmo (wcL [(286, k_cBetweenB)]) (cl d) := (wcL_m (wm_cons (k_cBetweenB_m hTb (by omega)) wm_nil))
  obtain ⟨hR, hQ⟩ := h
  obtain ⟨hG, tw, q, fb⟩ := hR
  change TW (tn 135 st) at tw
  change 0 ≤ k ∧ k < 20 ∧ 0 ≤ p ∧ p < st 135 1 at q
  change ∀ q : Nat, (q : Int) < st 135 1 → 0 ≤ st 119 ((k * 8) + (q : Int) : Int).toNat ∧ st 119 ((k * 8) + (q : Int) : Int).toNat ≤ 144115188075855872 at fb
  have b8 := tw.1.1
  have b8 : 0 ≤ st 135 1 ∧ st 135 1 ≤ 8 := b8
  have lp : ∀ (u : Nat) (i : Int) (su : Int), (0 ≤ i ∧ i ≤ st 135 1 ∧ 0 ≤ su ∧ su ≤ i * 144115188075855872) ∧ (su = flS (fun q : Nat => if 0 ≤ lnk (tn 135 st) ((p : Int).toNat : Int) (q : Int) then st 119 ((k * 8) + (q : Int) : Int).toNat else 0) (i : Int).toNat) → (st 135 1 - i).toNat = u → K (rx_find rx_m226 6) [(6, .inl i), (4, .inr (.inl su)), (0, .inr (.inr (.inl 135))), (1, .inr (.inr (.inl 119))), (2, .inl k), (3, .inl p)] [] st := by
    intro u
    induction u using Nat.strongRecOn with
    | _ u ih =>
      intro i su hi hu
      obtain ⟨i_lp, v_lp⟩ := hi
      have hfb : i < st 135 1 → 0 ≤ st 119 ((k * 8) + i).toNat ∧ st 119 ((k * 8) + i).toNat ≤ 144115188075855872 := fun z => by
        have y := fb (i : Int).toNat (by omega)
        rw [show (((i : Int).toNat : Nat) : Int) = i by omega] at y
        exact y
      have g1 := g_f135_1 hG
      refine yr1_ok (Rt := Q) (wc := (wcL [(286, k_cBetweenB)])) (stp := [6]) hcm hcl [] 48 ?_
      show ((st 135 1 ≤ i → Q (some (.inr (.inl su))) st) ∧ (¬ (st 135 1 ≤ i) → (135 = 135 ∧ (rq_cBetweenB p i st ∧ (∀ (r2 : Int), en_cBetweenB p i st r2 → ((r2 = ((-1) : Int) → ((-2147483648 ≤ i + 1 ∧ i + 1 ≤ 2147483647) ∧ K (rx_find rx_m226 6) [(6, .inl (i + 1)), (4, .inr (.inl su)), (0, .inr (.inr (.inl 135))), (1, .inr (.inr (.inl 119))), (2, .inl k), (3, .inl p)] [] st)) ∧ (¬ (r2 = ((-1) : Int)) → ((-2147483648 ≤ k * 8 ∧ k * 8 ≤ 2147483647) ∧ ((-2147483648 ≤ (k * 8) + i ∧ (k * 8) + i ≤ 2147483647) ∧ ((0 ≤ (k * 8) + i ∧ (k * 8) + i < 160) ∧ ((-9223372036854775808 ≤ su + (st 119 ((k * 8) + i : Int).toNat) ∧ su + (st 119 ((k * 8) + i : Int).toNat) ≤ 9223372036854775807) ∧ ((-2147483648 ≤ i + 1 ∧ i + 1 ≤ 2147483647) ∧ K (rx_find rx_m226 6) [(6, .inl (i + 1)), (4, .inr (.inl (su + (st 119 ((k * 8) + i : Int).toNat)))), (0, .inr (.inr (.inl 135))), (1, .inr (.inr (.inl 119))), (2, .inl k), (3, .inl p)] [] st))))))))))))
      refine ⟨fun h3 => ?_, fun h3 => ?_⟩
      · exact hQ _ ⟨(show su = flb (tn 135 st) (fun q : Nat => st 119 ((k * 8) + (q : Int) : Int).toNat) (p : Int).toNat from (by
          show su = flS (fun q : Nat => if 0 ≤ lnk (tn 135 st) ((p : Int).toNat : Int) (q : Int) then st 119 ((k * 8) + (q : Int) : Int).toNat else 0) (st 135 1 : Int).toNat
          rw [show st 135 1 = i by omega]
          exact v_lp)), (show 0 ≤ su ∧ su ≤ 1152921504606846976 from by omega)⟩
      · refine ⟨rfl, hG, fun r2 q2 => ?_⟩
        have e2 := q2
        change (0 ≤ p ∧ p < st 135 1 ∧ 0 ≤ i ∧ i < st 135 1 → r2 = st 140 (p * 8 + i : Int).toNat) ∧ (¬ (0 ≤ p ∧ p < st 135 1 ∧ 0 ≤ i ∧ i < st 135 1) → r2 = -1) at e2
        have g4 := g_a140 hG (p * 8 + i : Int).toNat
        refine ⟨fun h5 => ?_, fun h5 => ?_⟩
        · refine ⟨by omega, ?_⟩
          exact ih _ (show (st 135 1 - (i + 1) : Int).toNat < u from by omega) (i + 1) su ⟨(show 0 ≤ (i + 1) ∧ (i + 1) ≤ st 135 1 ∧ 0 ≤ su ∧ su ≤ (i + 1) * 144115188075855872 from by omega), (show su = flS (fun q : Nat => if 0 ≤ lnk (tn 135 st) ((p : Int).toNat : Int) (q : Int) then st 119 ((k * 8) + (q : Int) : Int).toNat else 0) ((i + 1) : Int).toNat from (by
              have hl : lnk (tn 135 st) p i = r2 := by
                show st 140 (8 * p + i : Int).toNat = _
                rw [show 8 * p + i = p * 8 + i by omega]
                omega
              have hw := tw.2.2.1 p i (by omega) (by omega) (by omega) (by omega)
              have hv := flb_s (T := tn 135 st) (f := fun q : Nat => st 119 ((k * 8) + (q : Int) : Int).toNat) (p := p) (i := i) (by omega) (by omega)
              refine Eq.trans ?_ hv.symm
              rw [if_neg (show ¬ 0 ≤ lnk (tn 135 st) p i by omega), ← v_lp]
              omega))⟩ rfl
        · refine ⟨by omega, ?_⟩
          refine ⟨by omega, ?_⟩
          have g6 := g_a119 hG ((k * 8) + i : Int).toNat
          refine ⟨by omega, ?_⟩
          refine ⟨by omega, ?_⟩
          refine ⟨by omega, ?_⟩
          exact ih _ (show (st 135 1 - (i + 1) : Int).toNat < u from by omega) (i + 1) (su + (st 119 ((k * 8) + i : Int).toNat)) ⟨(show 0 ≤ (i + 1) ∧ (i + 1) ≤ st 135 1 ∧ 0 ≤ (su + (st 119 ((k * 8) + i : Int).toNat)) ∧ (su + (st 119 ((k * 8) + i : Int).toNat)) ≤ (i + 1) * 144115188075855872 from by omega), (show (su + (st 119 ((k * 8) + i : Int).toNat)) = flS (fun q : Nat => if 0 ≤ lnk (tn 135 st) ((p : Int).toNat : Int) (q : Int) then st 119 ((k * 8) + (q : Int) : Int).toNat else 0) ((i + 1) : Int).toNat from (by
              have hl : lnk (tn 135 st) p i = r2 := by
                show st 140 (8 * p + i : Int).toNat = _
                rw [show 8 * p + i = p * 8 + i by omega]
                omega
              have hw := tw.2.2.1 p i (by omega) (by omega) (by omega) (by omega)
              have hv := flb_s (T := tn 135 st) (f := fun q : Nat => st 119 ((k * 8) + (q : Int) : Int).toNat) (p := p) (i := i) (by omega) (by omega)
              refine Eq.trans ?_ hv.symm
              rw [if_pos (show 0 ≤ lnk (tn 135 st) p i by omega), ← v_lp]
              show su + _ = su + st 119 ((k * 8) + ((i.toNat : Nat) : Int) : Int).toNat
              rw [show ((i.toNat : Nat) : Int) = i by omega]))⟩ rfl
  have g7 := g_f135_1 hG
  refine yr1_ok (Rt := Q) (wc := (wcL [(286, k_cBetweenB)])) (stp := [6]) hcm hcl [] 48 ?_
  show K (rx_find rx_m226 6) [(6, .inl 0), (4, .inr (.inl 0)), (0, .inr (.inr (.inl 135))), (1, .inr (.inr (.inl 119))), (2, .inl k), (3, .inl p)] [] st
  exact lp _ 0 0 ⟨(show 0 ≤ (0 : Int) ∧ (0 : Int) ≤ st 135 1 ∧ 0 ≤ (0 : Int) ∧ (0 : Int) ≤ (0 : Int) * 144115188075855872 from by omega), (show (0 : Int) = flS (fun q : Nat => if 0 ≤ lnk (tn 135 st) ((p : Int).toNat : Int) (q : Int) then st 119 ((k * 8) + (q : Int) : Int).toNat else 0) ((0 : Int) : Int).toNat from rfl)⟩ rfl
theorem k_wSBB119_m (hTb : aTb zSh rx_tb cl) {D : Nat} (hD : 3 ≤ D) : ∀ as st (Q Q' : zQ), (∀ r st', Q r st' → Q' r st') → k_wSBB119 226 as st Q → cl D 226 as st Q' := by
  intro as st Q Q' hQ h
  unfold k_wSBB119 at h
  split at h
  · obtain ⟨rfl, rfl, h⟩ := h
    exact c_wSBB119 hTb hD (ct_wSBB119_m hQ h)
  · exact h.elim
set_option maxHeartbeats 4000000 in
set_option maxRecDepth 100000 in
theorem c_wSBB120 (hTb : aTb zSh rx_tb cl) {D : Nat} (hD : 3 ≤ D) {k p : Int} {st : zS} {Q : zQ} (h : ct_wSBB120 k p st Q) : cl D 226 [.inr (.inr (.inl 135)), .inr (.inr (.inl 120)), .inl k, .inl p] st Q := by
  obtain ⟨d, rfl⟩ : ∃ d, D = d + 1 := ⟨D - 1, by omega⟩
  refine hTb d 226 (rx_m226, 7, 0, 0, 5) rfl _ _ _ (Nat.le_of_ble_eq_true rfl) (fun K hcl hsf hsl => ?_)
  have hcm : zmo (wcL [(286, k_cBetweenB)]) (cl d) := (wcL_m (wm_cons (k_cBetweenB_m hTb (by omega)) wm_nil))
  obtain ⟨hR, hQ⟩ := h
  obtain ⟨hG, tw, q, fb⟩ := hR
  change TW (tn 135 st) at tw
  change 0 ≤ k ∧ k < 20 ∧ 0 ≤ p ∧ p < st 135 1 at q
  change ∀ q : Nat, (q : Int) < st 135 1 → 0 ≤ st 120 ((k * 8) + (q : Int) : Int).toNat ∧ st 120 ((k * 8) + (q : Int) : Int).toNat ≤ 144115188075855872 at fb
  have b8 := tw.1.1
  have b8 : 0 ≤ st 135 1 ∧ st 135 1 ≤ 8 := b8
  have lp : ∀ (u : Nat) (i : Int) (su : Int), (0 ≤ i ∧ i ≤ st 135 1 ∧ 0 ≤ su ∧ su ≤ i * 144115188075855872) ∧ (su = flS (fun q : Nat => if 0 ≤ lnk (tn 135 st) ((p : Int).toNat : Int) (q : Int) then st 120 ((k * 8) + (q : Int) : Int).toNat else 0) (i : Int).toNat) → (st 135 1 - i).toNat = u → K (rx_find rx_m226 6) [(6, .inl i), (4, .inr (.inl su)), (0, .inr (.inr (.inl 135))), (1, .inr (.inr (.inl 120))), (2, .inl k), (3, .inl p)] [] st := by
    intro u
    induction u using Nat.strongRecOn with
    | _ u ih =>
      intro i su hi hu
      obtain ⟨i_lp, v_lp⟩ := hi
      have hfb : i < st 135 1 → 0 ≤ st 120 ((k * 8) + i).toNat ∧ st 120 ((k * 8) + i).toNat ≤ 144115188075855872 := fun z => by
        have y := fb (i : Int).toNat (by omega)
        rw [show (((i : Int).toNat : Nat) : Int) = i by omega] at y
        exact y
      have g1 := g_f135_1 hG
      refine yr1_ok (Rt := Q) (wc := (wcL [(286, k_cBetweenB)])) (stp := [6]) hcm hcl [] 48 ?_
      show ((st 135 1 ≤ i → Q (some (.inr (.inl su))) st) ∧ (¬ (st 135 1 ≤ i) → (135 = 135 ∧ (rq_cBetweenB p i st ∧ (∀ (r2 : Int), en_cBetweenB p i st r2 → ((r2 = ((-1) : Int) → ((-2147483648 ≤ i + 1 ∧ i + 1 ≤ 2147483647) ∧ K (rx_find rx_m226 6) [(6, .inl (i + 1)), (4, .inr (.inl su)), (0, .inr (.inr (.inl 135))), (1, .inr (.inr (.inl 120))), (2, .inl k), (3, .inl p)] [] st)) ∧ (¬ (r2 = ((-1) : Int)) → ((-2147483648 ≤ k * 8 ∧ k * 8 ≤ 2147483647) ∧ ((-2147483648 ≤ (k * 8) + i ∧ (k * 8) + i ≤ 2147483647) ∧ ((0 ≤ (k * 8) + i ∧ (k * 8) + i < 160) ∧ ((-9223372036854775808 ≤ su + (st 120 ((k * 8) + i : Int).toNat) ∧ su + (st 120 ((k * 8) + i : Int).toNat) ≤ 9223372036854775807) ∧ ((-2147483648 ≤ i + 1 ∧ i + 1 ≤ 2147483647) ∧ K (rx_find rx_m226 6) [(6, .inl (i + 1)), (4, .inr (.inl (su + (st 120 ((k * 8) + i : Int).toNat)))), (0, .inr (.inr (.inl 135))), (1, .inr (.inr (.inl 120))), (2, .inl k), (3, .inl p)] [] st))))))))))))
      refine ⟨fun h3 => ?_, fun h3 => ?_⟩
      · exact hQ _ ⟨(show su = flb (tn 135 st) (fun q : Nat => st 120 ((k * 8) + (q : Int) : Int).toNat) (p : Int).toNat from (by
          show su = flS (fun q : Nat => if 0 ≤ lnk (tn 135 st) ((p : Int).toNat : Int) (q : Int) then st 120 ((k * 8) + (q : Int) : Int).toNat else 0) (st 135 1 : Int).toNat
          rw [show st 135 1 = i by omega]
          exact v_lp)), (show 0 ≤ su ∧ su ≤ 1152921504606846976 from by omega)⟩
      · refine ⟨rfl, hG, fun r2 q2 => ?_⟩
        have e2 := q2
        change (0 ≤ p ∧ p < st 135 1 ∧ 0 ≤ i ∧ i < st 135 1 → r2 = st 140 (p * 8 + i : Int).toNat) ∧ (¬ (0 ≤ p ∧ p < st 135 1 ∧ 0 ≤ i ∧ i < st 135 1) → r2 = -1) at e2
        have g4 := g_a140 hG (p * 8 + i : Int).toNat
        refine ⟨fun h5 => ?_, fun h5 => ?_⟩
        · refine ⟨by omega, ?_⟩
          exact ih _ (show (st 135 1 - (i + 1) : Int).toNat < u from by omega) (i + 1) su ⟨(show 0 ≤ (i + 1) ∧ (i + 1) ≤ st 135 1 ∧ 0 ≤ su ∧ su ≤ (i + 1) * 144115188075855872 from by omega), (show su = flS (fun q : Nat => if 0 ≤ lnk (tn 135 st) ((p : Int).toNat : Int) (q : Int) then st 120 ((k * 8) + (q : Int) : Int).toNat else 0) ((i + 1) : Int).toNat from (by
              have hl : lnk (tn 135 st) p i = r2 := by
                show st 140 (8 * p + i : Int).toNat = _
                rw [show 8 * p + i = p * 8 + i by omega]
                omega
              have hw := tw.2.2.1 p i (by omega) (by omega) (by omega) (by omega)
              have hv := flb_s (T := tn 135 st) (f := fun q : Nat => st 120 ((k * 8) + (q : Int) : Int).toNat) (p := p) (i := i) (by omega) (by omega)
              refine Eq.trans ?_ hv.symm
              rw [if_neg (show ¬ 0 ≤ lnk (tn 135 st) p i by omega), ← v_lp]
              omega))⟩ rfl
        · refine ⟨by omega, ?_⟩
          refine ⟨by omega, ?_⟩
          have g6 := g_a120 hG ((k * 8) + i : Int).toNat
          refine ⟨by omega, ?_⟩
          refine ⟨by omega, ?_⟩
          refine ⟨by omega, ?_⟩
          exact ih _ (show (st 135 1 - (i + 1) : Int).toNat < u from by omega) (i + 1) (su + (st 120 ((k * 8) + i : Int).toNat)) ⟨(show 0 ≤ (i + 1) ∧ (i + 1) ≤ st 135 1 ∧ 0 ≤ (su + (st 120 ((k * 8) + i : Int).toNat)) ∧ (su + (st 120 ((k * 8) + i : Int).toNat)) ≤ (i + 1) * 144115188075855872 from by omega), (show (su + (st 120 ((k * 8) + i : Int).toNat)) = flS (fun q : Nat => if 0 ≤ lnk (tn 135 st) ((p : Int).toNat : Int) (q : Int) then st 120 ((k * 8) + (q : Int) : Int).toNat else 0) ((i + 1) : Int).toNat from (by
              have hl : lnk (tn 135 st) p i = r2 := by
                show st 140 (8 * p + i : Int).toNat = _
                rw [show 8 * p + i = p * 8 + i by omega]
                omega
              have hw := tw.2.2.1 p i (by omega) (by omega) (by omega) (by omega)
              have hv := flb_s (T := tn 135 st) (f := fun q : Nat => st 120 ((k * 8) + (q : Int) : Int).toNat) (p := p) (i := i) (by omega) (by omega)
              refine Eq.trans ?_ hv.symm
              rw [if_pos (show 0 ≤ lnk (tn 135 st) p i by omega), ← v_lp]
              show su + _ = su + st 120 ((k * 8) + ((i.toNat : Nat) : Int) : Int).toNat
              rw [show ((i.toNat : Nat) : Int) = i by omega]))⟩ rfl
  have g7 := g_f135_1 hG
  refine yr1_ok (Rt := Q) (wc := (wcL [(286, k_cBetweenB)])) (stp := [6]) hcm hcl [] 48 ?_
  show K (rx_find rx_m226 6) [(6, .inl 0), (4, .inr (.inl 0)), (0, .inr (.inr (.inl 135))), (1, .inr (.inr (.inl 120))), (2, .inl k), (3, .inl p)] [] st
  exact lp _ 0 0 ⟨(show 0 ≤ (0 : Int) ∧ (0 : Int) ≤ st 135 1 ∧ 0 ≤ (0 : Int) ∧ (0 : Int) ≤ (0 : Int) * 144115188075855872 from by omega), (show (0 : Int) = flS (fun q : Nat => if 0 ≤ lnk (tn 135 st) ((p : Int).toNat : Int) (q : Int) then st 120 ((k * 8) + (q : Int) : Int).toNat else 0) ((0 : Int) : Int).toNat from rfl)⟩ rfl
theorem k_wSBB120_m (hTb : aTb zSh rx_tb cl) {D : Nat} (hD : 3 ≤ D) : ∀ as st (Q Q' : zQ), (∀ r st', Q r st' → Q' r st') → k_wSBB120 226 as st Q → cl D 226 as st Q' := by
  intro as st Q Q' hQ h
  unfold k_wSBB120 at h
  split at h
  · obtain ⟨rfl, rfl, h⟩ := h
    exact c_wSBB120 hTb hD (ct_wSBB120_m hQ h)
  · exact h.elim
set_option maxHeartbeats 4000000 in
set_option maxRecDepth 100000 in
theorem c_wSumB (hTb : aTb zSh rx_tb cl) {D : Nat} (hD : 1 ≤ D) {k : Int} {st : zS} {Q : zQ} (h : ct_wSumB k st Q) : cl D 34 [.inr (.inr (.inl 135)), .inr (.inr (.inl 119)), .inl k] st Q := by
  obtain ⟨d, rfl⟩ : ∃ d, D = d + 1 := ⟨D - 1, by omega⟩
  refine hTb d 34 (rx_m34, 6, 0, 0, 5) rfl _ _ _ (Nat.le_of_ble_eq_true rfl) (fun K hcl hsf hsl => ?_)
  have hcm : zmo (zno) (cl d) := zno_m
  obtain ⟨hR, hQ⟩ := h
  obtain ⟨hG, pp, fb⟩ := hR
  change 0 ≤ st 135 1 ∧ st 135 1 ≤ 8 ∧ k = 0 at pp
  change ∀ q : Nat, (q : Int) < st 135 1 → 0 ≤ st 119 q ∧ st 119 q ≤ 144115188075855872 at fb
  have lp : ∀ (u : Nat) (i : Int) (su : Int), (0 ≤ i ∧ i ≤ st 135 1 ∧ 0 ≤ su ∧ su ≤ i * 144115188075855872) ∧ (su = flS (st 119) (i : Int).toNat) → (st 135 1 - i).toNat = u → K (rx_find rx_m34 5) [(5, .inl i), (3, .inr (.inl su)), (0, .inr (.inr (.inl 135))), (1, .inr (.inr (.inl 119))), (2, .inl k)] [] st := by
    intro u
    induction u using Nat.strongRecOn with
    | _ u ih =>
      intro i su hi hu
      obtain ⟨i_lp, v_lp⟩ := hi
      have hix : st 119 ((k * 8) + i).toNat = st 119 (i : Int).toNat := by rw [show ((k * 8) + i).toNat = (i : Int).toNat by omega]
      have hfb : i < st 135 1 → 0 ≤ st 119 (i : Int).toNat ∧ st 119 (i : Int).toNat ≤ 144115188075855872 := fun z => fb (i : Int).toNat (by omega)
      have g1 := g_f135_1 hG
      refine yr1_ok (Rt := Q) (wc := (zno)) (stp := [5]) hcm hcl [] 42 ?_
      show ((st 135 1 ≤ i → Q (some (.inr (.inl su))) st) ∧ (¬ (st 135 1 ≤ i) → ((-2147483648 ≤ k * 8 ∧ k * 8 ≤ 2147483647) ∧ ((-2147483648 ≤ (k * 8) + i ∧ (k * 8) + i ≤ 2147483647) ∧ ((0 ≤ (k * 8) + i ∧ (k * 8) + i < 160) ∧ ((-9223372036854775808 ≤ su + (st 119 ((k * 8) + i : Int).toNat) ∧ su + (st 119 ((k * 8) + i : Int).toNat) ≤ 9223372036854775807) ∧ ((-2147483648 ≤ i + 1 ∧ i + 1 ≤ 2147483647) ∧ K (rx_find rx_m34 5) [(5, .inl (i + 1)), (3, .inr (.inl (su + (st 119 ((k * 8) + i : Int).toNat)))), (0, .inr (.inr (.inl 135))), (1, .inr (.inr (.inl 119))), (2, .inl k)] [] st)))))))
      refine ⟨fun h2 => ?_, fun h2 => ?_⟩
      · exact hQ _ (show su = flS (st 119) (st 135 1 : Int).toNat from (by
          rw [show st 135 1 = i by omega]
          exact v_lp))
      · refine ⟨by omega, ?_⟩
        refine ⟨by omega, ?_⟩
        have g3 := g_a119 hG ((k * 8) + i : Int).toNat
        refine ⟨by omega, ?_⟩
        refine ⟨by omega, ?_⟩
        refine ⟨by omega, ?_⟩
        exact ih _ (show (st 135 1 - (i + 1) : Int).toNat < u from by omega) (i + 1) (su + (st 119 ((k * 8) + i : Int).toNat)) ⟨(show 0 ≤ (i + 1) ∧ (i + 1) ≤ st 135 1 ∧ 0 ≤ (su + (st 119 ((k * 8) + i : Int).toNat)) ∧ (su + (st 119 ((k * 8) + i : Int).toNat)) ≤ (i + 1) * 144115188075855872 from by omega), (show (su + (st 119 ((k * 8) + i : Int).toNat)) = flS (st 119) ((i + 1) : Int).toNat from (by
              rw [flS_s (by omega), ← v_lp]
              omega))⟩ rfl
  have g4 := g_f135_1 hG
  refine yr1_ok (Rt := Q) (wc := (zno)) (stp := [5]) hcm hcl [] 42 ?_
  show K (rx_find rx_m34 5) [(5, .inl 0), (3, .inr (.inl 0)), (0, .inr (.inr (.inl 135))), (1, .inr (.inr (.inl 119))), (2, .inl k)] [] st
  exact lp _ 0 0 ⟨(show 0 ≤ (0 : Int) ∧ (0 : Int) ≤ st 135 1 ∧ 0 ≤ (0 : Int) ∧ (0 : Int) ≤ (0 : Int) * 144115188075855872 from by omega), (show (0 : Int) = flS (st 119) ((0 : Int) : Int).toNat from rfl)⟩ rfl
theorem k_wSumB_m (hTb : aTb zSh rx_tb cl) {D : Nat} (hD : 1 ≤ D) : ∀ as st (Q Q' : zQ), (∀ r st', Q r st' → Q' r st') → k_wSumB 34 as st Q → cl D 34 as st Q' := by
  intro as st Q Q' hQ h
  unfold k_wSumB at h
  split at h
  · obtain ⟨rfl, rfl, h⟩ := h
    exact c_wSumB hTb hD (ct_wSumB_m hQ h)
  · exact h.elim
set_option maxHeartbeats 4000000 in
set_option maxRecDepth 100000 in
theorem c_wCRB (hTb : aTb zSh rx_tb cl) {D : Nat} (hD : 4 ≤ D) {n : Int} {st : zS} {Q : zQ} (h : ct_wCRB n st Q) : cl D 25 [.inr (.inr (.inl 115)), .inr (.inr (.inl 135)), .inl n] st Q := by
  obtain ⟨d, rfl⟩ : ∃ d, D = d + 1 := ⟨D - 1, by omega⟩
  refine hTb d 25 (rx_m25, 7, 0, 0, 5) rfl _ _ _ (Nat.le_of_ble_eq_true rfl) (fun K hcl hsf hsl => ?_)
  have hcm : zmo (wcL [(26, k_wOpenB), (226, k_wSBB119), (225, k_wMay), (34, k_wSumB)]) (cl d) := (wcL_m (wm_cons (k_wOpenB_m hTb (by omega)) (wm_cons (k_wSBB119_m hTb (by omega)) (wm_cons (k_wMay_m hTb (by omega)) (wm_cons (k_wSumB_m hTb (by omega)) wm_nil)))))
  obtain ⟨hR, hQ⟩ := h
  obtain ⟨hG, tw, sp, nn⟩ := hR
  change TW (tn 135 st) at tw
  change ∀ i : Nat, (i : Int) < st 115 5 → 0 ≤ st 117 i ∧ st 117 i < 8 at sp
  change 1 ≤ n ∧ n ≤ 20 at nn
  have b8 : 0 ≤ st 135 1 ∧ st 135 1 ≤ 8 := tw.1.1
  have hP : ((tn 135 st) 0 1).toNat ≤ 8 := (by omega : (st 135 1).toNat ≤ 8)
  have la : ∀ (u : Nat) (k : Int) (s_la : zS), gInv zgt s_la ∧ aFr m_wCRB st s_la ∧ (-1 ≤ k ∧ k < n) ∧ (OPN (st 135 1) (st 116) (st 117) n (st 115 5) (s_la 118)) ∧ (TD (tn 135 st) (flo (st 116) (st 117) (st 115 5) n) (n - 1 : Int).toNat (s_la 119) k) → (k + 1).toNat = u → K (rx_find rx_m25 10) [(3, .inl k), (0, .inr (.inr (.inl 115))), (1, .inr (.inr (.inl 135))), (2, .inl n)] [] s_la := by
    intro u_la
    induction u_la using Nat.strongRecOn with
    | _ u_la ih_la =>
      intro k s_la hi hu_la
      obtain ⟨gI_la, fI_la, i_la, o_la, t_la⟩ := hi
      have g2 := g_f135_1 hG
      have e1 : s_la 135 1 = st 135 1 := fI_la 135 1 rfl rfl
      have lb : ∀ (u : Nat) (z : Int) (s_lb : zS), gInv zgt s_lb ∧ aFr m_wCRB st s_lb ∧ (0 ≤ z ∧ z ≤ st 135 1 ∧ 0 ≤ k ∧ k < n) ∧ (OPN (st 135 1) (st 116) (st 117) n (st 115 5) (s_lb 118)) ∧ (TD (tn 135 st) (flo (st 116) (st 117) (st 115 5) n) (n - 1 : Int).toNat (s_lb 119) k) ∧ (TDp (tn 135 st) (flo (st 116) (st 117) (st 115 5) n) (n - 1 : Int).toNat (s_lb 119) k z) → (st 135 1 - z).toNat = u → K (rx_find rx_m25 17) [(4, .inl z), (3, .inl k), (0, .inr (.inr (.inl 115))), (1, .inr (.inr (.inl 135))), (2, .inl n)] [] s_lb := by
        intro u_lb
        induction u_lb using Nat.strongRecOn with
        | _ u_lb ih_lb =>
          intro z s_lb hi hu_lb
          obtain ⟨gI_lb, fI_lb, i_lb, o_lb, t_lb, p_lb⟩ := hi
          have g4 := g_f135_1 hG
          have e3 : s_lb 135 1 = st 135 1 := fI_lb 135 1 rfl rfl
          refine yr1_ok (Rt := Q) (wc := (wcL [(26, k_wOpenB), (226, k_wSBB119), (225, k_wMay), (34, k_wSumB)])) (stp := [10, 17]) hcm hcl [] 78 ?_
          show ((s_lb 135 1 ≤ z → ((-2147483648 ≤ k + (-1) ∧ k + (-1) ≤ 2147483647) ∧ K (rx_find rx_m25 10) [(3, .inl (k + (-1))), (4, .inl z), (0, .inr (.inr (.inl 115))), (1, .inr (.inr (.inl 135))), (2, .inl n)] [] s_lb)) ∧ (¬ (s_lb 135 1 ≤ z) → ((-2147483648 ≤ n - 1 ∧ n - 1 ≤ 2147483647) ∧ ((¬ k = n - 1 → ((-2147483648 ≤ k + 1 ∧ k + 1 ≤ 2147483647) ∧ ((135) = 135 ∧ ((119) = 119 ∧ (rq_wSBB119 (k + 1) z s_lb ∧ (∀ (r5 : Int), en_wSBB119 (k + 1) z s_lb r5 → ((-2147483648 ≤ k * 8 ∧ k * 8 ≤ 2147483647) ∧ ((-2147483648 ≤ (k * 8) + z ∧ (k * 8) + z ≤ 2147483647) ∧ (115 = 115 ∧ (rq_wMay k z s_lb ∧ (∀ (r6 : Int), en_wMay k z s_lb r6 → ((r6 = (0 : Int) → ((0 ≤ (k * 8) + z ∧ (k * 8) + z < 160) ∧ ((-2147483648 ≤ z + 1 ∧ z + 1 ≤ 2147483647) ∧ K (rx_find rx_m25 17) [(4, .inl (z + 1)), (5, .inr (.inl r5)), (3, .inl k), (0, .inr (.inr (.inl 115))), (1, .inr (.inr (.inl 135))), (2, .inl n)] [] (zup s_lb 119 ((k * 8) + z : Int).toNat 0)))) ∧ (¬ (r6 = (0 : Int)) → ((0 ≤ (k * 8) + z ∧ (k * 8) + z < 160) ∧ ((-2147483648 ≤ z + 1 ∧ z + 1 ≤ 2147483647) ∧ K (rx_find rx_m25 17) [(4, .inl (z + 1)), (5, .inr (.inl r5)), (3, .inl k), (0, .inr (.inr (.inl 115))), (1, .inr (.inr (.inl 135))), (2, .inl n)] [] (zup s_lb 119 ((k * 8) + z : Int).toNat r5)))))))))))))))) ∧ (¬ (¬ k = n - 1) → ((-2147483648 ≤ k * 8 ∧ k * 8 ≤ 2147483647) ∧ ((-2147483648 ≤ (k * 8) + z ∧ (k * 8) + z ≤ 2147483647) ∧ (115 = 115 ∧ (rq_wMay k z s_lb ∧ (∀ (r7 : Int), en_wMay k z s_lb r7 → ((r7 = (0 : Int) → ((0 ≤ (k * 8) + z ∧ (k * 8) + z < 160) ∧ ((-2147483648 ≤ z + 1 ∧ z + 1 ≤ 2147483647) ∧ K (rx_find rx_m25 17) [(4, .inl (z + 1)), (5, .inr (.inl 1)), (3, .inl k), (0, .inr (.inr (.inl 115))), (1, .inr (.inr (.inl 135))), (2, .inl n)] [] (zup s_lb 119 ((k * 8) + z : Int).toNat 0)))) ∧ (¬ (r7 = (0 : Int)) → ((0 ≤ (k * 8) + z ∧ (k * 8) + z < 160) ∧ ((-2147483648 ≤ z + 1 ∧ z + 1 ≤ 2147483647) ∧ K (rx_find rx_m25 17) [(4, .inl (z + 1)), (5, .inr (.inl 1)), (3, .inl k), (0, .inr (.inr (.inl 115))), (1, .inr (.inr (.inl 135))), (2, .inl n)] [] (zup s_lb 119 ((k * 8) + z : Int).toNat 1)))))))))))))))
          refine ⟨fun h8 => ?_, fun h8 => ?_⟩
          · refine ⟨by omega, ?_⟩
            exact hsl _ _ _ _ _ (sb_cons (.head _) (sb_cons (.tail _ (.tail _ (.head _))) (sb_cons (.tail _ (.tail _ (.tail _ (.head _)))) (sb_cons (.tail _ (.tail _ (.tail _ (.tail _ (.head _))))) sb_nil)))) (ih_la _ (show ((k + (-1)) + 1 : Int).toNat < u_la from by omega) (k + (-1)) s_lb ⟨gI_lb, fI_lb, (show -1 ≤ (k + (-1)) ∧ (k + (-1)) < n from by omega), (show OPN (st 135 1) (st 116) (st 117) n (st 115 5) (s_lb 118) from o_lb), (show TD (tn 135 st) (flo (st 116) (st 117) (st 115 5) n) (n - 1 : Int).toNat (s_lb 119) (k + (-1)) from (TD_row t_lb p_lb (by omega) (show (tn 135 st) 0 1 ≤ z from (show st 135 1 ≤ z by omega))))⟩ rfl)
          · refine ⟨by omega, ?_⟩
            refine ⟨fun h9 => ?_, fun h9 => ?_⟩
            · refine ⟨by omega, ?_⟩
              refine ⟨rfl, rfl, ⟨gI_lb, (show TW (tn 135 s_lb) from (by rw [(tn_fr rfl (show aFr m_wCRB st s_lb from fI_lb))]; exact tw)), (show 0 ≤ (k + 1) ∧ (k + 1) < 20 ∧ 0 ≤ z ∧ z < s_lb 135 1 from by omega), (show ∀ q : Nat, (q : Int) < s_lb 135 1 → 0 ≤ s_lb 119 (((k + 1) * 8) + (q : Int) : Int).toNat ∧ s_lb 119 (((k + 1) * 8) + (q : Int) : Int).toNat ≤ 144115188075855872 from (by
              intro q hq
              have z := TD_b hP (show (n - 1 : Int).toNat ≤ 19 by omega) t_lb (j := k.toNat + 1) (by omega) (by omega) (q := q) (show (q : Int) < st 135 1 by omega)
              rw [show 8 * (k.toNat + 1) + q = (((k + 1) * 8) + (q : Int) : Int).toNat by omega] at z
              exact z))⟩, fun r5 q5 => ?_⟩
              obtain ⟨e5, b5⟩ := q5
              change r5 = flb (tn 135 s_lb) (fun q : Nat => s_lb 119 (((k + 1) * 8) + (q : Int) : Int).toNat) (z : Int).toNat at e5
              change 0 ≤ r5 ∧ r5 ≤ 1152921504606846976 at b5
              refine ⟨by omega, ?_⟩
              refine ⟨by omega, ?_⟩
              refine ⟨rfl, ⟨gI_lb, (show 0 ≤ k ∧ k < 20 ∧ 0 ≤ z ∧ z < 8 from by omega)⟩, fun r6 q6 => ?_⟩
              have e6 := q6
              change r6 = hb (s_lb 118 (k : Int).toNat) z at e6
              refine ⟨fun h10 => ?_, fun h10 => ?_⟩
              · refine ⟨by omega, ?_⟩
                refine ⟨by omega, ?_⟩
                exact hsl _ _ _ _ _ (sb_cons (.head _) (sb_cons (.tail _ (.tail _ (.head _))) (sb_cons (.tail _ (.tail _ (.tail _ (.head _)))) (sb_cons (.tail _ (.tail _ (.tail _ (.tail _ (.head _))))) (sb_cons (.tail _ (.tail _ (.tail _ (.tail _ (.tail _ (.head _)))))) sb_nil))))) (ih_lb _ (show (st 135 1 - (z + 1) : Int).toNat < u_lb from by omega) (z + 1) (zup s_lb 119 ((k * 8) + z : Int).toNat 0) ⟨(gInv_up gI_lb (p_a119 (by omega))), (fr_a fI_lb rfl), (show 0 ≤ (z + 1) ∧ (z + 1) ≤ st 135 1 ∧ 0 ≤ k ∧ k < n from by omega), (show OPN (st 135 1) (st 116) (st 117) n (st 115 5) ((zup s_lb 119 ((k * 8) + z : Int).toNat 0) 118) from o_lb), (show TD (tn 135 st) (flo (st 116) (st 117) (st 115 5) n) (n - 1 : Int).toNat ((zup s_lb 119 ((k * 8) + z : Int).toNat 0) 119) k from (TD_up (show (tn 135 st) 0 1 ≤ 8 from b8.2) t_lb (z := z) (by omega) (by omega) (by omega) (x := ((k * 8) + z : Int).toNat) (by omega))), (show TDp (tn 135 st) (flo (st 116) (st 117) (st 115 5) n) (n - 1 : Int).toNat ((zup s_lb 119 ((k * 8) + z : Int).toNat 0) 119) k (z + 1) from (TDp_up p_lb (by omega) (by omega) (x := ((k * 8) + z : Int).toNat) (by omega) (by
              have hO := OPN_o o_lb (k := k) (p := z) (by omega) (by omega) (by omega) (by omega)
              have h01 := hb_01 (s_lb 118 (k : Int).toNat) z
              by_cases hq : k.toNat = (n - 1 : Int).toNat
              · rw [TD_v1 hq, if_neg (by omega)]
              · rw [TD_v2 (by omega) (by omega) t_lb (g := (fun q : Nat => s_lb 119 (((k + 1) * 8) + (q : Int) : Int).toNat)) (fun q hq => by show s_lb 119 _ = _; rw [show (((k + 1) * 8) + (q : Int) : Int).toNat = 8 * (k.toNat + 1) + q by omega]), if_neg (by omega)])))⟩ rfl)
              · refine ⟨by omega, ?_⟩
                refine ⟨by omega, ?_⟩
                exact hsl _ _ _ _ _ (sb_cons (.head _) (sb_cons (.tail _ (.tail _ (.head _))) (sb_cons (.tail _ (.tail _ (.tail _ (.head _)))) (sb_cons (.tail _ (.tail _ (.tail _ (.tail _ (.head _))))) (sb_cons (.tail _ (.tail _ (.tail _ (.tail _ (.tail _ (.head _)))))) sb_nil))))) (ih_lb _ (show (st 135 1 - (z + 1) : Int).toNat < u_lb from by omega) (z + 1) (zup s_lb 119 ((k * 8) + z : Int).toNat r5) ⟨(gInv_up gI_lb (p_a119 (by omega))), (fr_a fI_lb rfl), (show 0 ≤ (z + 1) ∧ (z + 1) ≤ st 135 1 ∧ 0 ≤ k ∧ k < n from by omega), (show OPN (st 135 1) (st 116) (st 117) n (st 115 5) ((zup s_lb 119 ((k * 8) + z : Int).toNat r5) 118) from o_lb), (show TD (tn 135 st) (flo (st 116) (st 117) (st 115 5) n) (n - 1 : Int).toNat ((zup s_lb 119 ((k * 8) + z : Int).toNat r5) 119) k from (TD_up (show (tn 135 st) 0 1 ≤ 8 from b8.2) t_lb (z := z) (by omega) (by omega) (by omega) (x := ((k * 8) + z : Int).toNat) (by omega))), (show TDp (tn 135 st) (flo (st 116) (st 117) (st 115 5) n) (n - 1 : Int).toNat ((zup s_lb 119 ((k * 8) + z : Int).toNat r5) 119) k (z + 1) from (TDp_up p_lb (by omega) (by omega) (x := ((k * 8) + z : Int).toNat) (by omega) (by
              have hO := OPN_o o_lb (k := k) (p := z) (by omega) (by omega) (by omega) (by omega)
              have h01 := hb_01 (s_lb 118 (k : Int).toNat) z
              rw [TD_v2 (by omega) (by omega) t_lb (g := (fun q : Nat => s_lb 119 (((k + 1) * 8) + (q : Int) : Int).toNat)) (fun q hq => by show s_lb 119 _ = _; rw [show (((k + 1) * 8) + (q : Int) : Int).toNat = 8 * (k.toNat + 1) + q by omega]), if_pos (by omega), e5, (tn_fr rfl (show aFr m_wCRB st s_lb from fI_lb))])))⟩ rfl)
            · refine ⟨by omega, ?_⟩
              refine ⟨by omega, ?_⟩
              refine ⟨rfl, ⟨gI_lb, (show 0 ≤ k ∧ k < 20 ∧ 0 ≤ z ∧ z < 8 from by omega)⟩, fun r7 q7 => ?_⟩
              have e7 := q7
              change r7 = hb (s_lb 118 (k : Int).toNat) z at e7
              refine ⟨fun h11 => ?_, fun h11 => ?_⟩
              · refine ⟨by omega, ?_⟩
                refine ⟨by omega, ?_⟩
                exact hsl _ _ _ _ _ (sb_cons (.head _) (sb_cons (.tail _ (.tail _ (.head _))) (sb_cons (.tail _ (.tail _ (.tail _ (.head _)))) (sb_cons (.tail _ (.tail _ (.tail _ (.tail _ (.head _))))) (sb_cons (.tail _ (.tail _ (.tail _ (.tail _ (.tail _ (.head _)))))) sb_nil))))) (ih_lb _ (show (st 135 1 - (z + 1) : Int).toNat < u_lb from by omega) (z + 1) (zup s_lb 119 ((k * 8) + z : Int).toNat 0) ⟨(gInv_up gI_lb (p_a119 (by omega))), (fr_a fI_lb rfl), (show 0 ≤ (z + 1) ∧ (z + 1) ≤ st 135 1 ∧ 0 ≤ k ∧ k < n from by omega), (show OPN (st 135 1) (st 116) (st 117) n (st 115 5) ((zup s_lb 119 ((k * 8) + z : Int).toNat 0) 118) from o_lb), (show TD (tn 135 st) (flo (st 116) (st 117) (st 115 5) n) (n - 1 : Int).toNat ((zup s_lb 119 ((k * 8) + z : Int).toNat 0) 119) k from (TD_up (show (tn 135 st) 0 1 ≤ 8 from b8.2) t_lb (z := z) (by omega) (by omega) (by omega) (x := ((k * 8) + z : Int).toNat) (by omega))), (show TDp (tn 135 st) (flo (st 116) (st 117) (st 115 5) n) (n - 1 : Int).toNat ((zup s_lb 119 ((k * 8) + z : Int).toNat 0) 119) k (z + 1) from (TDp_up p_lb (by omega) (by omega) (x := ((k * 8) + z : Int).toNat) (by omega) (by
              have hO := OPN_o o_lb (k := k) (p := z) (by omega) (by omega) (by omega) (by omega)
              have h01 := hb_01 (s_lb 118 (k : Int).toNat) z
              by_cases hq : k.toNat = (n - 1 : Int).toNat
              · rw [TD_v1 hq, if_neg (by omega)]
              · rw [TD_v2 (by omega) (by omega) t_lb (g := (fun q : Nat => s_lb 119 (((k + 1) * 8) + (q : Int) : Int).toNat)) (fun q hq => by show s_lb 119 _ = _; rw [show (((k + 1) * 8) + (q : Int) : Int).toNat = 8 * (k.toNat + 1) + q by omega]), if_neg (by omega)])))⟩ rfl)
              · refine ⟨by omega, ?_⟩
                refine ⟨by omega, ?_⟩
                exact hsl _ _ _ _ _ (sb_cons (.head _) (sb_cons (.tail _ (.tail _ (.head _))) (sb_cons (.tail _ (.tail _ (.tail _ (.head _)))) (sb_cons (.tail _ (.tail _ (.tail _ (.tail _ (.head _))))) (sb_cons (.tail _ (.tail _ (.tail _ (.tail _ (.tail _ (.head _)))))) sb_nil))))) (ih_lb _ (show (st 135 1 - (z + 1) : Int).toNat < u_lb from by omega) (z + 1) (zup s_lb 119 ((k * 8) + z : Int).toNat 1) ⟨(gInv_up gI_lb (p_a119 (by omega))), (fr_a fI_lb rfl), (show 0 ≤ (z + 1) ∧ (z + 1) ≤ st 135 1 ∧ 0 ≤ k ∧ k < n from by omega), (show OPN (st 135 1) (st 116) (st 117) n (st 115 5) ((zup s_lb 119 ((k * 8) + z : Int).toNat 1) 118) from o_lb), (show TD (tn 135 st) (flo (st 116) (st 117) (st 115 5) n) (n - 1 : Int).toNat ((zup s_lb 119 ((k * 8) + z : Int).toNat 1) 119) k from (TD_up (show (tn 135 st) 0 1 ≤ 8 from b8.2) t_lb (z := z) (by omega) (by omega) (by omega) (x := ((k * 8) + z : Int).toNat) (by omega))), (show TDp (tn 135 st) (flo (st 116) (st 117) (st 115 5) n) (n - 1 : Int).toNat ((zup s_lb 119 ((k * 8) + z : Int).toNat 1) 119) k (z + 1) from (TDp_up p_lb (by omega) (by omega) (x := ((k * 8) + z : Int).toNat) (by omega) (by
              have hO := OPN_o o_lb (k := k) (p := z) (by omega) (by omega) (by omega) (by omega)
              have h01 := hb_01 (s_lb 118 (k : Int).toNat) z
              rw [TD_v1 (by omega), if_pos (by omega)])))⟩ rfl)
      refine yr1_ok (Rt := Q) (wc := (wcL [(26, k_wOpenB), (226, k_wSBB119), (225, k_wMay), (34, k_wSumB)])) (stp := [10, 17]) hcm hcl [] 78 ?_
      show ((k < (0 : Int) → ((135) = 135 ∧ ((119) = 119 ∧ (rq_wSumB (0) s_la ∧ (∀ (r12 : Int), en_wSumB (0) s_la r12 → Q (some (.inr (.inl r12))) s_la))))) ∧ (¬ (k < (0 : Int)) → K (rx_find rx_m25 17) [(4, .inl 0), (3, .inl k), (0, .inr (.inr (.inl 115))), (1, .inr (.inr (.inl 135))), (2, .inl n)] [] s_la))
      refine ⟨fun h13 => ?_, fun h13 => ?_⟩
      · refine ⟨rfl, rfl, ⟨gI_la, (show 0 ≤ s_la 135 1 ∧ s_la 135 1 ≤ 8 ∧ (0) = 0 from by omega), (show ∀ q : Nat, (q : Int) < s_la 135 1 → 0 ≤ s_la 119 q ∧ s_la 119 q ≤ 144115188075855872 from (by
              intro q hq
              have z := TD_b hP (show (n - 1 : Int).toNat ≤ 19 by omega) t_la (j := 0) (by omega) (by omega) (q := q) (show (q : Int) < st 135 1 by omega)
              rw [show 8 * 0 + q = q by omega] at z
              exact z))⟩, fun r12 q12 => ?_⟩
        have e12 := q12
        change r12 = flS (s_la 119) (s_la 135 1 : Int).toNat at e12
        exact hQ _ _ ⟨gI_la, fI_la, (show r12 = flT (tn 135 st) (flo (st 116) (st 117) (st 115 5) n) (n - 1 : Int).toNat from (by
          rw [e12, show s_la 135 1 = st 135 1 from fI_la 135 1 rfl rfl]
          exact TT_sum (T := (tn 135 st)) (by rw [show (-1 : Int) = k by omega]; exact t_la) (fun q _ => rfl))), (show OPN (st 135 1) (st 116) (st 117) n (st 115 5) (s_la 118) from o_la), (show TD (tn 135 st) (flo (st 116) (st 117) (st 115 5) n) (n - 1 : Int).toNat (s_la 119) (-1) from (by rw [show (-1 : Int) = k by omega]; exact t_la))⟩
      · exact lb _ 0 s_la ⟨gI_la, fI_la, (show 0 ≤ (0 : Int) ∧ (0 : Int) ≤ st 135 1 ∧ 0 ≤ k ∧ k < n from by omega), (show OPN (st 135 1) (st 116) (st 117) n (st 115 5) (s_la 118) from o_la), (show TD (tn 135 st) (flo (st 116) (st 117) (st 115 5) n) (n - 1 : Int).toNat (s_la 119) k from t_la), (show TDp (tn 135 st) (flo (st 116) (st 117) (st 115 5) n) (n - 1 : Int).toNat (s_la 119) k (0 : Int) from (TDp_0 _ _ _ _ _))⟩ rfl
  have g14 := g_f115_5 hG
  have g15 := g_f135_1 hG
  refine yr1_ok (Rt := Q) (wc := (wcL [(26, k_wOpenB), (226, k_wSBB119), (225, k_wMay), (34, k_wSumB)])) (stp := [10, 17]) hcm hcl [] 78 ?_
  show (115 = 115 ∧ ((135) = 135 ∧ (rq_wOpenB n st ∧ (∀ (s16 : zS), en_wOpenB n st s16 → ((-2147483648 ≤ n - 1 ∧ n - 1 ≤ 2147483647) ∧ K (rx_find rx_m25 10) [(3, .inl (n - 1)), (0, .inr (.inr (.inl 115))), (1, .inr (.inr (.inl 135))), (2, .inl n)] [] s16)))))
  refine ⟨rfl, rfl, ⟨hG, (show 0 ≤ st 135 1 ∧ st 135 1 ≤ 8 from by omega), (show ∀ i : Nat, (i : Int) < st 115 5 → 0 ≤ st 117 i ∧ st 117 i < 8 from sp), (show 1 ≤ n ∧ n ≤ 20 from by omega)⟩, fun s16 q16 => ?_⟩
  obtain ⟨gs16, fs16, o16⟩ := q16
  change OPN (st 135 1) (st 116) (st 117) n (st 115 5) (s16 118) at o16
  refine ⟨by omega, ?_⟩
  exact la _ (n - 1) s16 ⟨gs16, (fr_tr (fr_rf _ _) fs16 rfl), (show -1 ≤ (n - 1) ∧ (n - 1) < n from by omega), (show OPN (st 135 1) (st 116) (st 117) n (st 115 5) (s16 118) from o16), (show TD (tn 135 st) (flo (st 116) (st 117) (st 115 5) n) (n - 1 : Int).toNat (s16 119) (n - 1) from (TD_0 _ _ _ _ (by omega)))⟩ rfl
theorem k_wCRB_m (hTb : aTb zSh rx_tb cl) {D : Nat} (hD : 4 ≤ D) : ∀ as st (Q Q' : zQ), (∀ r st', Q r st' → Q' r st') → k_wCRB 25 as st Q → cl D 25 as st Q' := by
  intro as st Q Q' hQ h
  unfold k_wCRB at h
  split at h
  · obtain ⟨rfl, rfl, h⟩ := h
    exact c_wCRB hTb hD (ct_wCRB_m hQ h)
  · exact h.elim
set_option maxHeartbeats 4000000 in
set_option maxRecDepth 100000 in
theorem c_wLstB (hTb : aTb zSh rx_tb cl) {D : Nat} (hD : 3 ≤ D) {k a : Int} {st : zS} {Q : zQ} (h : ct_wLstB k a st Q) : cl D 227 [.inr (.inr (.inl 115)), .inr (.inr (.inl 135)), .inl k, .inl a] st Q := by
  obtain ⟨d, rfl⟩ : ∃ d, D = d + 1 := ⟨D - 1, by omega⟩
  refine hTb d 227 (rx_m227, 6, 0, 0, 1) rfl _ _ _ (Nat.le_of_ble_eq_true rfl) (fun K hcl hsf hsl => ?_)
  have hcm : zmo (wcL [(286, k_cBetweenB)]) (cl d) := (wcL_m (wm_cons (k_cBetweenB_m hTb (by omega)) wm_nil))
  obtain ⟨hR, hQ⟩ := h
  obtain ⟨hG, tw, q⟩ := hR
  change TW (tn 135 st) at tw
  change 0 ≤ k ∧ k < 20 ∧ ((k = 0 ∧ a = -1) ∨ (0 < k ∧ 0 ≤ a ∧ a < st 135 1)) at q
  have b8 : 0 ≤ st 135 1 ∧ st 135 1 ≤ 8 := tw.1.1
  have lp : ∀ (u : Nat) (i : Int), (0 ≤ i ∧ i ≤ st 135 1) ∧ (∀ q : Int, 0 ≤ q → q < i → ¬ ((a = -1 ∨ 0 ≤ lnk (tn 135 st) a q) ∧ 0 < st 119 ((k * 8) + ((q : Int).toNat : Int) : Int).toNat)) → (st 135 1 - i).toNat = u → K (rx_find rx_m227 3) [(4, .inl i), (0, .inr (.inr (.inl 115))), (1, .inr (.inr (.inl 135))), (2, .inl k), (3, .inl a)] [] st := by
    intro u
    induction u using Nat.strongRecOn with
    | _ u ih =>
      intro i hi hu
      obtain ⟨i_lp, n_lp⟩ := hi
      have g1 := g_f135_1 hG
      refine yr1_ok (Rt := Q) (wc := (wcL [(286, k_cBetweenB)])) (stp := [3]) hcm hcl [] 57 ?_
      show ((st 135 1 ≤ i → Q (some (.inl (-1))) st) ∧ (¬ (st 135 1 ≤ i) → ((k = (0 : Int) → (((1 : Int) = (0 : Int) → _) ∧ (¬ ((1 : Int) = (0 : Int)) → ((-2147483648 ≤ k * 8 ∧ k * 8 ≤ 2147483647) ∧ ((-2147483648 ≤ (k * 8) + i ∧ (k * 8) + i ≤ 2147483647) ∧ ((0 ≤ (k * 8) + i ∧ (k * 8) + i < 160) ∧ (∀ (w2 : Int), (st 119 ((k * 8) + i : Int).toNat < 0 ∧ w2 = -1 ∨ st 119 ((k * 8) + i : Int).toNat = 0 ∧ w2 = 0 ∨ 0 < st 119 ((k * 8) + i : Int).toNat ∧ w2 = 1) → ((w2 ≤ (0 : Int) → ((-2147483648 ≤ i + 1 ∧ i + 1 ≤ 2147483647) ∧ K (rx_find rx_m227 3) [(4, .inl (i + 1)), (5, .inl 1), (0, .inr (.inr (.inl 115))), (1, .inr (.inr (.inl 135))), (2, .inl k), (3, .inl a)] [] st)) ∧ (¬ (w2 ≤ (0 : Int)) → Q (some (.inl i)) st))))))))) ∧ (¬ (k = (0 : Int)) → (135 = 135 ∧ (rq_cBetweenB a i st ∧ (∀ (r3 : Int), en_cBetweenB a i st r3 → ((r3 = ((-1) : Int) → (((0 : Int) = (0 : Int) → ((-2147483648 ≤ i + 1 ∧ i + 1 ≤ 2147483647) ∧ K (rx_find rx_m227 3) [(4, .inl (i + 1)), (5, .inl 0), (0, .inr (.inr (.inl 115))), (1, .inr (.inr (.inl 135))), (2, .inl k), (3, .inl a)] [] st)) ∧ (¬ ((0 : Int) = (0 : Int)) → _))) ∧ (¬ (r3 = ((-1) : Int)) → (((1 : Int) = (0 : Int) → _) ∧ (¬ ((1 : Int) = (0 : Int)) → ((-2147483648 ≤ k * 8 ∧ k * 8 ≤ 2147483647) ∧ ((-2147483648 ≤ (k * 8) + i ∧ (k * 8) + i ≤ 2147483647) ∧ ((0 ≤ (k * 8) + i ∧ (k * 8) + i < 160) ∧ (∀ (w4 : Int), (st 119 ((k * 8) + i : Int).toNat < 0 ∧ w4 = -1 ∨ st 119 ((k * 8) + i : Int).toNat = 0 ∧ w4 = 0 ∨ 0 < st 119 ((k * 8) + i : Int).toNat ∧ w4 = 1) → ((w4 ≤ (0 : Int) → ((-2147483648 ≤ i + 1 ∧ i + 1 ≤ 2147483647) ∧ K (rx_find rx_m227 3) [(4, .inl (i + 1)), (5, .inl 1), (0, .inr (.inr (.inl 115))), (1, .inr (.inr (.inl 135))), (2, .inl k), (3, .inl a)] [] st)) ∧ (¬ (w4 ≤ (0 : Int)) → Q (some (.inl i)) st)))))))))))))))))
      refine ⟨fun h5 => ?_, fun h5 => ?_⟩
      · exact hQ _ (show FN (tn 135 st) (fun q : Nat => st 119 ((k * 8) + (q : Int) : Int).toNat) a ((-1) : Int) ∨ (((-1) : Int) = -1 ∧ ∀ q : Int, 0 ≤ q → q < st 135 1 → ¬ ((a = -1 ∨ 0 ≤ lnk (tn 135 st) a q) ∧ 0 < (fun q : Nat => st 119 ((k * 8) + (q : Int) : Int).toNat) q.toNat)) from (Or.inr ⟨rfl, fun q z1 z2 => n_lp q z1 (by omega)⟩))
      · refine ⟨fun h6 => ?_, fun h6 => ?_⟩
        · refine ⟨fun h7 => absurd h7 (by decide), fun h7 => ?_⟩
          refine ⟨by omega, ?_⟩
          refine ⟨by omega, ?_⟩
          have g8 := g_a119 hG ((k * 8) + i : Int).toNat
          refine ⟨by omega, ?_⟩
          intro w2 hw2
          refine ⟨fun h9 => ?_, fun h9 => ?_⟩
          · refine ⟨by omega, ?_⟩
            exact hsl _ _ _ _ _ (sb_cons (.head _) (sb_cons (.tail _ (.tail _ (.head _))) (sb_cons (.tail _ (.tail _ (.tail _ (.head _)))) (sb_cons (.tail _ (.tail _ (.tail _ (.tail _ (.head _))))) (sb_cons (.tail _ (.tail _ (.tail _ (.tail _ (.tail _ (.head _)))))) sb_nil))))) (ih _ (show (st 135 1 - (i + 1) : Int).toNat < u from by omega) (i + 1) ⟨(show 0 ≤ (i + 1) ∧ (i + 1) ≤ st 135 1 from by omega), (show ∀ q : Int, 0 ≤ q → q < (i + 1) → ¬ ((a = -1 ∨ 0 ≤ lnk (tn 135 st) a q) ∧ 0 < st 119 ((k * 8) + ((q : Int).toNat : Int) : Int).toNat) from (by
              intro q z1 z2 z3
              by_cases z4 : q = i
              · rw [z4] at z3
                have hl : 0 < k → lnk (tn 135 st) a i = st 140 ((a * 8) + i : Int).toNat := fun _ => by
                  show st 140 (8 * a + i : Int).toNat = _
                  rw [show 8 * a + i = a * 8 + i by omega]
                have hw : 0 < k → _ := fun _ => tw.2.2.1 a i (by omega) (by omega) (by omega) (by omega)
                have hix : ((k * 8) + ((i.toNat : Nat) : Int) : Int).toNat = ((k * 8) + i : Int).toNat := by omega
                rw [hix] at z3
                omega
              · exact n_lp q z1 (by omega) z3))⟩ rfl)
          · exact hQ _ (show FN (tn 135 st) (fun q : Nat => st 119 ((k * 8) + (q : Int) : Int).toNat) a i ∨ (i = -1 ∧ ∀ q : Int, 0 ≤ q → q < st 135 1 → ¬ ((a = -1 ∨ 0 ≤ lnk (tn 135 st) a q) ∧ 0 < (fun q : Nat => st 119 ((k * 8) + (q : Int) : Int).toNat) q.toNat)) from (by
            have hl : 0 < k → lnk (tn 135 st) a i = st 140 ((a * 8) + i : Int).toNat := fun _ => by
              show st 140 (8 * a + i : Int).toNat = _
              rw [show 8 * a + i = a * 8 + i by omega]
            have hw : 0 < k → _ := fun _ => tw.2.2.1 a i (by omega) (by omega) (by omega) (by omega)
            have hix : ((k * 8) + ((i.toNat : Nat) : Int) : Int).toNat = ((k * 8) + i : Int).toNat := by omega
            refine Or.inl ⟨⟨by omega, by show i < st 135 1; omega⟩, ⟨by omega, ?_⟩, n_lp⟩
            show 0 < st 119 ((k * 8) + ((i.toNat : Nat) : Int) : Int).toNat
            rw [hix]
            omega))
        · refine ⟨rfl, hG, fun r3 q3 => ?_⟩
          have e3 := q3
          change (0 ≤ a ∧ a < st 135 1 ∧ 0 ≤ i ∧ i < st 135 1 → r3 = st 140 (a * 8 + i : Int).toNat) ∧ (¬ (0 ≤ a ∧ a < st 135 1 ∧ 0 ≤ i ∧ i < st 135 1) → r3 = -1) at e3
          have g10 := g_a140 hG (a * 8 + i : Int).toNat
          refine ⟨fun h11 => ?_, fun h11 => ?_⟩
          · refine ⟨fun h12 => ?_, fun h12 => absurd (by decide) h12⟩
            refine ⟨by omega, ?_⟩
            exact hsl _ _ _ _ _ (sb_cons (.head _) (sb_cons (.tail _ (.tail _ (.head _))) (sb_cons (.tail _ (.tail _ (.tail _ (.head _)))) (sb_cons (.tail _ (.tail _ (.tail _ (.tail _ (.head _))))) (sb_cons (.tail _ (.tail _ (.tail _ (.tail _ (.tail _ (.head _)))))) sb_nil))))) (ih _ (show (st 135 1 - (i + 1) : Int).toNat < u from by omega) (i + 1) ⟨(show 0 ≤ (i + 1) ∧ (i + 1) ≤ st 135 1 from by omega), (show ∀ q : Int, 0 ≤ q → q < (i + 1) → ¬ ((a = -1 ∨ 0 ≤ lnk (tn 135 st) a q) ∧ 0 < st 119 ((k * 8) + ((q : Int).toNat : Int) : Int).toNat) from (by
              intro q z1 z2 z3
              by_cases z4 : q = i
              · rw [z4] at z3
                have hl : 0 < k → lnk (tn 135 st) a i = st 140 ((a * 8) + i : Int).toNat := fun _ => by
                  show st 140 (8 * a + i : Int).toNat = _
                  rw [show 8 * a + i = a * 8 + i by omega]
                have hw : 0 < k → _ := fun _ => tw.2.2.1 a i (by omega) (by omega) (by omega) (by omega)
                have hix : ((k * 8) + ((i.toNat : Nat) : Int) : Int).toNat = ((k * 8) + i : Int).toNat := by omega
                rw [hix] at z3
                omega
              · exact n_lp q z1 (by omega) z3))⟩ rfl)
          · refine ⟨fun h13 => absurd h13 (by decide), fun h13 => ?_⟩
            refine ⟨by omega, ?_⟩
            refine ⟨by omega, ?_⟩
            have g14 := g_a119 hG ((k * 8) + i : Int).toNat
            refine ⟨by omega, ?_⟩
            intro w4 hw4
            refine ⟨fun h15 => ?_, fun h15 => ?_⟩
            · refine ⟨by omega, ?_⟩
              exact hsl _ _ _ _ _ (sb_cons (.head _) (sb_cons (.tail _ (.tail _ (.head _))) (sb_cons (.tail _ (.tail _ (.tail _ (.head _)))) (sb_cons (.tail _ (.tail _ (.tail _ (.tail _ (.head _))))) (sb_cons (.tail _ (.tail _ (.tail _ (.tail _ (.tail _ (.head _)))))) sb_nil))))) (ih _ (show (st 135 1 - (i + 1) : Int).toNat < u from by omega) (i + 1) ⟨(show 0 ≤ (i + 1) ∧ (i + 1) ≤ st 135 1 from by omega), (show ∀ q : Int, 0 ≤ q → q < (i + 1) → ¬ ((a = -1 ∨ 0 ≤ lnk (tn 135 st) a q) ∧ 0 < st 119 ((k * 8) + ((q : Int).toNat : Int) : Int).toNat) from (by
              intro q z1 z2 z3
              by_cases z4 : q = i
              · rw [z4] at z3
                have hl : 0 < k → lnk (tn 135 st) a i = st 140 ((a * 8) + i : Int).toNat := fun _ => by
                  show st 140 (8 * a + i : Int).toNat = _
                  rw [show 8 * a + i = a * 8 + i by omega]
                have hw : 0 < k → _ := fun _ => tw.2.2.1 a i (by omega) (by omega) (by omega) (by omega)
                have hix : ((k * 8) + ((i.toNat : Nat) : Int) : Int).toNat = ((k * 8) + i : Int).toNat := by omega
                rw [hix] at z3
                omega
              · exact n_lp q z1 (by omega) z3))⟩ rfl)
            · exact hQ _ (show FN (tn 135 st) (fun q : Nat => st 119 ((k * 8) + (q : Int) : Int).toNat) a i ∨ (i = -1 ∧ ∀ q : Int, 0 ≤ q → q < st 135 1 → ¬ ((a = -1 ∨ 0 ≤ lnk (tn 135 st) a q) ∧ 0 < (fun q : Nat => st 119 ((k * 8) + (q : Int) : Int).toNat) q.toNat)) from (by
            have hl : 0 < k → lnk (tn 135 st) a i = st 140 ((a * 8) + i : Int).toNat := fun _ => by
              show st 140 (8 * a + i : Int).toNat = _
              rw [show 8 * a + i = a * 8 + i by omega]
            have hw : 0 < k → _ := fun _ => tw.2.2.1 a i (by omega) (by omega) (by omega) (by omega)
            have hix : ((k * 8) + ((i.toNat : Nat) : Int) : Int).toNat = ((k * 8) + i : Int).toNat := by omega
            refine Or.inl ⟨⟨by omega, by show i < st 135 1; omega⟩, ⟨by omega, ?_⟩, n_lp⟩
            show 0 < st 119 ((k * 8) + ((i.toNat : Nat) : Int) : Int).toNat
            rw [hix]
            omega))
  have g16 := g_f135_1 hG
  refine yr1_ok (Rt := Q) (wc := (wcL [(286, k_cBetweenB)])) (stp := [3]) hcm hcl [] 57 ?_
  show K (rx_find rx_m227 3) [(4, .inl 0), (0, .inr (.inr (.inl 115))), (1, .inr (.inr (.inl 135))), (2, .inl k), (3, .inl a)] [] st
  exact lp _ 0 ⟨(show 0 ≤ (0 : Int) ∧ (0 : Int) ≤ st 135 1 from by omega), (show ∀ q : Int, 0 ≤ q → q < (0 : Int) → ¬ ((a = -1 ∨ 0 ≤ lnk (tn 135 st) a q) ∧ 0 < st 119 ((k * 8) + ((q : Int).toNat : Int) : Int).toNat) from fun q z1 z2 => by omega)⟩ rfl
theorem k_wLstB_m (hTb : aTb zSh rx_tb cl) {D : Nat} (hD : 3 ≤ D) : ∀ as st (Q Q' : zQ), (∀ r st', Q r st' → Q' r st') → k_wLstB 227 as st Q → cl D 227 as st Q' := by
  intro as st Q Q' hQ h
  unfold k_wLstB at h
  split at h
  · obtain ⟨rfl, rfl, h⟩ := h
    exact c_wLstB hTb hD (ct_wLstB_m hQ h)
  · exact h.elim
set_option maxHeartbeats 4000000 in
set_option maxRecDepth 100000 in
theorem c_wPFB (hTb : aTb zSh rx_tb cl) {D : Nat} (hD : 5 ≤ D) {n k : Int} {st : zS} {Q : zQ} (h : ct_wPFB n k st Q) : cl D 54 [.inr (.inr (.inl 115)), .inr (.inr (.inl 135)), .inl n, .inl k] st Q := by
  obtain ⟨d, rfl⟩ : ∃ d, D = d + 1 := ⟨D - 1, by omega⟩
  refine hTb d 54 (rx_m54, 6, 0, 0, 1) rfl _ _ _ (Nat.le_of_ble_eq_true rfl) (fun K hcl hsf hsl => ?_)
  have hcm : zmo (wcL [(25, k_wCRB), (227, k_wLstB)]) (cl d) := (wcL_m (wm_cons (k_wCRB_m hTb (by omega)) (wm_cons (k_wLstB_m hTb (by omega)) wm_nil)))
  obtain ⟨hR, hQ⟩ := h
  obtain ⟨hG, tw, sp, nn⟩ := hR
  change TW (tn 135 st) at tw
  change ∀ i : Nat, (i : Int) < st 115 5 → 0 ≤ st 117 i ∧ st 117 i < 8 at sp
  change 1 ≤ n ∧ n ≤ 20 ∧ 0 ≤ k ∧ k < n at nn
  have b8 : 0 ≤ st 135 1 ∧ st 135 1 ≤ 8 := tw.1.1
  have hP : ((tn 135 st) 0 1).toNat ≤ 8 := (by omega : (st 135 1).toNat ≤ 8)
  have lp : ∀ (u : Nat) (j : Int) (pa : Int) (s_lp : zS), gInv zgt s_lp ∧ aFr m_wPFB st s_lp ∧ (0 ≤ j ∧ j ≤ k + 1) ∧ (0 < flT (tn 135 st) (flo (st 116) (st 117) (st 115 5) n) (n - 1 : Int).toNat) ∧ (TD (tn 135 st) (flo (st 116) (st 117) (st 115 5) n) (n - 1 : Int).toNat (s_lp 119) (-1)) ∧ (FX (tn 135 st) (flo (st 116) (st 117) (st 115 5) n) (n - 1 : Int).toNat (j : Int).toNat) ∧ (pa = flG (tn 135 st) (flo (st 116) (st 117) (st 115 5) n) (n - 1 : Int).toNat (j : Int).toNat) → (k + 1 - j).toNat = u → K (rx_find rx_m54 19) [(5, .inl j), (4, .inl pa), (0, .inr (.inr (.inl 115))), (1, .inr (.inr (.inl 135))), (2, .inl n), (3, .inl k)] [] s_lp := by
    intro u
    induction u using Nat.strongRecOn with
    | _ u ih =>
      intro j pa s_lp hi hu
      obtain ⟨gI_lp, fI_lp, i_lp, p_lp, t_lp, x_lp, v_lp⟩ := hi
      refine yr1_ok (Rt := Q) (wc := (wcL [(25, k_wCRB), (227, k_wLstB)])) (stp := [19]) hcm hcl [] 46 ?_
      show ((k < j → Q (some (.inl pa)) s_lp) ∧ (¬ (k < j) → (115 = 115 ∧ ((135) = 135 ∧ (rq_wLstB j pa s_lp ∧ (∀ (r1 : Int), en_wLstB j pa s_lp r1 → ((-2147483648 ≤ j + 1 ∧ j + 1 ≤ 2147483647) ∧ K (rx_find rx_m54 19) [(5, .inl (j + 1)), (4, .inl r1), (0, .inr (.inr (.inl 115))), (1, .inr (.inr (.inl 135))), (2, .inl n), (3, .inl k)] [] s_lp)))))))
      refine ⟨fun h2 => ?_, fun h2 => ?_⟩
      · exact hQ _ _ ⟨gI_lp, fI_lp, (show (flT (tn 135 st) (flo (st 116) (st 117) (st 115 5) n) (n - 1 : Int).toNat = 0 → pa = -1) ∧ (¬ flT (tn 135 st) (flo (st 116) (st 117) (st 115 5) n) (n - 1 : Int).toNat = 0 → pa = flG (tn 135 st) (flo (st 116) (st 117) (st 115 5) n) (n - 1 : Int).toNat (k + 1 : Int).toNat) from (by
          refine ⟨fun z => by exfalso; omega, fun _ => ?_⟩
          rw [show (k + 1 : Int) = j by omega]
          exact v_lp))⟩
      · have g4 := g_f135_1 hG
        have e3 : s_lp 135 1 = st 135 1 := fI_lp 135 1 rfl rfl
        refine ⟨rfl, rfl, ⟨gI_lp, (show TW (tn 135 s_lp) from (by rw [(tn_fr rfl (show aFr m_wPFB st s_lp from fI_lp))]; exact tw)), (show 0 ≤ j ∧ j < 20 ∧ ((j = 0 ∧ pa = -1) ∨ (0 < j ∧ 0 ≤ pa ∧ pa < s_lp 135 1)) from (by
              have hx := x_lp
              unfold FX at hx
              rw [← v_lp] at hx
              have e1 : s_lp 135 1 = st 135 1 := fI_lp 135 1 rfl rfl
              have hx2 : ((j : Int).toNat = 0 ∧ pa = -1) ∨ 0 < (j : Int).toNat ∧ 0 ≤ pa ∧ pa < st 135 1 := hx.elim Or.inl (fun y => Or.inr ⟨y.1, y.2.1⟩)
              omega))⟩, fun r1 q1 => ?_⟩
        have e1 := q1
        change FN (tn 135 s_lp) (fun q : Nat => s_lp 119 ((j * 8) + (q : Int) : Int).toNat) pa r1 ∨ (r1 = -1 ∧ ∀ q : Int, 0 ≤ q → q < s_lp 135 1 → ¬ ((pa = -1 ∨ 0 ≤ lnk (tn 135 s_lp) pa q) ∧ 0 < (fun q : Nat => s_lp 119 ((j * 8) + (q : Int) : Int).toNat) q.toNat)) at e1
        refine ⟨by omega, ?_⟩
        exact ih _ (show (k + 1 - (j + 1) : Int).toNat < u from by omega) (j + 1) r1 s_lp ⟨gI_lp, fI_lp, (show 0 ≤ (j + 1) ∧ (j + 1) ≤ k + 1 from by omega), (show 0 < flT (tn 135 st) (flo (st 116) (st 117) (st 115 5) n) (n - 1 : Int).toNat from p_lp), (show TD (tn 135 st) (flo (st 116) (st 117) (st 115 5) n) (n - 1 : Int).toNat (s_lp 119) (-1) from t_lp), (show FX (tn 135 st) (flo (st 116) (st 117) (st 115 5) n) (n - 1 : Int).toNat ((j + 1) : Int).toNat from (by
              have hx := FX_ex hP p_lp (show (j : Int).toNat ≤ (n - 1 : Int).toNat by omega) x_lp
              have hF : FN (tn 135 st) (flD (tn 135 st) (flo (st 116) (st 117) (st 115 5) n) (n - 1 : Int).toNat ((n - 1 : Int).toNat - (j : Int).toNat)) (flG (tn 135 st) (flo (st 116) (st 117) (st 115 5) n) (n - 1 : Int).toNat (j : Int).toNat) r1 := by
                have tt : ∀ q : Nat, (q : Int) < st 135 1 → s_lp 119 ((j * 8) + (q : Int) : Int).toNat = flD (tn 135 st) (flo (st 116) (st 117) (st 115 5) n) (n - 1 : Int).toNat ((n - 1 : Int).toNat - (j : Int).toNat) q := fun q hq => by
                  rw [show ((j * 8) + (q : Int) : Int).toNat = 8 * (j : Int).toNat + q by omega]
                  exact t_lp _ _ (by omega) (by omega) hq
                rw [(tn_fr rfl (show aFr m_wPFB st s_lp from fI_lp)), v_lp] at e1
                rcases e1 with z | ⟨z1, z2⟩
                · exact FN_e tt z
                · obtain ⟨q, ⟨q1, q2⟩, q3, q4⟩ := hx
                  refine absurd ⟨q3, ?_⟩ (z2 q q1 (show q < s_lp 135 1 by rw [fI_lp 135 1 rfl rfl]; exact q2))
                  show 0 < s_lp 119 ((j * 8) + ((q.toNat : Nat) : Int) : Int).toNat
                  rw [tt q.toNat (show ((q.toNat : Nat) : Int) < st 135 1 by have q5 : q < st 135 1 := q2; omega)]
                  exact q4
              rw [show (j + 1 : Int).toNat = (j : Int).toNat + 1 by omega]
              exact FX_s hF)), (show r1 = flG (tn 135 st) (flo (st 116) (st 117) (st 115 5) n) (n - 1 : Int).toNat ((j + 1) : Int).toNat from (by
              have hx := FX_ex hP p_lp (show (j : Int).toNat ≤ (n - 1 : Int).toNat by omega) x_lp
              have hF : FN (tn 135 st) (flD (tn 135 st) (flo (st 116) (st 117) (st 115 5) n) (n - 1 : Int).toNat ((n - 1 : Int).toNat - (j : Int).toNat)) (flG (tn 135 st) (flo (st 116) (st 117) (st 115 5) n) (n - 1 : Int).toNat (j : Int).toNat) r1 := by
                have tt : ∀ q : Nat, (q : Int) < st 135 1 → s_lp 119 ((j * 8) + (q : Int) : Int).toNat = flD (tn 135 st) (flo (st 116) (st 117) (st 115 5) n) (n - 1 : Int).toNat ((n - 1 : Int).toNat - (j : Int).toNat) q := fun q hq => by
                  rw [show ((j * 8) + (q : Int) : Int).toNat = 8 * (j : Int).toNat + q by omega]
                  exact t_lp _ _ (by omega) (by omega) hq
                rw [(tn_fr rfl (show aFr m_wPFB st s_lp from fI_lp)), v_lp] at e1
                rcases e1 with z | ⟨z1, z2⟩
                · exact FN_e tt z
                · obtain ⟨q, ⟨q1, q2⟩, q3, q4⟩ := hx
                  refine absurd ⟨q3, ?_⟩ (z2 q q1 (show q < s_lp 135 1 by rw [fI_lp 135 1 rfl rfl]; exact q2))
                  show 0 < s_lp 119 ((j * 8) + ((q.toNat : Nat) : Int) : Int).toNat
                  rw [tt q.toNat (show ((q.toNat : Nat) : Int) < st 135 1 by have q5 : q < st 135 1 := q2; omega)]
                  exact q4
              rw [show (j + 1 : Int).toNat = (j : Int).toNat + 1 by omega]
              exact flG_s hF))⟩ rfl
  have g5 := g_f115_5 hG
  have g6 := g_f135_1 hG
  refine yr1_ok (Rt := Q) (wc := (wcL [(25, k_wCRB), (227, k_wLstB)])) (stp := [19]) hcm hcl [] 46 ?_
  show (115 = 115 ∧ ((135) = 135 ∧ (rq_wCRB n st ∧ (∀ (r7 : Int) (s7 : zS), en_wCRB n st r7 s7 → (∀ (w8 : Int), (r7 < 0 ∧ w8 = -1 ∨ r7 = 0 ∧ w8 = 0 ∨ 0 < r7 ∧ w8 = 1) → ((¬ w8 = (0 : Int) → K (rx_find rx_m54 19) [(5, .inl 0), (4, .inl (-1)), (0, .inr (.inr (.inl 115))), (1, .inr (.inr (.inl 135))), (2, .inl n), (3, .inl k)] [] s7) ∧ (¬ (¬ w8 = (0 : Int)) → Q (some (.inl (-1))) s7)))))))
  refine ⟨rfl, rfl, ⟨hG, (show TW (tn 135 st) from tw), (show ∀ i : Nat, (i : Int) < st 115 5 → 0 ≤ st 117 i ∧ st 117 i < 8 from sp), (show 1 ≤ n ∧ n ≤ 20 from by omega)⟩, fun r7 s7 q7 => ?_⟩
  obtain ⟨gs7, fs7, e7, o7, t7⟩ := q7
  change r7 = flT (tn 135 st) (flo (st 116) (st 117) (st 115 5) n) (n - 1 : Int).toNat at e7
  change OPN (st 135 1) (st 116) (st 117) n (st 115 5) (s7 118) at o7
  change TD (tn 135 st) (flo (st 116) (st 117) (st 115 5) n) (n - 1 : Int).toNat (s7 119) (-1) at t7
  intro w8 hw8
  refine ⟨fun h9 => ?_, fun h9 => ?_⟩
  · exact lp _ 0 (-1) s7 ⟨gs7, (fr_tr (fr_rf _ _) fs7 rfl), (show 0 ≤ (0 : Int) ∧ (0 : Int) ≤ k + 1 from by omega), (show 0 < flT (tn 135 st) (flo (st 116) (st 117) (st 115 5) n) (n - 1 : Int).toNat from (by have z := flT_c hP (flo (st 116) (st 117) (st 115 5) n) (m := (n - 1 : Int).toNat) (by omega); have z2 := e7; omega)), (show TD (tn 135 st) (flo (st 116) (st 117) (st 115 5) n) (n - 1 : Int).toNat (s7 119) (-1) from t7), (show FX (tn 135 st) (flo (st 116) (st 117) (st 115 5) n) (n - 1 : Int).toNat ((0 : Int) : Int).toNat from FX_0), (show ((-1) : Int) = flG (tn 135 st) (flo (st 116) (st 117) (st 115 5) n) (n - 1 : Int).toNat ((0 : Int) : Int).toNat from rfl)⟩ rfl
  · exact hQ _ _ ⟨gs7, (fr_tr (fr_rf _ _) fs7 rfl), (show (flT (tn 135 st) (flo (st 116) (st 117) (st 115 5) n) (n - 1 : Int).toNat = 0 → ((-1) : Int) = -1) ∧ (¬ flT (tn 135 st) (flo (st 116) (st 117) (st 115 5) n) (n - 1 : Int).toNat = 0 → ((-1) : Int) = flG (tn 135 st) (flo (st 116) (st 117) (st 115 5) n) (n - 1 : Int).toNat (k + 1 : Int).toNat) from ⟨fun _ => rfl, fun z => by exfalso; omega⟩)⟩
theorem k_wPFB_m (hTb : aTb zSh rx_tb cl) {D : Nat} (hD : 5 ≤ D) : ∀ as st (Q Q' : zQ), (∀ r st', Q r st' → Q' r st') → k_wPFB 54 as st Q → cl D 54 as st Q' := by
  intro as st Q Q' hQ h
  unfold k_wPFB at h
  split at h
  · obtain ⟨rfl, rfl, h⟩ := h
    exact c_wPFB hTb hD (ct_wPFB_m hQ h)
  · exact h.elim
set_option maxHeartbeats 4000000 in
set_option maxRecDepth 100000 in
theorem c_wMostB (hTb : aTb zSh rx_tb cl) {D : Nat} (hD : 2 ≤ D) {k : Int} {st : zS} {Q : zQ} (h : ct_wMostB k st Q) : cl D 229 [.inr (.inr (.inl 115)), .inr (.inr (.inl 135)), .inl k] st Q := by
  obtain ⟨d, rfl⟩ : ∃ d, D = d + 1 := ⟨D - 1, by omega⟩
  refine hTb d 229 (rx_m229, 7, 0, 0, 5) rfl _ _ _ (Nat.le_of_ble_eq_true rfl) (fun K hcl hsf hsl => ?_)
  have hcm : zmo (wcL [(303, k_wMaxL)]) (cl d) := (wcL_m (wm_cons (k_wMaxL_m hTb (by omega)) wm_nil))
  obtain ⟨hR, hQ⟩ := h
  obtain ⟨hG, pp, fb⟩ := hR
  change 0 ≤ st 135 1 ∧ st 135 1 ≤ 8 ∧ 0 ≤ k ∧ k < 20 at pp
  change ∀ q : Nat, (q : Int) < st 135 1 → 0 ≤ st 120 ((k * 8) + (q : Int) : Int).toNat * st 119 ((k * 8) + (q : Int) : Int).toNat ∧ st 120 ((k * 8) + (q : Int) : Int).toNat * st 119 ((k * 8) + (q : Int) : Int).toNat ≤ 144115188075855872 at fb
  have lp : ∀ (u : Nat) (i : Int) (mo : Int), (0 ≤ i ∧ i ≤ st 135 1 ∧ 0 ≤ mo ∧ mo ≤ 144115188075855872) ∧ (mo = flX (fun q : Nat => st 120 ((k * 8) + (q : Int) : Int).toNat * st 119 ((k * 8) + (q : Int) : Int).toNat) (i : Int).toNat) → (st 135 1 - i).toNat = u → K (rx_find rx_m229 5) [(5, .inl i), (3, .inr (.inl mo)), (0, .inr (.inr (.inl 115))), (1, .inr (.inr (.inl 135))), (2, .inl k)] [] st := by
    intro u
    induction u using Nat.strongRecOn with
    | _ u ih =>
      intro i mo hi hu
      obtain ⟨i_lp, v_lp⟩ := hi
      have hfb : i < st 135 1 → 0 ≤ st 120 ((k * 8) + i).toNat * st 119 ((k * 8) + i).toNat ∧ st 120 ((k * 8) + i).toNat * st 119 ((k * 8) + i).toNat ≤ 144115188075855872 := fun z => by
        have y := fb (i : Int).toNat (by omega)
        rw [show (((i : Int).toNat : Nat) : Int) = i by omega] at y
        exact y
      have g1 := g_f135_1 hG
      refine yr1_ok (Rt := Q) (wc := (wcL [(303, k_wMaxL)])) (stp := [5]) hcm hcl [] 50 ?_
      show ((st 135 1 ≤ i → Q (some (.inr (.inl mo))) st) ∧ (¬ (st 135 1 ≤ i) → ((-2147483648 ≤ k * 8 ∧ k * 8 ≤ 2147483647) ∧ ((-2147483648 ≤ (k * 8) + i ∧ (k * 8) + i ≤ 2147483647) ∧ ((0 ≤ (k * 8) + i ∧ (k * 8) + i < 160) ∧ ((0 ≤ (k * 8) + i ∧ (k * 8) + i < 160) ∧ ((-9223372036854775808 ≤ (st 120 ((k * 8) + i : Int).toNat) * (st 119 ((k * 8) + i : Int).toNat) ∧ (st 120 ((k * 8) + i : Int).toNat) * (st 119 ((k * 8) + i : Int).toNat) ≤ 9223372036854775807) ∧ (∀ (r2 : Int), en_wMaxL mo ((st 120 ((k * 8) + i : Int).toNat) * (st 119 ((k * 8) + i : Int).toNat)) st r2 → ((-2147483648 ≤ i + 1 ∧ i + 1 ≤ 2147483647) ∧ K (rx_find rx_m229 5) [(5, .inl (i + 1)), (3, .inr (.inl r2)), (6, .inl ((k * 8) + i)), (0, .inr (.inr (.inl 115))), (1, .inr (.inr (.inl 135))), (2, .inl k)] [] st)))))))))
      refine ⟨fun h3 => ?_, fun h3 => ?_⟩
      · exact hQ _ ⟨(show mo = flX (fun q : Nat => st 120 ((k * 8) + (q : Int) : Int).toNat * st 119 ((k * 8) + (q : Int) : Int).toNat) (st 135 1 : Int).toNat from (by
          rw [show st 135 1 = i by omega]
          exact v_lp)), (show 0 ≤ mo ∧ mo ≤ 144115188075855872 from by omega)⟩
      · refine ⟨by omega, ?_⟩
        refine ⟨by omega, ?_⟩
        have g4 := g_a120 hG ((k * 8) + i : Int).toNat
        refine ⟨by omega, ?_⟩
        have g5 := g_a119 hG ((k * 8) + i : Int).toNat
        refine ⟨by omega, ?_⟩
        refine ⟨by omega, ?_⟩
        refine fun r2 q2 => ?_
        have e2 := q2
        change (((st 120 ((k * 8) + i : Int).toNat) * (st 119 ((k * 8) + i : Int).toNat)) ≤ mo → r2 = mo) ∧ (mo < ((st 120 ((k * 8) + i : Int).toNat) * (st 119 ((k * 8) + i : Int).toNat)) → r2 = ((st 120 ((k * 8) + i : Int).toNat) * (st 119 ((k * 8) + i : Int).toNat))) at e2
        refine ⟨by omega, ?_⟩
        exact hsl _ _ _ _ _ (sb_cons (.head _) (sb_cons (.tail _ (.head _)) (sb_cons (.tail _ (.tail _ (.tail _ (.head _)))) (sb_cons (.tail _ (.tail _ (.tail _ (.tail _ (.head _))))) (sb_cons (.tail _ (.tail _ (.tail _ (.tail _ (.tail _ (.head _)))))) sb_nil))))) (ih _ (show (st 135 1 - (i + 1) : Int).toNat < u from by omega) (i + 1) r2 ⟨(show 0 ≤ (i + 1) ∧ (i + 1) ≤ st 135 1 ∧ 0 ≤ r2 ∧ r2 ≤ 144115188075855872 from by omega), (show r2 = flX (fun q : Nat => st 120 ((k * 8) + (q : Int) : Int).toNat * st 119 ((k * 8) + (q : Int) : Int).toNat) ((i + 1) : Int).toNat from (by
              rw [flX_s (by omega), ← v_lp]
              show _ = if mo < st 120 ((k * 8) + ((i.toNat : Nat) : Int) : Int).toNat * st 119 ((k * 8) + ((i.toNat : Nat) : Int) : Int).toNat then st 120 ((k * 8) + ((i.toNat : Nat) : Int) : Int).toNat * st 119 ((k * 8) + ((i.toNat : Nat) : Int) : Int).toNat else mo
              rw [show ((i.toNat : Nat) : Int) = i by omega]
              split <;> omega))⟩ rfl)
  have g6 := g_f135_1 hG
  refine yr1_ok (Rt := Q) (wc := (wcL [(303, k_wMaxL)])) (stp := [5]) hcm hcl [] 50 ?_
  show K (rx_find rx_m229 5) [(5, .inl 0), (3, .inr (.inl 0)), (0, .inr (.inr (.inl 115))), (1, .inr (.inr (.inl 135))), (2, .inl k)] [] st
  exact lp _ 0 0 ⟨(show 0 ≤ (0 : Int) ∧ (0 : Int) ≤ st 135 1 ∧ 0 ≤ (0 : Int) ∧ (0 : Int) ≤ 144115188075855872 from by omega), (show (0 : Int) = flX (fun q : Nat => st 120 ((k * 8) + (q : Int) : Int).toNat * st 119 ((k * 8) + (q : Int) : Int).toNat) ((0 : Int) : Int).toNat from rfl)⟩ rfl
theorem k_wMostB_m (hTb : aTb zSh rx_tb cl) {D : Nat} (hD : 2 ≤ D) : ∀ as st (Q Q' : zQ), (∀ r st', Q r st' → Q' r st') → k_wMostB 229 as st Q → cl D 229 as st Q' := by
  intro as st Q Q' hQ h
  unfold k_wMostB at h
  split at h
  · obtain ⟨rfl, rfl, h⟩ := h
    exact c_wMostB hTb hD (ct_wMostB_m hQ h)
  · exact h.elim
set_option maxHeartbeats 4000000 in
set_option maxRecDepth 100000 in
theorem c_wAskB (hTb : aTb zSh rx_tb cl) {D : Nat} (hD : 4 ≤ D) {n : Int} {st : zS} {Q : zQ} (h : ct_wAskB n st Q) : cl D 228 [.inr (.inr (.inl 115)), .inr (.inr (.inl 135)), .inl n] st Q := by
  obtain ⟨d, rfl⟩ : ∃ d, D = d + 1 := ⟨D - 1, by omega⟩
  refine hTb d 228 (rx_m228, 7, 0, 0, 0) rfl _ _ _ (Nat.le_of_ble_eq_true rfl) (fun K hcl hsf hsl => ?_)
  have hcm : zmo (wcL [(226, k_wSBB120), (225, k_wMay), (229, k_wMostB)]) (cl d) := (wcL_m (wm_cons (k_wSBB120_m hTb (by omega)) (wm_cons (k_wMay_m hTb (by omega)) (wm_cons (k_wMostB_m hTb (by omega)) wm_nil))))
  obtain ⟨hR, hQ⟩ := h
  obtain ⟨hG, tw, nn, op, on⟩ := hR
  change TW (tn 135 st) at tw
  change 1 ≤ n ∧ n ≤ 20 at nn
  change OPN (st 135 1) (st 116) (st 117) n (st 115 5) (st 118) at op
  change TD (tn 135 st) (flo (st 116) (st 117) (st 115 5) n) (n - 1 : Int).toNat (st 119) (-1) at on
  have b8 : 0 ≤ st 135 1 ∧ st 135 1 ≤ 8 := tw.1.1
  have hP : ((tn 135 st) 0 1).toNat ≤ 8 := (by omega : (st 135 1).toNat ≤ 8)
  have l3 : ∀ (u : Nat) (k : Int) (s_l3 : zS), gInv zgt s_l3 ∧ aFr m_wAskB st s_l3 ∧ (0 ≤ k ∧ k ≤ n) ∧ (TU (tn 135 st) (flo (st 116) (st 117) (st 115 5) n) (s_l3 120) n) ∧ (AK (fun j => flM (tn 135 st) (flo (st 116) (st 117) (st 115 5) n) (n - 1 : Int).toNat j) k (s_l3 115 6) (s_l3 115 7)) → (n - k).toNat = u → K (rx_find rx_m228 89) [(3, .inl k), (0, .inr (.inr (.inl 115))), (1, .inr (.inr (.inl 135))), (2, .inl n)] [] s_l3 := by
    intro u_l3
    induction u_l3 using Nat.strongRecOn with
    | _ u_l3 ih_l3 =>
      intro k s_l3 hi hu_l3
      obtain ⟨gI_l3, fI_l3, i_l3, w_l3, k_l3⟩ := hi
      have g2 := g_f135_1 hG
      have e1 : s_l3 135 1 = st 135 1 := fI_l3 135 1 rfl rfl
      have g3 := g_f115_6 gI_l3
      have g4 := g_f115_7 gI_l3
      refine yr1_ok (Rt := Q) (wc := (wcL [(226, k_wSBB120), (225, k_wMay), (229, k_wMostB)])) (stp := [89]) hcm hcl [] 95 ?_
      show ((n ≤ k → Q none s_l3) ∧ (¬ (n ≤ k) → (115 = 115 ∧ ((135) = 135 ∧ (rq_wMostB k s_l3 ∧ (∀ (r5 : Int), en_wMostB k s_l3 r5 → ((s_l3 115 6 = ((-1) : Int) → ((-2147483648 ≤ k + 1 ∧ k + 1 ≤ 2147483647) ∧ K (rx_find rx_m228 89) [(3, .inl (k + 1)), (4, .inr (.inl r5)), (0, .inr (.inr (.inl 115))), (1, .inr (.inr (.inl 135))), (2, .inl n)] [] (zup (zup s_l3 115 6 k) 115 7 r5))) ∧ (¬ (s_l3 115 6 = ((-1) : Int)) → (∀ (w6 : Int), (r5 < s_l3 115 7 ∧ w6 = -1 ∨ r5 = s_l3 115 7 ∧ w6 = 0 ∨ s_l3 115 7 < r5 ∧ w6 = 1) → (((0 : Int) ≤ w6 → ((-2147483648 ≤ k + 1 ∧ k + 1 ≤ 2147483647) ∧ K (rx_find rx_m228 89) [(3, .inl (k + 1)), (4, .inr (.inl r5)), (0, .inr (.inr (.inl 115))), (1, .inr (.inr (.inl 135))), (2, .inl n)] [] s_l3)) ∧ (¬ ((0 : Int) ≤ w6) → ((-2147483648 ≤ k + 1 ∧ k + 1 ≤ 2147483647) ∧ K (rx_find rx_m228 89) [(3, .inl (k + 1)), (4, .inr (.inl r5)), (0, .inr (.inr (.inl 115))), (1, .inr (.inr (.inl 135))), (2, .inl n)] [] (zup (zup s_l3 115 6 k) 115 7 r5)))))))))))))
      refine ⟨fun h7 => ?_, fun h7 => ?_⟩
      · exact hQ _ ⟨gI_l3, fI_l3, (show AK (fun j => flM (tn 135 st) (flo (st 116) (st 117) (st 115 5) n) (n - 1 : Int).toNat j) n (s_l3 115 6) (s_l3 115 7) from (by
          have z := k_l3
          rw [show k = n by omega] at z
          exact z))⟩
      · refine ⟨rfl, rfl, ⟨gI_l3, (show 0 ≤ s_l3 135 1 ∧ s_l3 135 1 ≤ 8 ∧ 0 ≤ k ∧ k < 20 from by omega), (show ∀ q : Nat, (q : Int) < s_l3 135 1 → 0 ≤ s_l3 120 ((k * 8) + (q : Int) : Int).toNat * s_l3 119 ((k * 8) + (q : Int) : Int).toNat ∧ s_l3 120 ((k * 8) + (q : Int) : Int).toNat * s_l3 119 ((k * 8) + (q : Int) : Int).toNat ≤ 144115188075855872 from (by
              intro q hq
              have hq2 : (q : Int) < st 135 1 := by omega
              have z := flUD_c hP (flo (st 116) (st 117) (st 115 5) n) (m := (n - 1 : Int).toNat) (k := k.toNat) (by omega) (by omega) q
              rw [← w_l3 k.toNat q (by omega) hq2, ← on k.toNat q (by omega) (by omega) hq2] at z
              rw [show ((k * 8) + (q : Int) : Int).toNat = 8 * k.toNat + q by omega, fI_l3 119 _ rfl rfl]
              exact z))⟩, fun r5 q5 => ?_⟩
        obtain ⟨e5, b5⟩ := q5
        change r5 = flX (fun q : Nat => s_l3 120 ((k * 8) + (q : Int) : Int).toNat * s_l3 119 ((k * 8) + (q : Int) : Int).toNat) (s_l3 135 1 : Int).toNat at e5
        change 0 ≤ r5 ∧ r5 ≤ 144115188075855872 at b5
        refine ⟨fun h8 => ?_, fun h8 => ?_⟩
        · refine ⟨by omega, ?_⟩
          exact hsl _ _ _ _ _ (sb_cons (.head _) (sb_cons (.tail _ (.tail _ (.head _))) (sb_cons (.tail _ (.tail _ (.tail _ (.head _)))) (sb_cons (.tail _ (.tail _ (.tail _ (.tail _ (.head _))))) sb_nil)))) (ih_l3 _ (show (n - (k + 1) : Int).toNat < u_l3 from by omega) (k + 1) (zup (zup s_l3 115 6 k) 115 7 r5) ⟨(gInv_up (gInv_up gI_l3 (p_f115_6 (by omega))) (p_f115_7 (by omega))), (fr_f (fr_f fI_l3 rfl) rfl), (show 0 ≤ (k + 1) ∧ (k + 1) ≤ n from by omega), (show TU (tn 135 st) (flo (st 116) (st 117) (st 115 5) n) ((zup (zup s_l3 115 6 k) 115 7 r5) 120) n from w_l3), (show AK (fun j => flM (tn 135 st) (flo (st 116) (st 117) (st 115 5) n) (n - 1 : Int).toNat j) (k + 1) ((zup (zup s_l3 115 6 k) 115 7 r5) 115 6) ((zup (zup s_l3 115 6 k) 115 7 r5) 115 7) from (by
              have hm : r5 = flM (tn 135 st) (flo (st 116) (st 117) (st 115 5) n) (n - 1 : Int).toNat k.toNat := by
                rw [e5]
                refine TT_max (T := (tn 135 st)) on (B := s_l3 120) (by rw [show (((n - 1 : Int).toNat : Nat) : Int) + 1 = n by omega]; exact w_l3) (j := k.toNat) (by omega) (fun q hq => ?_) |> (fun z => by rw [show s_l3 135 1 = st 135 1 from fI_l3 135 1 rfl rfl]; exact z)
                show s_l3 120 _ * s_l3 119 _ = _
                rw [show ((k * 8) + (q : Int) : Int).toNat = 8 * k.toNat + q by omega, fI_l3 119 _ rfl rfl]
              exact AK_new (g := (fun j => flM (tn 135 st) (flo (st 116) (st 117) (st 115 5) n) (n - 1 : Int).toNat j)) (x := r5) k_l3 (by omega) hm (by omega)))⟩ rfl)
        · intro w6 hw6
          refine ⟨fun h9 => ?_, fun h9 => ?_⟩
          · refine ⟨by omega, ?_⟩
            exact hsl _ _ _ _ _ (sb_cons (.head _) (sb_cons (.tail _ (.tail _ (.head _))) (sb_cons (.tail _ (.tail _ (.tail _ (.head _)))) (sb_cons (.tail _ (.tail _ (.tail _ (.tail _ (.head _))))) sb_nil)))) (ih_l3 _ (show (n - (k + 1) : Int).toNat < u_l3 from by omega) (k + 1) s_l3 ⟨gI_l3, fI_l3, (show 0 ≤ (k + 1) ∧ (k + 1) ≤ n from by omega), (show TU (tn 135 st) (flo (st 116) (st 117) (st 115 5) n) (s_l3 120) n from w_l3), (show AK (fun j => flM (tn 135 st) (flo (st 116) (st 117) (st 115 5) n) (n - 1 : Int).toNat j) (k + 1) (s_l3 115 6) (s_l3 115 7) from (by
              have hm : r5 = flM (tn 135 st) (flo (st 116) (st 117) (st 115 5) n) (n - 1 : Int).toNat k.toNat := by
                rw [e5]
                refine TT_max (T := (tn 135 st)) on (B := s_l3 120) (by rw [show (((n - 1 : Int).toNat : Nat) : Int) + 1 = n by omega]; exact w_l3) (j := k.toNat) (by omega) (fun q hq => ?_) |> (fun z => by rw [show s_l3 135 1 = st 135 1 from fI_l3 135 1 rfl rfl]; exact z)
                show s_l3 120 _ * s_l3 119 _ = _
                rw [show ((k * 8) + (q : Int) : Int).toNat = 8 * k.toNat + q by omega, fI_l3 119 _ rfl rfl]
              exact AK_old (g := (fun j => flM (tn 135 st) (flo (st 116) (st 117) (st 115 5) n) (n - 1 : Int).toNat j)) k_l3 hm ⟨by omega, by omega⟩))⟩ rfl)
          · refine ⟨by omega, ?_⟩
            exact hsl _ _ _ _ _ (sb_cons (.head _) (sb_cons (.tail _ (.tail _ (.head _))) (sb_cons (.tail _ (.tail _ (.tail _ (.head _)))) (sb_cons (.tail _ (.tail _ (.tail _ (.tail _ (.head _))))) sb_nil)))) (ih_l3 _ (show (n - (k + 1) : Int).toNat < u_l3 from by omega) (k + 1) (zup (zup s_l3 115 6 k) 115 7 r5) ⟨(gInv_up (gInv_up gI_l3 (p_f115_6 (by omega))) (p_f115_7 (by omega))), (fr_f (fr_f fI_l3 rfl) rfl), (show 0 ≤ (k + 1) ∧ (k + 1) ≤ n from by omega), (show TU (tn 135 st) (flo (st 116) (st 117) (st 115 5) n) ((zup (zup s_l3 115 6 k) 115 7 r5) 120) n from w_l3), (show AK (fun j => flM (tn 135 st) (flo (st 116) (st 117) (st 115 5) n) (n - 1 : Int).toNat j) (k + 1) ((zup (zup s_l3 115 6 k) 115 7 r5) 115 6) ((zup (zup s_l3 115 6 k) 115 7 r5) 115 7) from (by
              have hm : r5 = flM (tn 135 st) (flo (st 116) (st 117) (st 115 5) n) (n - 1 : Int).toNat k.toNat := by
                rw [e5]
                refine TT_max (T := (tn 135 st)) on (B := s_l3 120) (by rw [show (((n - 1 : Int).toNat : Nat) : Int) + 1 = n by omega]; exact w_l3) (j := k.toNat) (by omega) (fun q hq => ?_) |> (fun z => by rw [show s_l3 135 1 = st 135 1 from fI_l3 135 1 rfl rfl]; exact z)
                show s_l3 120 _ * s_l3 119 _ = _
                rw [show ((k * 8) + (q : Int) : Int).toNat = 8 * k.toNat + q by omega, fI_l3 119 _ rfl rfl]
              exact AK_new (g := (fun j => flM (tn 135 st) (flo (st 116) (st 117) (st 115 5) n) (n - 1 : Int).toNat j)) (x := r5) k_l3 (by omega) hm (by omega)))⟩ rfl)
  have la : ∀ (u : Nat) (k : Int) (s_la : zS), gInv zgt s_la ∧ aFr m_wAskB st s_la ∧ (0 ≤ k ∧ k ≤ n) ∧ (TU (tn 135 st) (flo (st 116) (st 117) (st 115 5) n) (s_la 120) k) → (n - k).toNat = u → K (rx_find rx_m228 2) [(3, .inl k), (0, .inr (.inr (.inl 115))), (1, .inr (.inr (.inl 135))), (2, .inl n)] [] s_la := by
    intro u_la
    induction u_la using Nat.strongRecOn with
    | _ u_la ih_la =>
      intro k s_la hi hu_la
      obtain ⟨gI_la, fI_la, i_la, t_la⟩ := hi
      have g11 := g_f135_1 hG
      have e10 : s_la 135 1 = st 135 1 := fI_la 135 1 rfl rfl
      have lb : ∀ (u : Nat) (z : Int) (s_lb : zS), gInv zgt s_lb ∧ aFr m_wAskB st s_lb ∧ (0 ≤ z ∧ z ≤ st 135 1 ∧ 0 ≤ k ∧ k < n) ∧ (TU (tn 135 st) (flo (st 116) (st 117) (st 115 5) n) (s_lb 120) k) ∧ (TUp (tn 135 st) (flo (st 116) (st 117) (st 115 5) n) (s_lb 120) k z) → (st 135 1 - z).toNat = u → K (rx_find rx_m228 10) [(4, .inl z), (3, .inl k), (0, .inr (.inr (.inl 115))), (1, .inr (.inr (.inl 135))), (2, .inl n)] [] s_lb := by
        intro u_lb
        induction u_lb using Nat.strongRecOn with
        | _ u_lb ih_lb =>
          intro z s_lb hi hu_lb
          obtain ⟨gI_lb, fI_lb, i_lb, t_lb, p_lb⟩ := hi
          have g13 := g_f135_1 hG
          have e12 : s_lb 135 1 = st 135 1 := fI_lb 135 1 rfl rfl
          refine yr1_ok (Rt := Q) (wc := (wcL [(226, k_wSBB120), (225, k_wMay), (229, k_wMostB)])) (stp := [2, 10, 89]) hcm hcl [] 95 ?_
          show ((s_lb 135 1 ≤ z → ((-2147483648 ≤ k + 1 ∧ k + 1 ≤ 2147483647) ∧ K (rx_find rx_m228 2) [(3, .inl (k + 1)), (4, .inl z), (0, .inr (.inr (.inl 115))), (1, .inr (.inr (.inl 135))), (2, .inl n)] [] s_lb)) ∧ (¬ (s_lb 135 1 ≤ z) → ((¬ k = (0 : Int) → ((-2147483648 ≤ k - 1 ∧ k - 1 ≤ 2147483647) ∧ ((135) = 135 ∧ ((120) = 120 ∧ (rq_wSBB120 (k - 1) z s_lb ∧ (∀ (r14 : Int), en_wSBB120 (k - 1) z s_lb r14 → ((-2147483648 ≤ k * 8 ∧ k * 8 ≤ 2147483647) ∧ ((-2147483648 ≤ (k * 8) + z ∧ (k * 8) + z ≤ 2147483647) ∧ (115 = 115 ∧ (rq_wMay k z s_lb ∧ (∀ (r15 : Int), en_wMay k z s_lb r15 → ((r15 = (0 : Int) → ((0 ≤ (k * 8) + z ∧ (k * 8) + z < 160) ∧ ((-2147483648 ≤ z + 1 ∧ z + 1 ≤ 2147483647) ∧ K (rx_find rx_m228 10) [(4, .inl (z + 1)), (5, .inr (.inl r14)), (3, .inl k), (0, .inr (.inr (.inl 115))), (1, .inr (.inr (.inl 135))), (2, .inl n)] [] (zup s_lb 120 ((k * 8) + z : Int).toNat 0)))) ∧ (¬ (r15 = (0 : Int)) → ((0 ≤ (k * 8) + z ∧ (k * 8) + z < 160) ∧ ((-2147483648 ≤ z + 1 ∧ z + 1 ≤ 2147483647) ∧ K (rx_find rx_m228 10) [(4, .inl (z + 1)), (5, .inr (.inl r14)), (3, .inl k), (0, .inr (.inr (.inl 115))), (1, .inr (.inr (.inl 135))), (2, .inl n)] [] (zup s_lb 120 ((k * 8) + z : Int).toNat r14)))))))))))))))) ∧ (¬ (¬ k = (0 : Int)) → ((-2147483648 ≤ k * 8 ∧ k * 8 ≤ 2147483647) ∧ ((-2147483648 ≤ (k * 8) + z ∧ (k * 8) + z ≤ 2147483647) ∧ (115 = 115 ∧ (rq_wMay k z s_lb ∧ (∀ (r16 : Int), en_wMay k z s_lb r16 → ((r16 = (0 : Int) → ((0 ≤ (k * 8) + z ∧ (k * 8) + z < 160) ∧ ((-2147483648 ≤ z + 1 ∧ z + 1 ≤ 2147483647) ∧ K (rx_find rx_m228 10) [(4, .inl (z + 1)), (5, .inr (.inl 1)), (3, .inl k), (0, .inr (.inr (.inl 115))), (1, .inr (.inr (.inl 135))), (2, .inl n)] [] (zup s_lb 120 ((k * 8) + z : Int).toNat 0)))) ∧ (¬ (r16 = (0 : Int)) → ((0 ≤ (k * 8) + z ∧ (k * 8) + z < 160) ∧ ((-2147483648 ≤ z + 1 ∧ z + 1 ≤ 2147483647) ∧ K (rx_find rx_m228 10) [(4, .inl (z + 1)), (5, .inr (.inl 1)), (3, .inl k), (0, .inr (.inr (.inl 115))), (1, .inr (.inr (.inl 135))), (2, .inl n)] [] (zup s_lb 120 ((k * 8) + z : Int).toNat 1))))))))))))))
          refine ⟨fun h17 => ?_, fun h17 => ?_⟩
          · refine ⟨by omega, ?_⟩
            exact hsl _ _ _ _ _ (sb_cons (.head _) (sb_cons (.tail _ (.tail _ (.head _))) (sb_cons (.tail _ (.tail _ (.tail _ (.head _)))) (sb_cons (.tail _ (.tail _ (.tail _ (.tail _ (.head _))))) sb_nil)))) (ih_la _ (show (n - (k + 1) : Int).toNat < u_la from by omega) (k + 1) s_lb ⟨gI_lb, fI_lb, (show 0 ≤ (k + 1) ∧ (k + 1) ≤ n from by omega), (show TU (tn 135 st) (flo (st 116) (st 117) (st 115 5) n) (s_lb 120) (k + 1) from (TU_row t_lb p_lb (by omega) (show (tn 135 st) 0 1 ≤ z from (show st 135 1 ≤ z by omega))))⟩ rfl)
          · refine ⟨fun h18 => ?_, fun h18 => ?_⟩
            · refine ⟨by omega, ?_⟩
              refine ⟨rfl, rfl, ⟨gI_lb, (show TW (tn 135 s_lb) from (by rw [(tn_fr rfl (show aFr m_wAskB st s_lb from fI_lb))]; exact tw)), (show 0 ≤ (k - 1) ∧ (k - 1) < 20 ∧ 0 ≤ z ∧ z < s_lb 135 1 from by omega), (show ∀ q : Nat, (q : Int) < s_lb 135 1 → 0 ≤ s_lb 120 (((k - 1) * 8) + (q : Int) : Int).toNat ∧ s_lb 120 (((k - 1) * 8) + (q : Int) : Int).toNat ≤ 144115188075855872 from (by
              intro q hq
              have z := TU_b hP t_lb (j := k.toNat - 1) (by omega) (by omega) (q := q) (show (q : Int) < st 135 1 by omega)
              rw [show 8 * (k.toNat - 1) + q = (((k - 1) * 8) + (q : Int) : Int).toNat by omega] at z
              exact z))⟩, fun r14 q14 => ?_⟩
              obtain ⟨e14, b14⟩ := q14
              change r14 = flb (tn 135 s_lb) (fun q : Nat => s_lb 120 (((k - 1) * 8) + (q : Int) : Int).toNat) (z : Int).toNat at e14
              change 0 ≤ r14 ∧ r14 ≤ 1152921504606846976 at b14
              refine ⟨by omega, ?_⟩
              refine ⟨by omega, ?_⟩
              refine ⟨rfl, ⟨gI_lb, (show 0 ≤ k ∧ k < 20 ∧ 0 ≤ z ∧ z < 8 from by omega)⟩, fun r15 q15 => ?_⟩
              have e15 := q15
              change r15 = hb (s_lb 118 (k : Int).toNat) z at e15
              refine ⟨fun h19 => ?_, fun h19 => ?_⟩
              · refine ⟨by omega, ?_⟩
                refine ⟨by omega, ?_⟩
                exact hsl _ _ _ _ _ (sb_cons (.head _) (sb_cons (.tail _ (.tail _ (.head _))) (sb_cons (.tail _ (.tail _ (.tail _ (.head _)))) (sb_cons (.tail _ (.tail _ (.tail _ (.tail _ (.head _))))) (sb_cons (.tail _ (.tail _ (.tail _ (.tail _ (.tail _ (.head _)))))) sb_nil))))) (ih_lb _ (show (st 135 1 - (z + 1) : Int).toNat < u_lb from by omega) (z + 1) (zup s_lb 120 ((k * 8) + z : Int).toNat 0) ⟨(gInv_up gI_lb (p_a120 (by omega))), (fr_a fI_lb rfl), (show 0 ≤ (z + 1) ∧ (z + 1) ≤ st 135 1 ∧ 0 ≤ k ∧ k < n from by omega), (show TU (tn 135 st) (flo (st 116) (st 117) (st 115 5) n) ((zup s_lb 120 ((k * 8) + z : Int).toNat 0) 120) k from (TU_up (show (tn 135 st) 0 1 ≤ 8 from b8.2) t_lb (z := z) (by omega) (by omega) (x := ((k * 8) + z : Int).toNat) (by omega))), (show TUp (tn 135 st) (flo (st 116) (st 117) (st 115 5) n) ((zup s_lb 120 ((k * 8) + z : Int).toNat 0) 120) k (z + 1) from (TUp_up p_lb (by omega) (by omega) (x := ((k * 8) + z : Int).toNat) (by omega) (by
              have hO := OPN_o (show OPN (st 135 1) (st 116) (st 117) n (st 115 5) (s_lb 118) from by rw [show s_lb 118 = st 118 from funext (fun i => fI_lb 118 i rfl rfl)]; exact op) (k := k) (p := z) (by omega) (by omega) (by omega) (by omega)
              have h01 := hb_01 (s_lb 118 (k : Int).toNat) z
              by_cases hq : k = 0
              · rw [TU_v1 hq, if_neg (by omega)]
              · rw [TU_v2 (by omega) t_lb (g := (fun q : Nat => s_lb 120 (((k - 1) * 8) + (q : Int) : Int).toNat)) (fun q hq => by show s_lb 120 _ = _; rw [show (((k - 1) * 8) + (q : Int) : Int).toNat = 8 * (k.toNat - 1) + q by omega]), if_neg (by omega)])))⟩ rfl)
              · refine ⟨by omega, ?_⟩
                refine ⟨by omega, ?_⟩
                exact hsl _ _ _ _ _ (sb_cons (.head _) (sb_cons (.tail _ (.tail _ (.head _))) (sb_cons (.tail _ (.tail _ (.tail _ (.head _)))) (sb_cons (.tail _ (.tail _ (.tail _ (.tail _ (.head _))))) (sb_cons (.tail _ (.tail _ (.tail _ (.tail _ (.tail _ (.head _)))))) sb_nil))))) (ih_lb _ (show (st 135 1 - (z + 1) : Int).toNat < u_lb from by omega) (z + 1) (zup s_lb 120 ((k * 8) + z : Int).toNat r14) ⟨(gInv_up gI_lb (p_a120 (by omega))), (fr_a fI_lb rfl), (show 0 ≤ (z + 1) ∧ (z + 1) ≤ st 135 1 ∧ 0 ≤ k ∧ k < n from by omega), (show TU (tn 135 st) (flo (st 116) (st 117) (st 115 5) n) ((zup s_lb 120 ((k * 8) + z : Int).toNat r14) 120) k from (TU_up (show (tn 135 st) 0 1 ≤ 8 from b8.2) t_lb (z := z) (by omega) (by omega) (x := ((k * 8) + z : Int).toNat) (by omega))), (show TUp (tn 135 st) (flo (st 116) (st 117) (st 115 5) n) ((zup s_lb 120 ((k * 8) + z : Int).toNat r14) 120) k (z + 1) from (TUp_up p_lb (by omega) (by omega) (x := ((k * 8) + z : Int).toNat) (by omega) (by
              have hO := OPN_o (show OPN (st 135 1) (st 116) (st 117) n (st 115 5) (s_lb 118) from by rw [show s_lb 118 = st 118 from funext (fun i => fI_lb 118 i rfl rfl)]; exact op) (k := k) (p := z) (by omega) (by omega) (by omega) (by omega)
              have h01 := hb_01 (s_lb 118 (k : Int).toNat) z
              rw [TU_v2 (by omega) t_lb (g := (fun q : Nat => s_lb 120 (((k - 1) * 8) + (q : Int) : Int).toNat)) (fun q hq => by show s_lb 120 _ = _; rw [show (((k - 1) * 8) + (q : Int) : Int).toNat = 8 * (k.toNat - 1) + q by omega]), if_pos (by omega), e14, (tn_fr rfl (show aFr m_wAskB st s_lb from fI_lb))])))⟩ rfl)
            · refine ⟨by omega, ?_⟩
              refine ⟨by omega, ?_⟩
              refine ⟨rfl, ⟨gI_lb, (show 0 ≤ k ∧ k < 20 ∧ 0 ≤ z ∧ z < 8 from by omega)⟩, fun r16 q16 => ?_⟩
              have e16 := q16
              change r16 = hb (s_lb 118 (k : Int).toNat) z at e16
              refine ⟨fun h20 => ?_, fun h20 => ?_⟩
              · refine ⟨by omega, ?_⟩
                refine ⟨by omega, ?_⟩
                exact hsl _ _ _ _ _ (sb_cons (.head _) (sb_cons (.tail _ (.tail _ (.head _))) (sb_cons (.tail _ (.tail _ (.tail _ (.head _)))) (sb_cons (.tail _ (.tail _ (.tail _ (.tail _ (.head _))))) (sb_cons (.tail _ (.tail _ (.tail _ (.tail _ (.tail _ (.head _)))))) sb_nil))))) (ih_lb _ (show (st 135 1 - (z + 1) : Int).toNat < u_lb from by omega) (z + 1) (zup s_lb 120 ((k * 8) + z : Int).toNat 0) ⟨(gInv_up gI_lb (p_a120 (by omega))), (fr_a fI_lb rfl), (show 0 ≤ (z + 1) ∧ (z + 1) ≤ st 135 1 ∧ 0 ≤ k ∧ k < n from by omega), (show TU (tn 135 st) (flo (st 116) (st 117) (st 115 5) n) ((zup s_lb 120 ((k * 8) + z : Int).toNat 0) 120) k from (TU_up (show (tn 135 st) 0 1 ≤ 8 from b8.2) t_lb (z := z) (by omega) (by omega) (x := ((k * 8) + z : Int).toNat) (by omega))), (show TUp (tn 135 st) (flo (st 116) (st 117) (st 115 5) n) ((zup s_lb 120 ((k * 8) + z : Int).toNat 0) 120) k (z + 1) from (TUp_up p_lb (by omega) (by omega) (x := ((k * 8) + z : Int).toNat) (by omega) (by
              have hO := OPN_o (show OPN (st 135 1) (st 116) (st 117) n (st 115 5) (s_lb 118) from by rw [show s_lb 118 = st 118 from funext (fun i => fI_lb 118 i rfl rfl)]; exact op) (k := k) (p := z) (by omega) (by omega) (by omega) (by omega)
              have h01 := hb_01 (s_lb 118 (k : Int).toNat) z
              by_cases hq : k = 0
              · rw [TU_v1 hq, if_neg (by omega)]
              · rw [TU_v2 (by omega) t_lb (g := (fun q : Nat => s_lb 120 (((k - 1) * 8) + (q : Int) : Int).toNat)) (fun q hq => by show s_lb 120 _ = _; rw [show (((k - 1) * 8) + (q : Int) : Int).toNat = 8 * (k.toNat - 1) + q by omega]), if_neg (by omega)])))⟩ rfl)
              · refine ⟨by omega, ?_⟩
                refine ⟨by omega, ?_⟩
                exact hsl _ _ _ _ _ (sb_cons (.head _) (sb_cons (.tail _ (.tail _ (.head _))) (sb_cons (.tail _ (.tail _ (.tail _ (.head _)))) (sb_cons (.tail _ (.tail _ (.tail _ (.tail _ (.head _))))) (sb_cons (.tail _ (.tail _ (.tail _ (.tail _ (.tail _ (.head _)))))) sb_nil))))) (ih_lb _ (show (st 135 1 - (z + 1) : Int).toNat < u_lb from by omega) (z + 1) (zup s_lb 120 ((k * 8) + z : Int).toNat 1) ⟨(gInv_up gI_lb (p_a120 (by omega))), (fr_a fI_lb rfl), (show 0 ≤ (z + 1) ∧ (z + 1) ≤ st 135 1 ∧ 0 ≤ k ∧ k < n from by omega), (show TU (tn 135 st) (flo (st 116) (st 117) (st 115 5) n) ((zup s_lb 120 ((k * 8) + z : Int).toNat 1) 120) k from (TU_up (show (tn 135 st) 0 1 ≤ 8 from b8.2) t_lb (z := z) (by omega) (by omega) (x := ((k * 8) + z : Int).toNat) (by omega))), (show TUp (tn 135 st) (flo (st 116) (st 117) (st 115 5) n) ((zup s_lb 120 ((k * 8) + z : Int).toNat 1) 120) k (z + 1) from (TUp_up p_lb (by omega) (by omega) (x := ((k * 8) + z : Int).toNat) (by omega) (by
              have hO := OPN_o (show OPN (st 135 1) (st 116) (st 117) n (st 115 5) (s_lb 118) from by rw [show s_lb 118 = st 118 from funext (fun i => fI_lb 118 i rfl rfl)]; exact op) (k := k) (p := z) (by omega) (by omega) (by omega) (by omega)
              have h01 := hb_01 (s_lb 118 (k : Int).toNat) z
              rw [TU_v1 (by omega), if_pos (by omega)])))⟩ rfl)
      refine yr1_ok (Rt := Q) (wc := (wcL [(226, k_wSBB120), (225, k_wMay), (229, k_wMostB)])) (stp := [2, 10, 89]) hcm hcl [] 95 ?_
      show ((n ≤ k → K (rx_find rx_m228 89) [(3, .inl 0), (0, .inr (.inr (.inl 115))), (1, .inr (.inr (.inl 135))), (2, .inl n)] [] (zup s_la 115 6 (-1))) ∧ (¬ (n ≤ k) → K (rx_find rx_m228 10) [(4, .inl 0), (3, .inl k), (0, .inr (.inr (.inl 115))), (1, .inr (.inr (.inl 135))), (2, .inl n)] [] s_la))
      refine ⟨fun h21 => ?_, fun h21 => ?_⟩
      · exact l3 _ 0 (zup s_la 115 6 (-1)) ⟨(gInv_up gI_la (p_f115_6 (by omega))), (fr_f fI_la rfl), (show 0 ≤ (0 : Int) ∧ (0 : Int) ≤ n from by omega), (show TU (tn 135 st) (flo (st 116) (st 117) (st 115 5) n) ((zup s_la 115 6 (-1)) 120) n from (by
              have z := t_la
              rw [show k = n by omega] at z
              exact z)), (show AK (fun j => flM (tn 135 st) (flo (st 116) (st 117) (st 115 5) n) (n - 1 : Int).toNat j) (0 : Int) ((zup s_la 115 6 (-1)) 115 6) ((zup s_la 115 6 (-1)) 115 7) from (AK_0 _ _))⟩ rfl
      · exact lb _ 0 s_la ⟨gI_la, fI_la, (show 0 ≤ (0 : Int) ∧ (0 : Int) ≤ st 135 1 ∧ 0 ≤ k ∧ k < n from by omega), (show TU (tn 135 st) (flo (st 116) (st 117) (st 115 5) n) (s_la 120) k from t_la), (show TUp (tn 135 st) (flo (st 116) (st 117) (st 115 5) n) (s_la 120) k (0 : Int) from (TUp_0 _ _ _ _))⟩ rfl
  have g22 := g_f135_1 hG
  refine yr1_ok (Rt := Q) (wc := (wcL [(226, k_wSBB120), (225, k_wMay), (229, k_wMostB)])) (stp := [2, 10, 89]) hcm hcl [] 95 ?_
  show K (rx_find rx_m228 2) [(3, .inl 0), (0, .inr (.inr (.inl 115))), (1, .inr (.inr (.inl 135))), (2, .inl n)] [] st
  exact la _ 0 st ⟨hG, (fr_rf _ _), (show 0 ≤ (0 : Int) ∧ (0 : Int) ≤ n from by omega), (show TU (tn 135 st) (flo (st 116) (st 117) (st 115 5) n) (st 120) (0 : Int) from (TU_0 _ _ _))⟩ rfl
theorem k_wAskB_m (hTb : aTb zSh rx_tb cl) {D : Nat} (hD : 4 ≤ D) : ∀ as st (Q Q' : zQ), (∀ r st', Q r st' → Q' r st') → k_wAskB 228 as st Q → cl D 228 as st Q' := by
  intro as st Q Q' hQ h
  unfold k_wAskB at h
  split at h
  · obtain ⟨rfl, rfl, h⟩ := h
    exact c_wAskB hTb hD (ct_wAskB_m hQ h)
  · exact h.elim
set_option maxHeartbeats 4000000 in
set_option maxRecDepth 100000 in
theorem c_wFilledB (hTb : aTb zSh rx_tb cl) {D : Nat} (hD : 5 ≤ D) {n : Int} {st : zS} {Q : zQ} (h : ct_wFilledB n st Q) : cl D 38 [.inr (.inr (.inl 0)), .inl n] st Q := by
  obtain ⟨d, rfl⟩ : ∃ d, D = d + 1 := ⟨D - 1, by omega⟩
  refine hTb d 38 (rx_m38, 2, 0, 0, 1) rfl _ _ _ (Nat.le_of_ble_eq_true rfl) (fun K hcl hsf hsl => ?_)
  have hcm : zmo (wcL [(25, k_wCRB), (51, k_wCap)]) (cl d) := (wcL_m (wm_cons (k_wCRB_m hTb (by omega)) (wm_cons (k_wCap_m hTb (by omega)) wm_nil)))
  obtain ⟨hR, hQ⟩ := h
  obtain ⟨hG, dd, tw, sp⟩ := hR
  change st 0 8 = 135 at dd
  change TW (tn 135 st) at tw
  change ∀ i : Nat, (i : Int) < st 115 5 → 0 ≤ st 117 i ∧ st 117 i < 8 at sp
  have hc := fun (hn : 1 ≤ n ∧ n ≤ 20) => flT_c (T := (tn 135 st)) (by show (st 135 1 : Int).toNat ≤ 8; have z : 0 ≤ st 135 1 ∧ st 135 1 ≤ 8 := tw.1.1; omega) (flo (st 116) (st 117) (st 115 5) n) (m := (n - 1 : Int).toNat) (by omega)
  have g1 := g_f0_8 hG
  have g2 := g_f115_5 hG
  have g3 := g_f135_1 hG
  refine dr1_ok (Rt := Q) (wc := (wcL [(25, k_wCRB), (51, k_wCap)])) (stp := []) hcm hcl [(18, 135)] [] 36 ?_
  show ((n < (1 : Int) → Q (some (.inl (-1))) st) ∧ (¬ (n < (1 : Int)) → ((n ≤ (20 : Int) → ((st 0 8 = (135 : Int)) ∧ (115 = 115 ∧ ((135) = 135 ∧ (rq_wCRB n st ∧ (∀ (r4 : Int) (s4 : zS), en_wCRB n st r4 s4 → (rq_wCap r4 s4 ∧ (∀ (r5 : Int), en_wCap r4 s4 r5 → Q (some (.inl r5)) s4)))))))) ∧ (¬ (n ≤ (20 : Int)) → Q (some (.inl (-1))) st))))
  refine ⟨fun h6 => ?_, fun h6 => ?_⟩
  · exact hQ _ _ ⟨hG, (fr_rf _ _), (show ((-1) : Int) = fF (tn 135 st) (st 116) (st 117) (st 115 5) n from (by unfold fF; rw [if_neg (by omega)]))⟩
  · refine ⟨fun h7 => ?_, fun h7 => ?_⟩
    · refine ⟨by omega, ?_⟩
      refine ⟨rfl, rfl, ⟨hG, (show TW (tn 135 st) from tw), (show ∀ i : Nat, (i : Int) < st 115 5 → 0 ≤ st 117 i ∧ st 117 i < 8 from sp), (show 1 ≤ n ∧ n ≤ 20 from by omega)⟩, fun r4 s4 q4 => ?_⟩
      obtain ⟨gs4, fs4, e4, o4, t4⟩ := q4
      change r4 = flT (tn 135 st) (flo (st 116) (st 117) (st 115 5) n) (n - 1 : Int).toNat at e4
      change OPN (st 135 1) (st 116) (st 117) n (st 115 5) (s4 118) at o4
      change TD (tn 135 st) (flo (st 116) (st 117) (st 115 5) n) (n - 1 : Int).toNat (s4 119) (-1) at t4
      refine ⟨(show 0 ≤ r4 from (by have z := hc (by omega); omega)), fun r5 q5 => ?_⟩
      have e5 := q5
      change r5 = cp9 r4 at e5
      exact hQ _ _ ⟨gs4, (fr_tr (fr_rf _ _) fs4 rfl), (show r5 = fF (tn 135 st) (st 116) (st 117) (st 115 5) n from (by unfold fF; rw [if_pos (by omega)]; exact e5.trans (congrArg cp9 e4)))⟩
    · exact hQ _ _ ⟨hG, (fr_rf _ _), (show ((-1) : Int) = fF (tn 135 st) (st 116) (st 117) (st 115 5) n from (by unfold fF; rw [if_neg (by omega)]))⟩
theorem k_wFilledB_m (hTb : aTb zSh rx_tb cl) {D : Nat} (hD : 5 ≤ D) : ∀ as st (Q Q' : zQ), (∀ r st', Q r st' → Q' r st') → k_wFilledB 38 as st Q → cl D 38 as st Q' := by
  intro as st Q Q' hQ h
  unfold k_wFilledB at h
  split at h
  · obtain ⟨rfl, h⟩ := h
    exact c_wFilledB hTb hD (ct_wFilledB_m hQ h)
  · exact h.elim
set_option maxHeartbeats 4000000 in
set_option maxRecDepth 100000 in
theorem c_wFillingB (hTb : aTb zSh rx_tb cl) {D : Nat} (hD : 6 ≤ D) {n k : Int} {st : zS} {Q : zQ} (h : ct_wFillingB n k st Q) : cl D 24 [.inr (.inr (.inl 0)), .inl n, .inl k] st Q := by
  obtain ⟨d, rfl⟩ : ∃ d, D = d + 1 := ⟨D - 1, by omega⟩
  refine hTb d 24 (rx_m24, 3, 0, 0, 1) rfl _ _ _ (Nat.le_of_ble_eq_true rfl) (fun K hcl hsf hsl => ?_)
  have hcm : zmo (wcL [(54, k_wPFB)]) (cl d) := (wcL_m (wm_cons (k_wPFB_m hTb (by omega)) wm_nil))
  obtain ⟨hR, hQ⟩ := h
  obtain ⟨hG, dd, tw, sp⟩ := hR
  change st 0 8 = 135 at dd
  change TW (tn 135 st) at tw
  change ∀ i : Nat, (i : Int) < st 115 5 → 0 ≤ st 117 i ∧ st 117 i < 8 at sp
  have g1 := g_f0_8 hG
  have g2 := g_f115_5 hG
  have g3 := g_f135_1 hG
  refine dr1_ok (Rt := Q) (wc := (wcL [(54, k_wPFB)])) (stp := []) hcm hcl [(27, 135)] [] 41 ?_
  show ((n < (1 : Int) → Q (some (.inl (-1))) st) ∧ (¬ (n < (1 : Int)) → (((20 : Int) < n → Q (some (.inl (-1))) st) ∧ (¬ ((20 : Int) < n) → ((k < (0 : Int) → Q (some (.inl (-1))) st) ∧ (¬ (k < (0 : Int)) → ((k < n → ((st 0 8 = (135 : Int)) ∧ (115 = 115 ∧ ((135) = 135 ∧ (rq_wPFB n k st ∧ (∀ (r4 : Int) (s4 : zS), en_wPFB n k st r4 s4 → Q (some (.inl r4)) s4)))))) ∧ (¬ (k < n) → Q (some (.inl (-1))) st))))))))
  refine ⟨fun h5 => ?_, fun h5 => ?_⟩
  · exact hQ _ _ ⟨hG, (fr_rf _ _), (show ((-1) : Int) = fG (tn 135 st) (st 116) (st 117) (st 115 5) n k from (by unfold fG; rw [if_neg (fun z => by omega)]))⟩
  · refine ⟨fun h6 => ?_, fun h6 => ?_⟩
    · exact hQ _ _ ⟨hG, (fr_rf _ _), (show ((-1) : Int) = fG (tn 135 st) (st 116) (st 117) (st 115 5) n k from (by unfold fG; rw [if_neg (fun z => by omega)]))⟩
    · refine ⟨fun h7 => ?_, fun h7 => ?_⟩
      · exact hQ _ _ ⟨hG, (fr_rf _ _), (show ((-1) : Int) = fG (tn 135 st) (st 116) (st 117) (st 115 5) n k from (by unfold fG; rw [if_neg (fun z => by omega)]))⟩
      · refine ⟨fun h8 => ?_, fun h8 => ?_⟩
        · refine ⟨by omega, ?_⟩
          refine ⟨rfl, rfl, ⟨hG, (show TW (tn 135 st) from tw), (show ∀ i : Nat, (i : Int) < st 115 5 → 0 ≤ st 117 i ∧ st 117 i < 8 from sp), (show 1 ≤ n ∧ n ≤ 20 ∧ 0 ≤ k ∧ k < n from by omega)⟩, fun r4 s4 q4 => ?_⟩
          obtain ⟨gs4, fs4, e4⟩ := q4
          change (flT (tn 135 st) (flo (st 116) (st 117) (st 115 5) n) (n - 1 : Int).toNat = 0 → r4 = -1) ∧ (¬ flT (tn 135 st) (flo (st 116) (st 117) (st 115 5) n) (n - 1 : Int).toNat = 0 → r4 = flG (tn 135 st) (flo (st 116) (st 117) (st 115 5) n) (n - 1 : Int).toNat (k + 1 : Int).toNat) at e4
          exact hQ _ _ ⟨gs4, (fr_tr (fr_rf _ _) fs4 rfl), (show r4 = fG (tn 135 st) (st 116) (st 117) (st 115 5) n k from (by
          unfold fG
          by_cases q : flT (tn 135 st) (flo (st 116) (st 117) (st 115 5) n) (n - 1 : Int).toNat = 0
          · rw [if_neg (fun z => z.2.2 q)]
            exact e4.1 q
          · rw [if_pos ⟨by omega, by omega, q⟩]
            exact e4.2 q))⟩
        · exact hQ _ _ ⟨hG, (fr_rf _ _), (show ((-1) : Int) = fG (tn 135 st) (st 116) (st 117) (st 115 5) n k from (by unfold fG; rw [if_neg (fun z => by omega)]))⟩
theorem k_wFillingB_m (hTb : aTb zSh rx_tb cl) {D : Nat} (hD : 6 ≤ D) : ∀ as st (Q Q' : zQ), (∀ r st', Q r st' → Q' r st') → k_wFillingB 24 as st Q → cl D 24 as st Q' := by
  intro as st Q Q' hQ h
  unfold k_wFillingB at h
  split at h
  · obtain ⟨rfl, h⟩ := h
    exact c_wFillingB hTb hD (ct_wFillingB_m hQ h)
  · exact h.elim
set_option maxHeartbeats 4000000 in
set_option maxRecDepth 100000 in
theorem c_wAskedB (hTb : aTb zSh rx_tb cl) {D : Nat} (hD : 5 ≤ D) {n x : Int} {st : zS} {Q : zQ} (h : ct_wAskedB n x st Q) : cl D 37 [.inr (.inr (.inl 0)), .inl n, .inl x] st Q := by
  obtain ⟨d, rfl⟩ : ∃ d, D = d + 1 := ⟨D - 1, by omega⟩
  refine hTb d 37 (rx_m37, 3, 0, 0, 1) rfl _ _ _ (Nat.le_of_ble_eq_true rfl) (fun K hcl hsf hsl => ?_)
  have hcm : zmo (wcL [(25, k_wCRB), (228, k_wAskB), (51, k_wCap)]) (cl d) := (wcL_m (wm_cons (k_wCRB_m hTb (by omega)) (wm_cons (k_wAskB_m hTb (by omega)) (wm_cons (k_wCap_m hTb (by omega)) wm_nil))))
  obtain ⟨hR, hQ⟩ := h
  obtain ⟨hG, dd, tw, sp⟩ := hR
  change st 0 8 = 135 at dd
  change TW (tn 135 st) at tw
  change ∀ i : Nat, (i : Int) < st 115 5 → 0 ≤ st 117 i ∧ st 117 i < 8 at sp
  have hc := fun (hn : 1 ≤ n ∧ n ≤ 20) => flT_c (T := (tn 135 st)) (by show (st 135 1 : Int).toNat ≤ 8; have z : 0 ≤ st 135 1 ∧ st 135 1 ≤ 8 := tw.1.1; omega) (flo (st 116) (st 117) (st 115 5) n) (m := (n - 1 : Int).toNat) (by omega)
  have g1 := g_f0_8 hG
  have g2 := g_f115_5 hG
  have g3 := g_f135_1 hG
  refine dr1_ok (Rt := Q) (wc := (wcL [(25, k_wCRB), (228, k_wAskB), (51, k_wCap)])) (stp := []) hcm hcl [(27, 135), (46, 135)] [] 61 ?_
  show ((n < (1 : Int) → Q (some (.inl (-1))) st) ∧ (¬ (n < (1 : Int)) → (((20 : Int) < n → Q (some (.inl (-1))) st) ∧ (¬ ((20 : Int) < n) → ((x < (0 : Int) → Q (some (.inl (-1))) st) ∧ (¬ (x < (0 : Int)) → ((x ≤ (1 : Int) → ((st 0 8 = (135 : Int)) ∧ (115 = 115 ∧ ((135) = 135 ∧ (rq_wCRB n st ∧ (∀ (r4 : Int) (s4 : zS), en_wCRB n st r4 s4 → (∀ (w5 : Int), (r4 < 0 ∧ w5 = -1 ∨ r4 = 0 ∧ w5 = 0 ∨ 0 < r4 ∧ w5 = 1) → ((¬ w5 = (0 : Int) → ((s4 0 8 = (135 : Int)) ∧ (115 = 115 ∧ ((135) = 135 ∧ (rq_wAskB n s4 ∧ (∀ (s6 : zS), en_wAskB n s4 s6 → ((¬ x = (0 : Int) → (rq_wCap (s6 115 7) s6 ∧ (∀ (r7 : Int), en_wCap (s6 115 7) s6 r7 → Q (some (.inl r7)) s6))) ∧ (¬ (¬ x = (0 : Int)) → Q (some (.inl (s6 115 6))) s6)))))))) ∧ (¬ (¬ w5 = (0 : Int)) → Q (some (.inl (-1))) s4))))))))) ∧ (¬ (x ≤ (1 : Int)) → Q (some (.inl (-1))) st))))))))
  refine ⟨fun h8 => ?_, fun h8 => ?_⟩
  · exact hQ _ _ ⟨hG, (fr_rf _ _), (show ((-1) : Int) = fA (tn 135 st) (st 116) (st 117) (st 115 5) n x from (by unfold fA; rw [if_neg (fun z => by omega)]))⟩
  · refine ⟨fun h9 => ?_, fun h9 => ?_⟩
    · exact hQ _ _ ⟨hG, (fr_rf _ _), (show ((-1) : Int) = fA (tn 135 st) (st 116) (st 117) (st 115 5) n x from (by unfold fA; rw [if_neg (fun z => by omega)]))⟩
    · refine ⟨fun h10 => ?_, fun h10 => ?_⟩
      · exact hQ _ _ ⟨hG, (fr_rf _ _), (show ((-1) : Int) = fA (tn 135 st) (st 116) (st 117) (st 115 5) n x from (by unfold fA; rw [if_neg (fun z => by omega)]))⟩
      · refine ⟨fun h11 => ?_, fun h11 => ?_⟩
        · refine ⟨by omega, ?_⟩
          refine ⟨rfl, rfl, ⟨hG, (show TW (tn 135 st) from tw), (show ∀ i : Nat, (i : Int) < st 115 5 → 0 ≤ st 117 i ∧ st 117 i < 8 from sp), (show 1 ≤ n ∧ n ≤ 20 from by omega)⟩, fun r4 s4 q4 => ?_⟩
          obtain ⟨gs4, fs4, e4, o4, t4⟩ := q4
          change r4 = flT (tn 135 st) (flo (st 116) (st 117) (st 115 5) n) (n - 1 : Int).toNat at e4
          change OPN (st 135 1) (st 116) (st 117) n (st 115 5) (s4 118) at o4
          change TD (tn 135 st) (flo (st 116) (st 117) (st 115 5) n) (n - 1 : Int).toNat (s4 119) (-1) at t4
          have e_ := e4
          intro w5 hw5
          refine ⟨fun h12 => ?_, fun h12 => ?_⟩
          · have e13 : s4 0 8 = st 0 8 := fs4 0 8 rfl rfl
            refine ⟨by omega, ?_⟩
            refine ⟨rfl, rfl, ⟨gs4, (show TW (tn 135 s4) from (by rw [(tn_fr rfl fs4 : tn 135 s4 = tn 135 st)]; exact tw)), (show 1 ≤ n ∧ n ≤ 20 from by omega), (show OPN (s4 135 1) (s4 116) (s4 117) n (s4 115 5) (s4 118) from (by
          rw [show s4 116 = st 116 from funext (fun i => fs4 116 i rfl rfl), show s4 117 = st 117 from funext (fun i => fs4 117 i rfl rfl), show s4 115 5 = st 115 5 from fs4 115 5 rfl rfl, show s4 135 1 = st 135 1 from fs4 135 1 rfl rfl]
          exact o4)), (show TD (tn 135 s4) (flo (s4 116) (s4 117) (s4 115 5) n) (n - 1 : Int).toNat (s4 119) (-1) from (by
          rw [show s4 116 = st 116 from funext (fun i => fs4 116 i rfl rfl), show s4 117 = st 117 from funext (fun i => fs4 117 i rfl rfl), show s4 115 5 = st 115 5 from fs4 115 5 rfl rfl, (tn_fr rfl fs4 : tn 135 s4 = tn 135 st)]
          exact t4))⟩, fun s6 q6 => ?_⟩
            obtain ⟨gs6, fs6, o6⟩ := q6
            change AK (fun j => flM (tn 135 s4) (flo (s4 116) (s4 117) (s4 115 5) n) (n - 1 : Int).toNat j) n (s6 115 6) (s6 115 7) at o6
            rw [show s4 116 = st 116 from funext (fun i => fs4 116 i rfl rfl), show s4 117 = st 117 from funext (fun i => fs4 117 i rfl rfl), show s4 115 5 = st 115 5 from fs4 115 5 rfl rfl, (tn_fr rfl fs4 : tn 135 s4 = tn 135 st)] at o6
            refine ⟨fun h14 => ?_, fun h14 => ?_⟩
            · have g15 := g_f115_7 gs6
              refine ⟨(show 0 ≤ (s6 115 7) from (by
          have z := o6
          rcases z with ⟨z1, z2⟩ | ⟨z1, z2, z3⟩
          · exfalso; omega
          · rw [z3]
            exact (flM_c (T := (tn 135 st)) (by show (st 135 1 : Int).toNat ≤ 8; have z : 0 ≤ st 135 1 ∧ st 135 1 ≤ 8 := tw.1.1; omega) (flo (st 116) (st 117) (st 115 5) n) (Nat.le_trans (flA_b _ _) (Nat.le_refl _)) (by omega)).1)), fun r7 q7 => ?_⟩
              have e7 := q7
              change r7 = cp9 (s6 115 7) at e7
              exact hQ _ _ ⟨gs6, (fr_tr (fr_tr (fr_rf _ _) fs4 rfl) fs6 rfl), (show r7 = fA (tn 135 st) (st 116) (st 117) (st 115 5) n x from (by
          unfold fA
          rw [if_pos ⟨by omega, by omega, by omega⟩]
          rcases o6 with ⟨z1, z2⟩ | ⟨z1, z2, z3⟩
          · exfalso; omega
          · rw [if_neg (by omega)]
            have z4 := e7
            rw [z3] at z4
            exact z4))⟩
            · have g16 := g_f115_6 gs6
              exact hQ _ _ ⟨gs6, (fr_tr (fr_tr (fr_rf _ _) fs4 rfl) fs6 rfl), (show (s6 115 6) = fA (tn 135 st) (st 116) (st 117) (st 115 5) n x from (by
          unfold fA
          rw [if_pos ⟨by omega, by omega, by omega⟩]
          rcases o6 with ⟨z1, z2⟩ | ⟨z1, z2, z3⟩
          · exfalso; omega
          · rw [if_pos (by omega)]
            exact z2))⟩
          · exact hQ _ _ ⟨gs4, (fr_tr (fr_rf _ _) fs4 rfl), (show ((-1) : Int) = fA (tn 135 st) (st 116) (st 117) (st 115 5) n x from (by unfold fA; rw [if_neg (fun z => z.2.2 (by omega))]))⟩
        · exact hQ _ _ ⟨hG, (fr_rf _ _), (show ((-1) : Int) = fA (tn 135 st) (st 116) (st 117) (st 115 5) n x from (by unfold fA; rw [if_neg (fun z => by omega)]))⟩
theorem k_wAskedB_m (hTb : aTb zSh rx_tb cl) {D : Nat} (hD : 5 ≤ D) : ∀ as st (Q Q' : zQ), (∀ r st', Q r st' → Q' r st') → k_wAskedB 37 as st Q → cl D 37 as st Q' := by
  intro as st Q Q' hQ h
  unfold k_wAskedB at h
  split at h
  · obtain ⟨rfl, h⟩ := h
    exact c_wAskedB hTb hD (ct_wAskedB_m hQ h)
  · exact h.elim
end XYP
