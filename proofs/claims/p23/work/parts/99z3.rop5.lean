/-! printed by wip/pw/r/q3.py -/
def m_rLexA : aM := ([(170, 8), (170, 9)], [])
def rq_rLexA  (st : zS) : Prop := gInv zgt st
def en_rLexA  (st : zS) (s1 : zS) : Prop := gInv zgt s1 ∧ aFr m_rLexA st s1 ∧ ((st 170 12 = -1 → s1 170 8 = st 170 8) ∧ (¬ st 170 12 = -1 → 0 < s1 170 8) ∧ (0 < st 170 8 → 0 < s1 170 8))
def ct_rLexA  (st : zS) (Q : zQ) : Prop := rq_rLexA  st ∧ (∀ (s1 : zS), en_rLexA  st s1 → Q none s1)
theorem ct_rLexA_m {st : zS} {Q Q' : zQ} (hQ : ∀ r st', Q r st' → Q' r st') (h : ct_rLexA  st Q) : ct_rLexA  st Q' := ⟨h.1, fun x0 x1 => hQ _ _ (h.2 x0 x1)⟩
def k_rLexA : zCall := fun _ as st Q => match as with
  | [.inr (.inr (.inl z_o))] => z_o = 170 ∧ ct_rLexA  st Q
  | _ => False
def m_rOpensF : aM := ([(170, 3), (170, 4), (170, 5), (170, 6), (170, 7), (170, 8), (170, 9), (170, 12), (170, 42), (170, 43)], [192, 193, 194, 196])
def rq_rOpensF (k : Int) (st : zS) : Prop := gInv zgt st ∧ (st 170 43 = 7 ∨ 0 < st 170 8)
def en_rOpensF (k : Int) (st : zS) (s1 : zS) : Prop := gInv zgt s1 ∧ aFr m_rOpensF st s1 ∧ (0 < s1 170 8)
def ct_rOpensF (k : Int) (st : zS) (Q : zQ) : Prop := rq_rOpensF k st ∧ (∀ (s1 : zS), en_rOpensF k st s1 → Q none s1)
theorem ct_rOpensF_m {k : Int} {st : zS} {Q Q' : zQ} (hQ : ∀ r st', Q r st' → Q' r st') (h : ct_rOpensF k st Q) : ct_rOpensF k st Q' := ⟨h.1, fun x0 x1 => hQ _ _ (h.2 x0 x1)⟩
def k_rOpensF : zCall := fun _ as st Q => match as with
  | [.inr (.inr (.inl z_o)), .inl k] => z_o = 170 ∧ ct_rOpensF k st Q
  | _ => False
def m_rOp536 : aM := ([(170, 3), (170, 4), (170, 5), (170, 6), (170, 7), (170, 8), (170, 9), (170, 12), (170, 34), (170, 42), (170, 43), (170, 45)], [188, 189, 192, 193, 194, 195, 196, 197])
def rq_rOp536 (t : Int → Int) (n k ph bg pr o p e : Int) (w c : List Int) (fs : List mFr) (e1 : Int) (st : zS) : Prop := gInv zgt st ∧ (mcP t n st ((k, ph, bg, pr, w) :: fs) 0 (o) (c) (p)) ∧ (tk t n p 1 7170414 e ∧ tk t n e 3 40 e1 ∧ o < 7 ∧ fs.length ≤ 7)
def en_rOp536 (t : Int → Int) (n k ph bg pr o p e : Int) (w c : List Int) (fs : List mFr) (e1 : Int) (st : zS) (r : Int) (s1 : zS) : Prop := gInv zgt s1 ∧ aFr m_rOp536 st s1 ∧ Z9 st s1 ∧ (r = 0 ∧ mcP t n s1 ((3, 0, 1, 36, []) :: (k, ph, 0, pr, w) :: fs) 0 (o + 1) (c) (e1))
def ct_rOp536 (t : Int → Int) (n k ph bg pr o p e : Int) (w c : List Int) (fs : List mFr) (e1 : Int) (st : zS) (Q : zQ) : Prop := rq_rOp536 t n k ph bg pr o p e w c fs e1 st ∧ (∀ (r : Int) (s1 : zS), en_rOp536 t n k ph bg pr o p e w c fs e1 st r s1 → Q (some (.inl r)) s1)
theorem ct_rOp536_m {t : Int → Int} {n k ph bg pr o p e : Int} {w c : List Int} {fs : List mFr} {e1 : Int} {st : zS} {Q Q' : zQ} (hQ : ∀ r st', Q r st' → Q' r st') (h : ct_rOp536 t n k ph bg pr o p e w c fs e1 st Q) : ct_rOp536 t n k ph bg pr o p e w c fs e1 st Q' := ⟨h.1, fun x0 x1 x2 => hQ _ _ (h.2 x0 x1 x2)⟩
def k_rOp536 (t : Int → Int) (n k ph bg pr o p e : Int) (w c : List Int) (fs : List mFr) (e1 : Int) : zCall := fun _ as st Q => match as with
  | [.inr (.inr (.inl z_o))] => z_o = 170 ∧ ct_rOp536 t n k ph bg pr o p e w c fs e1 st Q
  | _ => False
def m_rOp537 : aM := ([(170, 3), (170, 4), (170, 5), (170, 6), (170, 7), (170, 8), (170, 9), (170, 12), (170, 34), (170, 42), (170, 43), (170, 45)], [188, 189, 192, 193, 194, 195, 196, 197])
def rq_rOp537 (t : Int → Int) (n k ph bg pr o p e : Int) (w c : List Int) (fs : List mFr) (e1 : Int) (st : zS) : Prop := gInv zgt st ∧ (mcP t n st ((k, ph, bg, pr, w) :: fs) 0 (o) (c) (p)) ∧ (tk t n p 1 7168376 e ∧ tk t n e 3 40 e1 ∧ o < 7 ∧ fs.length ≤ 7)
def en_rOp537 (t : Int → Int) (n k ph bg pr o p e : Int) (w c : List Int) (fs : List mFr) (e1 : Int) (st : zS) (r : Int) (s1 : zS) : Prop := gInv zgt s1 ∧ aFr m_rOp537 st s1 ∧ Z9 st s1 ∧ (r = 0 ∧ mcP t n s1 ((3, 0, 1, 37, []) :: (k, ph, 0, pr, w) :: fs) 0 (o + 1) (c) (e1))
def ct_rOp537 (t : Int → Int) (n k ph bg pr o p e : Int) (w c : List Int) (fs : List mFr) (e1 : Int) (st : zS) (Q : zQ) : Prop := rq_rOp537 t n k ph bg pr o p e w c fs e1 st ∧ (∀ (r : Int) (s1 : zS), en_rOp537 t n k ph bg pr o p e w c fs e1 st r s1 → Q (some (.inl r)) s1)
theorem ct_rOp537_m {t : Int → Int} {n k ph bg pr o p e : Int} {w c : List Int} {fs : List mFr} {e1 : Int} {st : zS} {Q Q' : zQ} (hQ : ∀ r st', Q r st' → Q' r st') (h : ct_rOp537 t n k ph bg pr o p e w c fs e1 st Q) : ct_rOp537 t n k ph bg pr o p e w c fs e1 st Q' := ⟨h.1, fun x0 x1 x2 => hQ _ _ (h.2 x0 x1 x2)⟩
def k_rOp537 (t : Int → Int) (n k ph bg pr o p e : Int) (w c : List Int) (fs : List mFr) (e1 : Int) : zCall := fun _ as st Q => match as with
  | [.inr (.inr (.inl z_o))] => z_o = 170 ∧ ct_rOp537 t n k ph bg pr o p e w c fs e1 st Q
  | _ => False
def m_rOp544 : aM := ([(170, 3), (170, 4), (170, 5), (170, 6), (170, 7), (170, 8), (170, 9), (170, 12), (170, 34), (170, 42), (170, 43), (170, 45)], [188, 189, 192, 193, 194, 195, 196, 197])
def rq_rOp544 (t : Int → Int) (n k ph bg pr o p e : Int) (w c : List Int) (fs : List mFr) (e1 : Int) (st : zS) : Prop := gInv zgt st ∧ (mcP t n st ((k, ph, bg, pr, w) :: fs) 0 (o) (c) (p)) ∧ (tk t n p 1 26982 e ∧ tk t n e 3 40 e1 ∧ o < 7 ∧ fs.length ≤ 7)
def en_rOp544 (t : Int → Int) (n k ph bg pr o p e : Int) (w c : List Int) (fs : List mFr) (e1 : Int) (st : zS) (r : Int) (s1 : zS) : Prop := gInv zgt s1 ∧ aFr m_rOp544 st s1 ∧ Z9 st s1 ∧ (r = 0 ∧ mcP t n s1 ((6, 0, 1, 44, []) :: (k, ph, 0, pr, w) :: fs) 0 (o + 1) (c) (e1))
def ct_rOp544 (t : Int → Int) (n k ph bg pr o p e : Int) (w c : List Int) (fs : List mFr) (e1 : Int) (st : zS) (Q : zQ) : Prop := rq_rOp544 t n k ph bg pr o p e w c fs e1 st ∧ (∀ (r : Int) (s1 : zS), en_rOp544 t n k ph bg pr o p e w c fs e1 st r s1 → Q (some (.inl r)) s1)
theorem ct_rOp544_m {t : Int → Int} {n k ph bg pr o p e : Int} {w c : List Int} {fs : List mFr} {e1 : Int} {st : zS} {Q Q' : zQ} (hQ : ∀ r st', Q r st' → Q' r st') (h : ct_rOp544 t n k ph bg pr o p e w c fs e1 st Q) : ct_rOp544 t n k ph bg pr o p e w c fs e1 st Q' := ⟨h.1, fun x0 x1 x2 => hQ _ _ (h.2 x0 x1 x2)⟩
def k_rOp544 (t : Int → Int) (n k ph bg pr o p e : Int) (w c : List Int) (fs : List mFr) (e1 : Int) : zCall := fun _ as st Q => match as with
  | [.inr (.inr (.inl z_o))] => z_o = 170 ∧ ct_rOp544 t n k ph bg pr o p e w c fs e1 st Q
  | _ => False
def m_rOpF1 : aM := ([(170, 3), (170, 4), (170, 5), (170, 6), (170, 7), (170, 8), (170, 9), (170, 12), (170, 34), (170, 42), (170, 43), (170, 45)], [188, 189, 192, 193, 194, 195, 196, 197])
def rq_rOpF1 (t : Int → Int) (n k ph bg pr o p e : Int) (w c : List Int) (fs : List mFr) (st : zS) : Prop := gInv zgt st ∧ (mcP t n st ((k, ph, bg, pr, w) :: fs) 0 (o) (c) (p)) ∧ (isT k ∧ bg = 1 ∧ tk t n p 1 7237492 e ∧ 7 ≤ o)
def en_rOpF1 (t : Int → Int) (n k ph bg pr o p e : Int) (w c : List Int) (fs : List mFr) (st : zS) (r : Int) (s1 : zS) : Prop := gInv zgt s1 ∧ aFr m_rOpF1 st s1 ∧ Z9 st s1 ∧ (0 < s1 170 8 ∧ (r = 0 ∨ r = 1))
def ct_rOpF1 (t : Int → Int) (n k ph bg pr o p e : Int) (w c : List Int) (fs : List mFr) (st : zS) (Q : zQ) : Prop := rq_rOpF1 t n k ph bg pr o p e w c fs st ∧ (∀ (r : Int) (s1 : zS), en_rOpF1 t n k ph bg pr o p e w c fs st r s1 → Q (some (.inl r)) s1)
theorem ct_rOpF1_m {t : Int → Int} {n k ph bg pr o p e : Int} {w c : List Int} {fs : List mFr} {st : zS} {Q Q' : zQ} (hQ : ∀ r st', Q r st' → Q' r st') (h : ct_rOpF1 t n k ph bg pr o p e w c fs st Q) : ct_rOpF1 t n k ph bg pr o p e w c fs st Q' := ⟨h.1, fun x0 x1 x2 => hQ _ _ (h.2 x0 x1 x2)⟩
def k_rOpF1 (t : Int → Int) (n k ph bg pr o p e : Int) (w c : List Int) (fs : List mFr) : zCall := fun _ as st Q => match as with
  | [.inr (.inr (.inl z_o))] => z_o = 170 ∧ ct_rOpF1 t n k ph bg pr o p e w c fs st Q
  | _ => False
def m_rOpF2 : aM := ([(170, 3), (170, 4), (170, 5), (170, 6), (170, 7), (170, 8), (170, 9), (170, 12), (170, 34), (170, 42), (170, 43), (170, 45)], [188, 189, 192, 193, 194, 195, 196, 197])
def rq_rOpF2 (t : Int → Int) (n k ph bg pr o p e : Int) (w c : List Int) (fs : List mFr) (st : zS) : Prop := gInv zgt st ∧ (mcP t n st ((k, ph, bg, pr, w) :: fs) 0 (o) (c) (p)) ∧ (isT k ∧ bg = 1 ∧ tk t n p 3 91 e ∧ 7 ≤ o)
def en_rOpF2 (t : Int → Int) (n k ph bg pr o p e : Int) (w c : List Int) (fs : List mFr) (st : zS) (r : Int) (s1 : zS) : Prop := gInv zgt s1 ∧ aFr m_rOpF2 st s1 ∧ Z9 st s1 ∧ (0 < s1 170 8 ∧ (r = 0 ∨ r = 1))
def ct_rOpF2 (t : Int → Int) (n k ph bg pr o p e : Int) (w c : List Int) (fs : List mFr) (st : zS) (Q : zQ) : Prop := rq_rOpF2 t n k ph bg pr o p e w c fs st ∧ (∀ (r : Int) (s1 : zS), en_rOpF2 t n k ph bg pr o p e w c fs st r s1 → Q (some (.inl r)) s1)
theorem ct_rOpF2_m {t : Int → Int} {n k ph bg pr o p e : Int} {w c : List Int} {fs : List mFr} {st : zS} {Q Q' : zQ} (hQ : ∀ r st', Q r st' → Q' r st') (h : ct_rOpF2 t n k ph bg pr o p e w c fs st Q) : ct_rOpF2 t n k ph bg pr o p e w c fs st Q' := ⟨h.1, fun x0 x1 x2 => hQ _ _ (h.2 x0 x1 x2)⟩
def k_rOpF2 (t : Int → Int) (n k ph bg pr o p e : Int) (w c : List Int) (fs : List mFr) : zCall := fun _ as st Q => match as with
  | [.inr (.inr (.inl z_o))] => z_o = 170 ∧ ct_rOpF2 t n k ph bg pr o p e w c fs st Q
  | _ => False
def m_rOpF4 : aM := ([(170, 3), (170, 4), (170, 5), (170, 6), (170, 7), (170, 8), (170, 9), (170, 12), (170, 34), (170, 42), (170, 43), (170, 45)], [188, 189, 192, 193, 194, 195, 196, 197])
def rq_rOpF4 (t : Int → Int) (n k ph bg pr o p e : Int) (w c : List Int) (fs : List mFr) (st : zS) : Prop := gInv zgt st ∧ (mcP t n st ((k, ph, bg, pr, w) :: fs) 0 (o) (c) (p)) ∧ (tk t n p 3 40 e ∧ 7 ≤ o)
def en_rOpF4 (t : Int → Int) (n k ph bg pr o p e : Int) (w c : List Int) (fs : List mFr) (st : zS) (r : Int) (s1 : zS) : Prop := gInv zgt s1 ∧ aFr m_rOpF4 st s1 ∧ Z9 st s1 ∧ (0 < s1 170 8 ∧ (r = 0 ∨ r = 1))
def ct_rOpF4 (t : Int → Int) (n k ph bg pr o p e : Int) (w c : List Int) (fs : List mFr) (st : zS) (Q : zQ) : Prop := rq_rOpF4 t n k ph bg pr o p e w c fs st ∧ (∀ (r : Int) (s1 : zS), en_rOpF4 t n k ph bg pr o p e w c fs st r s1 → Q (some (.inl r)) s1)
theorem ct_rOpF4_m {t : Int → Int} {n k ph bg pr o p e : Int} {w c : List Int} {fs : List mFr} {st : zS} {Q Q' : zQ} (hQ : ∀ r st', Q r st' → Q' r st') (h : ct_rOpF4 t n k ph bg pr o p e w c fs st Q) : ct_rOpF4 t n k ph bg pr o p e w c fs st Q' := ⟨h.1, fun x0 x1 x2 => hQ _ _ (h.2 x0 x1 x2)⟩
def k_rOpF4 (t : Int → Int) (n k ph bg pr o p e : Int) (w c : List Int) (fs : List mFr) : zCall := fun _ as st Q => match as with
  | [.inr (.inr (.inl z_o))] => z_o = 170 ∧ ct_rOpF4 t n k ph bg pr o p e w c fs st Q
  | _ => False
def m_rOpF536 : aM := ([(170, 3), (170, 4), (170, 5), (170, 6), (170, 7), (170, 8), (170, 9), (170, 12), (170, 34), (170, 42), (170, 43), (170, 45)], [188, 189, 192, 193, 194, 195, 196, 197])
def rq_rOpF536 (t : Int → Int) (n k ph bg pr o p e : Int) (w c : List Int) (fs : List mFr) (kk v2 e1 : Int) (st : zS) : Prop := gInv zgt st ∧ (mcP t n st ((k, ph, bg, pr, w) :: fs) 0 (o) (c) (p)) ∧ (tk t n p 1 7170414 e ∧ tk t n e kk v2 e1 ∧ (¬ (kk = 3 ∧ v2 = 40) ∨ 7 ≤ o))
def en_rOpF536 (t : Int → Int) (n k ph bg pr o p e : Int) (w c : List Int) (fs : List mFr) (kk v2 e1 : Int) (st : zS) (r : Int) (s1 : zS) : Prop := gInv zgt s1 ∧ aFr m_rOpF536 st s1 ∧ Z9 st s1 ∧ (0 < s1 170 8 ∧ (r = 0 ∨ r = 1))
def ct_rOpF536 (t : Int → Int) (n k ph bg pr o p e : Int) (w c : List Int) (fs : List mFr) (kk v2 e1 : Int) (st : zS) (Q : zQ) : Prop := rq_rOpF536 t n k ph bg pr o p e w c fs kk v2 e1 st ∧ (∀ (r : Int) (s1 : zS), en_rOpF536 t n k ph bg pr o p e w c fs kk v2 e1 st r s1 → Q (some (.inl r)) s1)
theorem ct_rOpF536_m {t : Int → Int} {n k ph bg pr o p e : Int} {w c : List Int} {fs : List mFr} {kk v2 e1 : Int} {st : zS} {Q Q' : zQ} (hQ : ∀ r st', Q r st' → Q' r st') (h : ct_rOpF536 t n k ph bg pr o p e w c fs kk v2 e1 st Q) : ct_rOpF536 t n k ph bg pr o p e w c fs kk v2 e1 st Q' := ⟨h.1, fun x0 x1 x2 => hQ _ _ (h.2 x0 x1 x2)⟩
def k_rOpF536 (t : Int → Int) (n k ph bg pr o p e : Int) (w c : List Int) (fs : List mFr) (kk v2 e1 : Int) : zCall := fun _ as st Q => match as with
  | [.inr (.inr (.inl z_o))] => z_o = 170 ∧ ct_rOpF536 t n k ph bg pr o p e w c fs kk v2 e1 st Q
  | _ => False
def m_rOpF537 : aM := ([(170, 3), (170, 4), (170, 5), (170, 6), (170, 7), (170, 8), (170, 9), (170, 12), (170, 34), (170, 42), (170, 43), (170, 45)], [188, 189, 192, 193, 194, 195, 196, 197])
def rq_rOpF537 (t : Int → Int) (n k ph bg pr o p e : Int) (w c : List Int) (fs : List mFr) (kk v2 e1 : Int) (st : zS) : Prop := gInv zgt st ∧ (mcP t n st ((k, ph, bg, pr, w) :: fs) 0 (o) (c) (p)) ∧ (tk t n p 1 7168376 e ∧ tk t n e kk v2 e1 ∧ (¬ (kk = 3 ∧ v2 = 40) ∨ 7 ≤ o))
def en_rOpF537 (t : Int → Int) (n k ph bg pr o p e : Int) (w c : List Int) (fs : List mFr) (kk v2 e1 : Int) (st : zS) (r : Int) (s1 : zS) : Prop := gInv zgt s1 ∧ aFr m_rOpF537 st s1 ∧ Z9 st s1 ∧ (0 < s1 170 8 ∧ (r = 0 ∨ r = 1))
def ct_rOpF537 (t : Int → Int) (n k ph bg pr o p e : Int) (w c : List Int) (fs : List mFr) (kk v2 e1 : Int) (st : zS) (Q : zQ) : Prop := rq_rOpF537 t n k ph bg pr o p e w c fs kk v2 e1 st ∧ (∀ (r : Int) (s1 : zS), en_rOpF537 t n k ph bg pr o p e w c fs kk v2 e1 st r s1 → Q (some (.inl r)) s1)
theorem ct_rOpF537_m {t : Int → Int} {n k ph bg pr o p e : Int} {w c : List Int} {fs : List mFr} {kk v2 e1 : Int} {st : zS} {Q Q' : zQ} (hQ : ∀ r st', Q r st' → Q' r st') (h : ct_rOpF537 t n k ph bg pr o p e w c fs kk v2 e1 st Q) : ct_rOpF537 t n k ph bg pr o p e w c fs kk v2 e1 st Q' := ⟨h.1, fun x0 x1 x2 => hQ _ _ (h.2 x0 x1 x2)⟩
def k_rOpF537 (t : Int → Int) (n k ph bg pr o p e : Int) (w c : List Int) (fs : List mFr) (kk v2 e1 : Int) : zCall := fun _ as st Q => match as with
  | [.inr (.inr (.inl z_o))] => z_o = 170 ∧ ct_rOpF537 t n k ph bg pr o p e w c fs kk v2 e1 st Q
  | _ => False
def m_rOpF544 : aM := ([(170, 3), (170, 4), (170, 5), (170, 6), (170, 7), (170, 8), (170, 9), (170, 12), (170, 34), (170, 42), (170, 43), (170, 45)], [188, 189, 192, 193, 194, 195, 196, 197])
def rq_rOpF544 (t : Int → Int) (n k ph bg pr o p e : Int) (w c : List Int) (fs : List mFr) (kk v2 e1 : Int) (st : zS) : Prop := gInv zgt st ∧ (mcP t n st ((k, ph, bg, pr, w) :: fs) 0 (o) (c) (p)) ∧ (tk t n p 1 26982 e ∧ tk t n e kk v2 e1 ∧ (¬ (kk = 3 ∧ v2 = 40) ∨ 7 ≤ o))
def en_rOpF544 (t : Int → Int) (n k ph bg pr o p e : Int) (w c : List Int) (fs : List mFr) (kk v2 e1 : Int) (st : zS) (r : Int) (s1 : zS) : Prop := gInv zgt s1 ∧ aFr m_rOpF544 st s1 ∧ Z9 st s1 ∧ (0 < s1 170 8 ∧ (r = 0 ∨ r = 1))
def ct_rOpF544 (t : Int → Int) (n k ph bg pr o p e : Int) (w c : List Int) (fs : List mFr) (kk v2 e1 : Int) (st : zS) (Q : zQ) : Prop := rq_rOpF544 t n k ph bg pr o p e w c fs kk v2 e1 st ∧ (∀ (r : Int) (s1 : zS), en_rOpF544 t n k ph bg pr o p e w c fs kk v2 e1 st r s1 → Q (some (.inl r)) s1)
theorem ct_rOpF544_m {t : Int → Int} {n k ph bg pr o p e : Int} {w c : List Int} {fs : List mFr} {kk v2 e1 : Int} {st : zS} {Q Q' : zQ} (hQ : ∀ r st', Q r st' → Q' r st') (h : ct_rOpF544 t n k ph bg pr o p e w c fs kk v2 e1 st Q) : ct_rOpF544 t n k ph bg pr o p e w c fs kk v2 e1 st Q' := ⟨h.1, fun x0 x1 x2 => hQ _ _ (h.2 x0 x1 x2)⟩
def k_rOpF544 (t : Int → Int) (n k ph bg pr o p e : Int) (w c : List Int) (fs : List mFr) (kk v2 e1 : Int) : zCall := fun _ as st Q => match as with
  | [.inr (.inr (.inl z_o))] => z_o = 170 ∧ ct_rOpF544 t n k ph bg pr o p e w c fs kk v2 e1 st Q
  | _ => False
def m_rOpF8a : aM := ([(170, 3), (170, 4), (170, 5), (170, 6), (170, 7), (170, 8), (170, 9), (170, 12), (170, 34), (170, 42), (170, 43), (170, 45)], [188, 189, 192, 193, 194, 195, 196, 197])
def rq_rOpF8a (t : Int → Int) (n k ph bg pr o p e : Int) (w c : List Int) (fs : List mFr) (kk v : Int) (st : zS) : Prop := gInv zgt st ∧ (mcP t n st ((k, ph, bg, pr, w) :: fs) 0 (o) (c) (p)) ∧ (isT k ∧ bg = 1 ∧ tk t n p kk v e ∧ ¬ kk = 5 ∧ ¬ kk = 2 ∧ ¬ (kk = 3 ∧ v = 40) ∧ ¬ (kk = 3 ∧ v = 91) ∧ ¬ (kk = 1 ∧ v = 7170414) ∧ ¬ (kk = 1 ∧ v = 7168376) ∧ ¬ (kk = 1 ∧ v = 26982) ∧ ¬ (kk = 1 ∧ v = 1751474548) ∧ ¬ (kk = 1 ∧ v = 2036687218) ∧ ¬ (kk = 1 ∧ v = 1953459300) ∧ ¬ (kk = 1 ∧ v = 1886743660) ∧ ¬ (kk = 1 ∧ v = 1937007984) ∧ ¬ (kk = 1 ∧ v = 1650812270) ∧ ¬ (kk = 1 ∧ v = 495874044019) ∧ ¬ (kk = 1 ∧ v = 1953066341) ∧ ¬ (kk = 1 ∧ v = 465726042227) ∧ ¬ (kk = 1 ∧ v = 7237492) ∧ ¬ (kk = 1 ∧ v = 6384748))
def en_rOpF8a (t : Int → Int) (n k ph bg pr o p e : Int) (w c : List Int) (fs : List mFr) (kk v : Int) (st : zS) (r : Int) (s1 : zS) : Prop := gInv zgt s1 ∧ aFr m_rOpF8a st s1 ∧ Z9 st s1 ∧ (0 < s1 170 8 ∧ (r = 0 ∨ r = 1))
def ct_rOpF8a (t : Int → Int) (n k ph bg pr o p e : Int) (w c : List Int) (fs : List mFr) (kk v : Int) (st : zS) (Q : zQ) : Prop := rq_rOpF8a t n k ph bg pr o p e w c fs kk v st ∧ (∀ (r : Int) (s1 : zS), en_rOpF8a t n k ph bg pr o p e w c fs kk v st r s1 → Q (some (.inl r)) s1)
theorem ct_rOpF8a_m {t : Int → Int} {n k ph bg pr o p e : Int} {w c : List Int} {fs : List mFr} {kk v : Int} {st : zS} {Q Q' : zQ} (hQ : ∀ r st', Q r st' → Q' r st') (h : ct_rOpF8a t n k ph bg pr o p e w c fs kk v st Q) : ct_rOpF8a t n k ph bg pr o p e w c fs kk v st Q' := ⟨h.1, fun x0 x1 x2 => hQ _ _ (h.2 x0 x1 x2)⟩
def k_rOpF8a (t : Int → Int) (n k ph bg pr o p e : Int) (w c : List Int) (fs : List mFr) (kk v : Int) : zCall := fun _ as st Q => match as with
  | [.inr (.inr (.inl z_o))] => z_o = 170 ∧ ct_rOpF8a t n k ph bg pr o p e w c fs kk v st Q
  | _ => False
def m_rOpF8b : aM := ([(170, 3), (170, 4), (170, 5), (170, 6), (170, 7), (170, 8), (170, 9), (170, 12), (170, 34), (170, 42), (170, 43), (170, 45)], [188, 189, 192, 193, 194, 195, 196, 197])
def rq_rOpF8b (t : Int → Int) (n k ph bg pr o p e : Int) (w c : List Int) (fs : List mFr) (kk v : Int) (st : zS) : Prop := gInv zgt st ∧ (mcP t n st ((k, ph, bg, pr, w) :: fs) 0 (o) (c) (p)) ∧ (isT k ∧ ¬ bg = 1 ∧ tk t n p kk v e ∧ ¬ kk = 5 ∧ ¬ kk = 2 ∧ ¬ (kk = 3 ∧ v = 40) ∧ ¬ (kk = 1 ∧ v = 7170414) ∧ ¬ (kk = 1 ∧ v = 7168376) ∧ ¬ (kk = 1 ∧ v = 26982) ∧ ¬ (kk = 1 ∧ v = 1751474548) ∧ ¬ (kk = 1 ∧ v = 2036687218) ∧ ¬ (kk = 1 ∧ v = 1953459300) ∧ ¬ (kk = 1 ∧ v = 1886743660) ∧ ¬ (kk = 1 ∧ v = 1937007984) ∧ ¬ (kk = 1 ∧ v = 1650812270) ∧ ¬ (kk = 1 ∧ v = 495874044019) ∧ ¬ (kk = 1 ∧ v = 1953066341) ∧ ¬ (kk = 1 ∧ v = 465726042227))
def en_rOpF8b (t : Int → Int) (n k ph bg pr o p e : Int) (w c : List Int) (fs : List mFr) (kk v : Int) (st : zS) (r : Int) (s1 : zS) : Prop := gInv zgt s1 ∧ aFr m_rOpF8b st s1 ∧ Z9 st s1 ∧ (0 < s1 170 8 ∧ (r = 0 ∨ r = 1))
def ct_rOpF8b (t : Int → Int) (n k ph bg pr o p e : Int) (w c : List Int) (fs : List mFr) (kk v : Int) (st : zS) (Q : zQ) : Prop := rq_rOpF8b t n k ph bg pr o p e w c fs kk v st ∧ (∀ (r : Int) (s1 : zS), en_rOpF8b t n k ph bg pr o p e w c fs kk v st r s1 → Q (some (.inl r)) s1)
theorem ct_rOpF8b_m {t : Int → Int} {n k ph bg pr o p e : Int} {w c : List Int} {fs : List mFr} {kk v : Int} {st : zS} {Q Q' : zQ} (hQ : ∀ r st', Q r st' → Q' r st') (h : ct_rOpF8b t n k ph bg pr o p e w c fs kk v st Q) : ct_rOpF8b t n k ph bg pr o p e w c fs kk v st Q' := ⟨h.1, fun x0 x1 x2 => hQ _ _ (h.2 x0 x1 x2)⟩
def k_rOpF8b (t : Int → Int) (n k ph bg pr o p e : Int) (w c : List Int) (fs : List mFr) (kk v : Int) : zCall := fun _ as st Q => match as with
  | [.inr (.inr (.inl z_o))] => z_o = 170 ∧ ct_rOpF8b t n k ph bg pr o p e w c fs kk v st Q
  | _ => False
def m_rOpF8c : aM := ([(170, 3), (170, 4), (170, 5), (170, 6), (170, 7), (170, 8), (170, 9), (170, 12), (170, 34), (170, 42), (170, 43), (170, 45)], [188, 189, 192, 193, 194, 195, 196, 197])
def rq_rOpF8c (t : Int → Int) (n k ph bg pr o p e : Int) (w c : List Int) (fs : List mFr) (kk v : Int) (st : zS) : Prop := gInv zgt st ∧ (mcP t n st ((k, ph, bg, pr, w) :: fs) 0 (o) (c) (p)) ∧ (¬ isT k ∧ True ∧ tk t n p kk v e ∧ ¬ kk = 5 ∧ ¬ kk = 2 ∧ ¬ (kk = 3 ∧ v = 40) ∧ ¬ (kk = 1 ∧ v = 7170414) ∧ ¬ (kk = 1 ∧ v = 7168376) ∧ ¬ (kk = 1 ∧ v = 26982) ∧ ¬ (kk = 1 ∧ v = 1751474548) ∧ ¬ (kk = 1 ∧ v = 2036687218) ∧ ¬ (kk = 1 ∧ v = 1953459300) ∧ ¬ (kk = 1 ∧ v = 1886743660) ∧ ¬ (kk = 1 ∧ v = 1937007984) ∧ ¬ (kk = 1 ∧ v = 1650812270) ∧ ¬ (kk = 1 ∧ v = 495874044019) ∧ ¬ (kk = 1 ∧ v = 1953066341) ∧ ¬ (kk = 1 ∧ v = 465726042227))
def en_rOpF8c (t : Int → Int) (n k ph bg pr o p e : Int) (w c : List Int) (fs : List mFr) (kk v : Int) (st : zS) (r : Int) (s1 : zS) : Prop := gInv zgt s1 ∧ aFr m_rOpF8c st s1 ∧ Z9 st s1 ∧ (0 < s1 170 8 ∧ (r = 0 ∨ r = 1))
def ct_rOpF8c (t : Int → Int) (n k ph bg pr o p e : Int) (w c : List Int) (fs : List mFr) (kk v : Int) (st : zS) (Q : zQ) : Prop := rq_rOpF8c t n k ph bg pr o p e w c fs kk v st ∧ (∀ (r : Int) (s1 : zS), en_rOpF8c t n k ph bg pr o p e w c fs kk v st r s1 → Q (some (.inl r)) s1)
theorem ct_rOpF8c_m {t : Int → Int} {n k ph bg pr o p e : Int} {w c : List Int} {fs : List mFr} {kk v : Int} {st : zS} {Q Q' : zQ} (hQ : ∀ r st', Q r st' → Q' r st') (h : ct_rOpF8c t n k ph bg pr o p e w c fs kk v st Q) : ct_rOpF8c t n k ph bg pr o p e w c fs kk v st Q' := ⟨h.1, fun x0 x1 x2 => hQ _ _ (h.2 x0 x1 x2)⟩
def k_rOpF8c (t : Int → Int) (n k ph bg pr o p e : Int) (w c : List Int) (fs : List mFr) (kk v : Int) : zCall := fun _ as st Q => match as with
  | [.inr (.inr (.inl z_o))] => z_o = 170 ∧ ct_rOpF8c t n k ph bg pr o p e w c fs kk v st Q
  | _ => False
def m_rOpF93 : aM := ([(170, 3), (170, 4), (170, 5), (170, 6), (170, 7), (170, 8), (170, 9), (170, 12), (170, 34), (170, 42), (170, 43), (170, 45)], [188, 189, 192, 193, 194, 195, 196, 197])
def rq_rOpF93 (t : Int → Int) (n k ph bg pr o p e : Int) (w c : List Int) (fs : List mFr) (st : zS) : Prop := gInv zgt st ∧ (mcP t n st ((k, ph, bg, pr, w) :: fs) 0 (o) (c) (p)) ∧ (tk t n p 1 1953459300 e ∧ st 170 36 = 1)
def en_rOpF93 (t : Int → Int) (n k ph bg pr o p e : Int) (w c : List Int) (fs : List mFr) (st : zS) (r : Int) (s1 : zS) : Prop := gInv zgt s1 ∧ aFr m_rOpF93 st s1 ∧ Z9 st s1 ∧ (0 < s1 170 8 ∧ (r = 0 ∨ r = 1))
def ct_rOpF93 (t : Int → Int) (n k ph bg pr o p e : Int) (w c : List Int) (fs : List mFr) (st : zS) (Q : zQ) : Prop := rq_rOpF93 t n k ph bg pr o p e w c fs st ∧ (∀ (r : Int) (s1 : zS), en_rOpF93 t n k ph bg pr o p e w c fs st r s1 → Q (some (.inl r)) s1)
theorem ct_rOpF93_m {t : Int → Int} {n k ph bg pr o p e : Int} {w c : List Int} {fs : List mFr} {st : zS} {Q Q' : zQ} (hQ : ∀ r st', Q r st' → Q' r st') (h : ct_rOpF93 t n k ph bg pr o p e w c fs st Q) : ct_rOpF93 t n k ph bg pr o p e w c fs st Q' := ⟨h.1, fun x0 x1 x2 => hQ _ _ (h.2 x0 x1 x2)⟩
def k_rOpF93 (t : Int → Int) (n k ph bg pr o p e : Int) (w c : List Int) (fs : List mFr) : zCall := fun _ as st Q => match as with
  | [.inr (.inr (.inl z_o))] => z_o = 170 ∧ ct_rOpF93 t n k ph bg pr o p e w c fs st Q
  | _ => False
def m_rOpF94 : aM := ([(170, 3), (170, 4), (170, 5), (170, 6), (170, 7), (170, 8), (170, 9), (170, 12), (170, 34), (170, 42), (170, 43), (170, 45)], [188, 189, 192, 193, 194, 195, 196, 197])
def rq_rOpF94 (t : Int → Int) (n k ph bg pr o p e : Int) (w c : List Int) (fs : List mFr) (st : zS) : Prop := gInv zgt st ∧ (mcP t n st ((k, ph, bg, pr, w) :: fs) 0 (o) (c) (p)) ∧ (tk t n p 1 1886743660 e ∧ st 170 36 = 1)
def en_rOpF94 (t : Int → Int) (n k ph bg pr o p e : Int) (w c : List Int) (fs : List mFr) (st : zS) (r : Int) (s1 : zS) : Prop := gInv zgt s1 ∧ aFr m_rOpF94 st s1 ∧ Z9 st s1 ∧ (0 < s1 170 8 ∧ (r = 0 ∨ r = 1))
def ct_rOpF94 (t : Int → Int) (n k ph bg pr o p e : Int) (w c : List Int) (fs : List mFr) (st : zS) (Q : zQ) : Prop := rq_rOpF94 t n k ph bg pr o p e w c fs st ∧ (∀ (r : Int) (s1 : zS), en_rOpF94 t n k ph bg pr o p e w c fs st r s1 → Q (some (.inl r)) s1)
theorem ct_rOpF94_m {t : Int → Int} {n k ph bg pr o p e : Int} {w c : List Int} {fs : List mFr} {st : zS} {Q Q' : zQ} (hQ : ∀ r st', Q r st' → Q' r st') (h : ct_rOpF94 t n k ph bg pr o p e w c fs st Q) : ct_rOpF94 t n k ph bg pr o p e w c fs st Q' := ⟨h.1, fun x0 x1 x2 => hQ _ _ (h.2 x0 x1 x2)⟩
def k_rOpF94 (t : Int → Int) (n k ph bg pr o p e : Int) (w c : List Int) (fs : List mFr) : zCall := fun _ as st Q => match as with
  | [.inr (.inr (.inl z_o))] => z_o = 170 ∧ ct_rOpF94 t n k ph bg pr o p e w c fs st Q
  | _ => False
def m_rOpF95 : aM := ([(170, 3), (170, 4), (170, 5), (170, 6), (170, 7), (170, 8), (170, 9), (170, 12), (170, 34), (170, 42), (170, 43), (170, 45)], [188, 189, 192, 193, 194, 195, 196, 197])
def rq_rOpF95 (t : Int → Int) (n k ph bg pr o p e : Int) (w c : List Int) (fs : List mFr) (st : zS) : Prop := gInv zgt st ∧ (mcP t n st ((k, ph, bg, pr, w) :: fs) 0 (o) (c) (p)) ∧ (tk t n p 1 1937007984 e ∧ st 170 36 = 1)
def en_rOpF95 (t : Int → Int) (n k ph bg pr o p e : Int) (w c : List Int) (fs : List mFr) (st : zS) (r : Int) (s1 : zS) : Prop := gInv zgt s1 ∧ aFr m_rOpF95 st s1 ∧ Z9 st s1 ∧ (0 < s1 170 8 ∧ (r = 0 ∨ r = 1))
def ct_rOpF95 (t : Int → Int) (n k ph bg pr o p e : Int) (w c : List Int) (fs : List mFr) (st : zS) (Q : zQ) : Prop := rq_rOpF95 t n k ph bg pr o p e w c fs st ∧ (∀ (r : Int) (s1 : zS), en_rOpF95 t n k ph bg pr o p e w c fs st r s1 → Q (some (.inl r)) s1)
theorem ct_rOpF95_m {t : Int → Int} {n k ph bg pr o p e : Int} {w c : List Int} {fs : List mFr} {st : zS} {Q Q' : zQ} (hQ : ∀ r st', Q r st' → Q' r st') (h : ct_rOpF95 t n k ph bg pr o p e w c fs st Q) : ct_rOpF95 t n k ph bg pr o p e w c fs st Q' := ⟨h.1, fun x0 x1 x2 => hQ _ _ (h.2 x0 x1 x2)⟩
def k_rOpF95 (t : Int → Int) (n k ph bg pr o p e : Int) (w c : List Int) (fs : List mFr) : zCall := fun _ as st Q => match as with
  | [.inr (.inr (.inl z_o))] => z_o = 170 ∧ ct_rOpF95 t n k ph bg pr o p e w c fs st Q
  | _ => False
def m_rOpF96 : aM := ([(170, 3), (170, 4), (170, 5), (170, 6), (170, 7), (170, 8), (170, 9), (170, 12), (170, 34), (170, 42), (170, 43), (170, 45)], [188, 189, 192, 193, 194, 195, 196, 197])
def rq_rOpF96 (t : Int → Int) (n k ph bg pr o p e : Int) (w c : List Int) (fs : List mFr) (st : zS) : Prop := gInv zgt st ∧ (mcP t n st ((k, ph, bg, pr, w) :: fs) 0 (o) (c) (p)) ∧ (tk t n p 1 1650812270 e ∧ st 170 36 = 1)
def en_rOpF96 (t : Int → Int) (n k ph bg pr o p e : Int) (w c : List Int) (fs : List mFr) (st : zS) (r : Int) (s1 : zS) : Prop := gInv zgt s1 ∧ aFr m_rOpF96 st s1 ∧ Z9 st s1 ∧ (0 < s1 170 8 ∧ (r = 0 ∨ r = 1))
def ct_rOpF96 (t : Int → Int) (n k ph bg pr o p e : Int) (w c : List Int) (fs : List mFr) (st : zS) (Q : zQ) : Prop := rq_rOpF96 t n k ph bg pr o p e w c fs st ∧ (∀ (r : Int) (s1 : zS), en_rOpF96 t n k ph bg pr o p e w c fs st r s1 → Q (some (.inl r)) s1)
theorem ct_rOpF96_m {t : Int → Int} {n k ph bg pr o p e : Int} {w c : List Int} {fs : List mFr} {st : zS} {Q Q' : zQ} (hQ : ∀ r st', Q r st' → Q' r st') (h : ct_rOpF96 t n k ph bg pr o p e w c fs st Q) : ct_rOpF96 t n k ph bg pr o p e w c fs st Q' := ⟨h.1, fun x0 x1 x2 => hQ _ _ (h.2 x0 x1 x2)⟩
def k_rOpF96 (t : Int → Int) (n k ph bg pr o p e : Int) (w c : List Int) (fs : List mFr) : zCall := fun _ as st Q => match as with
  | [.inr (.inr (.inl z_o))] => z_o = 170 ∧ ct_rOpF96 t n k ph bg pr o p e w c fs st Q
  | _ => False
def m_rOpF97 : aM := ([(170, 3), (170, 4), (170, 5), (170, 6), (170, 7), (170, 8), (170, 9), (170, 12), (170, 34), (170, 42), (170, 43), (170, 45)], [188, 189, 192, 193, 194, 195, 196, 197])
def rq_rOpF97 (t : Int → Int) (n k ph bg pr o p e : Int) (w c : List Int) (fs : List mFr) (st : zS) : Prop := gInv zgt st ∧ (mcP t n st ((k, ph, bg, pr, w) :: fs) 0 (o) (c) (p)) ∧ (tk t n p 1 495874044019 e ∧ st 170 36 = 0)
def en_rOpF97 (t : Int → Int) (n k ph bg pr o p e : Int) (w c : List Int) (fs : List mFr) (st : zS) (r : Int) (s1 : zS) : Prop := gInv zgt s1 ∧ aFr m_rOpF97 st s1 ∧ Z9 st s1 ∧ (0 < s1 170 8 ∧ (r = 0 ∨ r = 1))
def ct_rOpF97 (t : Int → Int) (n k ph bg pr o p e : Int) (w c : List Int) (fs : List mFr) (st : zS) (Q : zQ) : Prop := rq_rOpF97 t n k ph bg pr o p e w c fs st ∧ (∀ (r : Int) (s1 : zS), en_rOpF97 t n k ph bg pr o p e w c fs st r s1 → Q (some (.inl r)) s1)
theorem ct_rOpF97_m {t : Int → Int} {n k ph bg pr o p e : Int} {w c : List Int} {fs : List mFr} {st : zS} {Q Q' : zQ} (hQ : ∀ r st', Q r st' → Q' r st') (h : ct_rOpF97 t n k ph bg pr o p e w c fs st Q) : ct_rOpF97 t n k ph bg pr o p e w c fs st Q' := ⟨h.1, fun x0 x1 x2 => hQ _ _ (h.2 x0 x1 x2)⟩
def k_rOpF97 (t : Int → Int) (n k ph bg pr o p e : Int) (w c : List Int) (fs : List mFr) : zCall := fun _ as st Q => match as with
  | [.inr (.inr (.inl z_o))] => z_o = 170 ∧ ct_rOpF97 t n k ph bg pr o p e w c fs st Q
  | _ => False
def m_rOpF98 : aM := ([(170, 3), (170, 4), (170, 5), (170, 6), (170, 7), (170, 8), (170, 9), (170, 12), (170, 34), (170, 42), (170, 43), (170, 45)], [188, 189, 192, 193, 194, 195, 196, 197])
def rq_rOpF98 (t : Int → Int) (n k ph bg pr o p e : Int) (w c : List Int) (fs : List mFr) (st : zS) : Prop := gInv zgt st ∧ (mcP t n st ((k, ph, bg, pr, w) :: fs) 0 (o) (c) (p)) ∧ (tk t n p 1 1953066341 e ∧ st 170 36 = 0)
def en_rOpF98 (t : Int → Int) (n k ph bg pr o p e : Int) (w c : List Int) (fs : List mFr) (st : zS) (r : Int) (s1 : zS) : Prop := gInv zgt s1 ∧ aFr m_rOpF98 st s1 ∧ Z9 st s1 ∧ (0 < s1 170 8 ∧ (r = 0 ∨ r = 1))
def ct_rOpF98 (t : Int → Int) (n k ph bg pr o p e : Int) (w c : List Int) (fs : List mFr) (st : zS) (Q : zQ) : Prop := rq_rOpF98 t n k ph bg pr o p e w c fs st ∧ (∀ (r : Int) (s1 : zS), en_rOpF98 t n k ph bg pr o p e w c fs st r s1 → Q (some (.inl r)) s1)
theorem ct_rOpF98_m {t : Int → Int} {n k ph bg pr o p e : Int} {w c : List Int} {fs : List mFr} {st : zS} {Q Q' : zQ} (hQ : ∀ r st', Q r st' → Q' r st') (h : ct_rOpF98 t n k ph bg pr o p e w c fs st Q) : ct_rOpF98 t n k ph bg pr o p e w c fs st Q' := ⟨h.1, fun x0 x1 x2 => hQ _ _ (h.2 x0 x1 x2)⟩
def k_rOpF98 (t : Int → Int) (n k ph bg pr o p e : Int) (w c : List Int) (fs : List mFr) : zCall := fun _ as st Q => match as with
  | [.inr (.inr (.inl z_o))] => z_o = 170 ∧ ct_rOpF98 t n k ph bg pr o p e w c fs st Q
  | _ => False
def m_rOpF99 : aM := ([(170, 3), (170, 4), (170, 5), (170, 6), (170, 7), (170, 8), (170, 9), (170, 12), (170, 34), (170, 42), (170, 43), (170, 45)], [188, 189, 192, 193, 194, 195, 196, 197])
def rq_rOpF99 (t : Int → Int) (n k ph bg pr o p e : Int) (w c : List Int) (fs : List mFr) (st : zS) : Prop := gInv zgt st ∧ (mcP t n st ((k, ph, bg, pr, w) :: fs) 0 (o) (c) (p)) ∧ (tk t n p 1 465726042227 e ∧ st 170 36 = 0)
def en_rOpF99 (t : Int → Int) (n k ph bg pr o p e : Int) (w c : List Int) (fs : List mFr) (st : zS) (r : Int) (s1 : zS) : Prop := gInv zgt s1 ∧ aFr m_rOpF99 st s1 ∧ Z9 st s1 ∧ (0 < s1 170 8 ∧ (r = 0 ∨ r = 1))
def ct_rOpF99 (t : Int → Int) (n k ph bg pr o p e : Int) (w c : List Int) (fs : List mFr) (st : zS) (Q : zQ) : Prop := rq_rOpF99 t n k ph bg pr o p e w c fs st ∧ (∀ (r : Int) (s1 : zS), en_rOpF99 t n k ph bg pr o p e w c fs st r s1 → Q (some (.inl r)) s1)
theorem ct_rOpF99_m {t : Int → Int} {n k ph bg pr o p e : Int} {w c : List Int} {fs : List mFr} {st : zS} {Q Q' : zQ} (hQ : ∀ r st', Q r st' → Q' r st') (h : ct_rOpF99 t n k ph bg pr o p e w c fs st Q) : ct_rOpF99 t n k ph bg pr o p e w c fs st Q' := ⟨h.1, fun x0 x1 x2 => hQ _ _ (h.2 x0 x1 x2)⟩
def k_rOpF99 (t : Int → Int) (n k ph bg pr o p e : Int) (w c : List Int) (fs : List mFr) : zCall := fun _ as st Q => match as with
  | [.inr (.inr (.inl z_o))] => z_o = 170 ∧ ct_rOpF99 t n k ph bg pr o p e w c fs st Q
  | _ => False
def m_rOpF0 : aM := ([(170, 3), (170, 4), (170, 5), (170, 6), (170, 7), (170, 8), (170, 9), (170, 12), (170, 34), (170, 42), (170, 43), (170, 45)], [188, 189, 192, 193, 194, 195, 196, 197])
def rq_rOpF0 (t : Int → Int) (n k ph bg pr o p e : Int) (w c : List Int) (fs : List mFr) (v : Int) (st : zS) : Prop := gInv zgt st ∧ (mcP t n st ((k, ph, bg, pr, w) :: fs) 0 (o) (c) (p)) ∧ (tk t n p 5 v e)
def en_rOpF0 (t : Int → Int) (n k ph bg pr o p e : Int) (w c : List Int) (fs : List mFr) (v : Int) (st : zS) (r : Int) (s1 : zS) : Prop := gInv zgt s1 ∧ aFr m_rOpF0 st s1 ∧ Z9 st s1 ∧ (0 < s1 170 8 ∧ (r = 0 ∨ r = 1))
def ct_rOpF0 (t : Int → Int) (n k ph bg pr o p e : Int) (w c : List Int) (fs : List mFr) (v : Int) (st : zS) (Q : zQ) : Prop := rq_rOpF0 t n k ph bg pr o p e w c fs v st ∧ (∀ (r : Int) (s1 : zS), en_rOpF0 t n k ph bg pr o p e w c fs v st r s1 → Q (some (.inl r)) s1)
theorem ct_rOpF0_m {t : Int → Int} {n k ph bg pr o p e : Int} {w c : List Int} {fs : List mFr} {v : Int} {st : zS} {Q Q' : zQ} (hQ : ∀ r st', Q r st' → Q' r st') (h : ct_rOpF0 t n k ph bg pr o p e w c fs v st Q) : ct_rOpF0 t n k ph bg pr o p e w c fs v st Q' := ⟨h.1, fun x0 x1 x2 => hQ _ _ (h.2 x0 x1 x2)⟩
def k_rOpF0 (t : Int → Int) (n k ph bg pr o p e : Int) (w c : List Int) (fs : List mFr) (v : Int) : zCall := fun _ as st Q => match as with
  | [.inr (.inr (.inl z_o))] => z_o = 170 ∧ ct_rOpF0 t n k ph bg pr o p e w c fs v st Q
  | _ => False
section Rz3
variable {cl : Nat → zCall}
set_option maxHeartbeats 4000000 in
set_option maxRecDepth 100000 in
theorem c_rLexA (hTb : aTb zSh rx_tb cl) {D : Nat} (hD : 2 ≤ D) {st : zS} {Q : zQ} (h : ct_rLexA  st Q) : cl D 181 [.inr (.inr (.inl 170))] st Q := by
  obtain ⟨d, rfl⟩ : ∃ d, D = d + 1 := ⟨D - 1, by omega⟩
  refine hTb d 181 (rx_m181, 1, 0, 0, 0) rfl _ _ _ (Nat.le_of_ble_eq_true rfl) (fun K hcl hsf hsl => ?_)
  have hcm : zmo (wcL [(178, k_blame)]) (cl d) := (wcL_m (wm_cons (k_blame_m hTb (by omega)) wm_nil))
  obtain ⟨hR, hQ⟩ := h
  have hG := hR
  refine yr1_ok (Rt := Q) (wc := (wcL [(178, k_blame)])) (stp := []) hcm hcl [] 30 ?_
  show ((st 170 12 = ((-1) : Int) → Q none st) ∧ (¬ (st 170 12 = ((-1) : Int)) → (170 = 170 ∧ (rq_blame (1) (st 170 12) st ∧ (∀ (s1 : zS), en_blame (1) (st 170 12) st s1 → Q none s1)))))
  have g2 := g_lexAt hG
  refine ⟨fun h3 => ?_, fun h3 => ?_⟩
  · have g4 := g_faultKind hG
    exact hQ _ ⟨hG, (fr_rf _ _), (show (st 170 12 = -1 → st 170 8 = st 170 8) ∧ (¬ st 170 12 = -1 → 0 < st 170 8) ∧ (0 < st 170 8 → 0 < st 170 8) from by omega)⟩
  · refine ⟨rfl, ⟨hG, (show 1 ≤ (1) ∧ (1) ≤ 6 from by omega), (show -2147483648 ≤ (st 170 12) ∧ (st 170 12) ≤ 2147483647 from by omega)⟩, fun s1 q1 => ?_⟩
    obtain ⟨gs1, fs1, p1⟩ := q1
    change (st 170 8 = 0 → s1 170 8 = (1)) ∧ (0 < st 170 8 → s1 170 8 = st 170 8) at p1
    have g5 := g_faultKind hG
    have g6 := g_faultKind gs1
    exact hQ _ ⟨gs1, (fr_tr (fr_rf _ _) fs1 rfl), (show (st 170 12 = -1 → s1 170 8 = st 170 8) ∧ (¬ st 170 12 = -1 → 0 < s1 170 8) ∧ (0 < st 170 8 → 0 < s1 170 8) from by omega)⟩
theorem k_rLexA_m (hTb : aTb zSh rx_tb cl) {D : Nat} (hD : 2 ≤ D) : ∀ as st (Q Q' : zQ), (∀ r st', Q r st' → Q' r st') → k_rLexA 181 as st Q → cl D 181 as st Q' := by
  intro as st Q Q' hQ h
  unfold k_rLexA at h
  split at h
  · obtain ⟨rfl, h⟩ := h
    exact c_rLexA hTb hD (ct_rLexA_m hQ h)
  · exact h.elim
set_option maxHeartbeats 4000000 in
set_option maxRecDepth 100000 in
theorem c_rOpensF (hTb : aTb zSh rx_tb cl) {D : Nat} (hD : 2 ≤ D) {k : Int} {st : zS} {Q : zQ} (h : ct_rOpensF k st Q) : cl D 194 [.inr (.inr (.inl 170)), .inl k] st Q := by
  obtain ⟨d, rfl⟩ : ∃ d, D = d + 1 := ⟨D - 1, by omega⟩
  refine hTb d 194 (rx_m194, 2, 0, 0, 0) rfl _ _ _ (Nat.le_of_ble_eq_true rfl) (fun K hcl hsf hsl => ?_)
  have hcm : zmo (wcL [(178, k_blame)]) (cl d) := (wcL_m (wm_cons (k_blame_m hTb (by omega)) wm_nil))
  obtain ⟨hR, hQ⟩ := h
  obtain ⟨hG, q⟩ := hR
  change st 170 43 = 7 ∨ 0 < st 170 8 at q
  have g1 := g_open hG
  have g2 := g_faultKind hG
  have g3 := g_signAt hG
  refine yr1_ok (Rt := Q) (wc := (wcL [(178, k_blame)])) (stp := []) hcm hcl [] 45 ?_
  show ((¬ st 170 43 = (7 : Int) → ((st 170 8 ≤ (0 : Int) → _) ∧ (¬ (st 170 8 ≤ (0 : Int)) → Q none st))) ∧ (¬ (¬ st 170 43 = (7 : Int)) → (170 = 170 ∧ (rq_blame (5) (st 170 4) st ∧ (∀ (s4 : zS), en_blame (5) (st 170 4) st s4 → ((s4 170 8 ≤ (0 : Int) → _) ∧ (¬ (s4 170 8 ≤ (0 : Int)) → Q none s4)))))))
  refine ⟨fun h5 => ?_, fun h5 => ?_⟩
  · refine ⟨fun h6 => (by exfalso; omega), fun h6 => ?_⟩
    exact hQ _ ⟨hG, (fr_rf _ _), (show 0 < st 170 8 from by omega)⟩
  · refine ⟨rfl, ⟨hG, (show 1 ≤ (5) ∧ (5) ≤ 6 from by omega), (show -2147483648 ≤ (st 170 4) ∧ (st 170 4) ≤ 2147483647 from by omega)⟩, fun s4 q4 => ?_⟩
    obtain ⟨gs4, fs4, p4⟩ := q4
    change (st 170 8 = 0 → s4 170 8 = (5)) ∧ (0 < st 170 8 → s4 170 8 = st 170 8) at p4
    have g7 := g_faultKind gs4
    refine ⟨fun h8 => (by exfalso; omega), fun h8 => ?_⟩
    exact hQ _ ⟨gs4, (fr_tr (fr_rf _ _) fs4 rfl), (show 0 < s4 170 8 from by omega)⟩
theorem k_rOpensF_m (hTb : aTb zSh rx_tb cl) {D : Nat} (hD : 2 ≤ D) : ∀ as st (Q Q' : zQ), (∀ r st', Q r st' → Q' r st') → k_rOpensF 194 as st Q → cl D 194 as st Q' := by
  intro as st Q Q' hQ h
  unfold k_rOpensF at h
  split at h
  · obtain ⟨rfl, h⟩ := h
    exact c_rOpensF hTb hD (ct_rOpensF_m hQ h)
  · exact h.elim
set_option maxHeartbeats 4000000 in
set_option maxRecDepth 100000 in
theorem c_rOp536 (hTb : aTb zSh rx_tb cl) {t : Int → Int} {n k ph bg pr o p e : Int} {w c : List Int} {fs : List mFr} {e1 : Int} {D : Nat} (hD : 4 ≤ D) {st : zS} {Q : zQ} (h : ct_rOp536 t n k ph bg pr o p e w c fs e1 st Q) : cl D 196 [.inr (.inr (.inl 170))] st Q := by
  obtain ⟨d, rfl⟩ : ∃ d, D = d + 1 := ⟨D - 1, by omega⟩
  refine hTb d 196 (rx_m196, 4, 0, 0, 2) rfl _ _ _ (Nat.le_of_ble_eq_true rfl) (fun K hcl hsf hsl => ?_)
  have hcm : zmo (wcL [(181, k_rLex), (195, k_isTest), (183, k_isWord), (182, k_isSign), (149, k_rNext t n), (189, k_add), (192, k_holdsBack), (194, k_rOpens t n)]) (cl d) := (wcL_m (wm_cons (k_rLex_m hTb (by omega)) (wm_cons (k_isTest_m hTb (by omega)) (wm_cons (k_isWord_m hTb (by omega)) (wm_cons (k_isSign_m hTb (by omega)) (wm_cons (k_rNext_m hTb (by omega)) (wm_cons (k_add_m hTb (by omega)) (wm_cons (k_holdsBack_m hTb (by omega)) (wm_cons (k_rOpens_m hTb (by omega)) wm_nil)))))))))
  obtain ⟨hR, hQ⟩ := h
  obtain ⟨hG, mp, ht⟩ := hR
  change mcP t n st ((k, ph, bg, pr, w) :: fs) 0 (o) (c) (p) at mp
  change tk t n p 1 7170414 e ∧ tk t n e 3 40 e1 ∧ o < 7 ∧ fs.length ≤ 7 at ht
  obtain ⟨mf, mo, mn, mpp, mrd, mq, mbd, mz1, mz2, mz3⟩ := mp
  rw [List.length_cons] at mz3
  have mq0 := mq
  obtain ⟨mfr, mwb, mcd⟩ := mq
  have mt := FR_top mfr
  have mb := FR_bnd _ _ _ mwb mfr
  rw [List.length_cons] at mb
  have ml := WB_hd mwb
  have mcl := mcd.1
  have mlw := FR_len mb.2.1 mfr
  have tf := r_wrd mrd (by rw [mpp]; exact ht.1)
  have g1 := g_codes hG
  have g2 := g_in hG
  have g3 := g_isClever hG
  have g4 := g_deep hG
  have g5 := g_open hG
  have g6 := g_opMany hG
  have g7 := g_signAt hG
  have g8 := g_signEnd hG
  have g9 := g_faultKind hG
  have g10 := g_size hG
  have g11 := g_sign hG
  have g12 := g_lexAt hG
  have g13 := g_value hG
  have g14 := g_word hG
  have g15 := g_operand hG
  refine yr1_ok (Rt := Q) (wc := (wcL [(181, k_rLex), (195, k_isTest), (183, k_isWord), (182, k_isSign), (149, k_rNext t n), (189, k_add), (192, k_holdsBack), (194, k_rOpens t n)])) (stp := []) hcm hcl [] 400 ?_
  show (170 = 170 ∧ (rq_rLex  st ∧ (((st 170 8 ≤ (0 : Int) → ((-2147483648 ≤ (st 170 42) - 1 ∧ (st 170 42) - 1 ≤ 2147483647) ∧ ((0 ≤ (st 170 42) - 1 ∧ (st 170 42) - 1 < 20) ∧ (∀ (r17 : Int), en_isTest (st 192 ((st 170 42) - 1 : Int).toNat) st r17 → ((r17 = (0 : Int) → (((0 : Int) = (0 : Int) → ((0 ≤ (st 170 42) - 1 ∧ (st 170 42) - 1 < 20) ∧ ((0 = (0 : Int) ∨ 0 = (1 : Int)) ∧ (((0 : Int) = (0 : Int) → (((0 : Int) = (0 : Int) → (170 = 170 ∧ (∀ (r18 : Int), en_isSign (40) (zup st 194 ((st 170 42) - 1 : Int).toNat 0) r18 → ((r18 = (0 : Int) → (170 = 170 ∧ (∀ (r19 : Int), en_isWord (7170414) (zup st 194 ((st 170 42) - 1 : Int).toNat 0) r19 → ((¬ r19 = (0 : Int) → (170 = 170 ∧ (∀ (r20 : Int), en_isWord (7170414) (zup st 194 ((st 170 42) - 1 : Int).toNat 0) r20 → ((r20 = (0 : Int) → _) ∧ (¬ (r20 = (0 : Int)) → (170 = 170 ∧ (rq_rNext t n  (zup st 194 ((st 170 42) - 1 : Int).toNat 0) ∧ (∀ (s21 : zS), en_rNext t n  (zup st 194 ((st 170 42) - 1 : Int).toNat 0) s21 → (170 = 170 ∧ (rq_rLex  s21 ∧ ((170 = 170 ∧ (∀ (r23 : Int), en_isSign (40) s21 r23 → ((¬ r23 = (0 : Int) → ((¬ (36 : Int) = (44 : Int) → (170 = 170 ∧ (rq_rOpens t n (3) s21 ∧ (∀ (s24 : zS), en_rOpens t n (3) s21 s24 → ((¬ s24 170 8 = (0 : Int) → _) ∧ (¬ (¬ s24 170 8 = (0 : Int)) → ((-2147483648 ≤ (s24 170 42) - 1 ∧ (s24 170 42) - 1 ≤ 2147483647) ∧ ((0 ≤ (s24 170 42) - 1 ∧ (s24 170 42) - 1 < 20) ∧ ((0 = (0 : Int) ∨ 0 = (1 : Int)) ∧ Q (some (.inl 0)) (zup s24 195 ((s24 170 42) - 1 : Int).toNat 36)))))))))) ∧ (¬ (¬ (36 : Int) = (44 : Int)) → _))) ∧ (¬ (¬ r23 = (0 : Int)) → _))))))))))))))) ∧ (¬ (¬ r19 = (0 : Int)) → _))))) ∧ (¬ (r18 = (0 : Int)) → _))))) ∧ (¬ ((0 : Int) = (0 : Int)) → _))) ∧ (¬ ((0 : Int) = (0 : Int)) → _))))) ∧ (¬ ((0 : Int) = (0 : Int)) → _))) ∧ (¬ (r17 = (0 : Int)) → ((0 ≤ (st 170 42) - 1 ∧ (st 170 42) - 1 < 20) ∧ ((st 194 ((st 170 42) - 1 : Int).toNat = (0 : Int) → (((0 : Int) = (0 : Int) → ((0 ≤ (st 170 42) - 1 ∧ (st 170 42) - 1 < 20) ∧ ((0 = (0 : Int) ∨ 0 = (1 : Int)) ∧ (((0 : Int) = (0 : Int) → (((0 : Int) = (0 : Int) → (170 = 170 ∧ (∀ (r25 : Int), en_isSign (40) (zup st 194 ((st 170 42) - 1 : Int).toNat 0) r25 → ((r25 = (0 : Int) → (170 = 170 ∧ (∀ (r26 : Int), en_isWord (7170414) (zup st 194 ((st 170 42) - 1 : Int).toNat 0) r26 → ((¬ r26 = (0 : Int) → (170 = 170 ∧ (∀ (r27 : Int), en_isWord (7170414) (zup st 194 ((st 170 42) - 1 : Int).toNat 0) r27 → ((r27 = (0 : Int) → _) ∧ (¬ (r27 = (0 : Int)) → (170 = 170 ∧ (rq_rNext t n  (zup st 194 ((st 170 42) - 1 : Int).toNat 0) ∧ (∀ (s28 : zS), en_rNext t n  (zup st 194 ((st 170 42) - 1 : Int).toNat 0) s28 → (170 = 170 ∧ (rq_rLex  s28 ∧ ((170 = 170 ∧ (∀ (r30 : Int), en_isSign (40) s28 r30 → ((¬ r30 = (0 : Int) → ((¬ (36 : Int) = (44 : Int) → (170 = 170 ∧ (rq_rOpens t n (3) s28 ∧ (∀ (s31 : zS), en_rOpens t n (3) s28 s31 → ((¬ s31 170 8 = (0 : Int) → _) ∧ (¬ (¬ s31 170 8 = (0 : Int)) → ((-2147483648 ≤ (s31 170 42) - 1 ∧ (s31 170 42) - 1 ≤ 2147483647) ∧ ((0 ≤ (s31 170 42) - 1 ∧ (s31 170 42) - 1 < 20) ∧ ((0 = (0 : Int) ∨ 0 = (1 : Int)) ∧ Q (some (.inl 0)) (zup s31 195 ((s31 170 42) - 1 : Int).toNat 36)))))))))) ∧ (¬ (¬ (36 : Int) = (44 : Int)) → _))) ∧ (¬ (¬ r30 = (0 : Int)) → _))))))))))))))) ∧ (¬ (¬ r26 = (0 : Int)) → _))))) ∧ (¬ (r25 = (0 : Int)) → _))))) ∧ (¬ ((0 : Int) = (0 : Int)) → _))) ∧ (¬ ((0 : Int) = (0 : Int)) → _))))) ∧ (¬ ((0 : Int) = (0 : Int)) → _))) ∧ (¬ (st 194 ((st 170 42) - 1 : Int).toNat = (0 : Int)) → (((1 : Int) = (0 : Int) → _) ∧ (¬ ((1 : Int) = (0 : Int)) → (170 = 170 ∧ (∀ (r32 : Int), en_isWord (7237492) st r32 → ((r32 = (0 : Int) → ((0 ≤ (st 170 42) - 1 ∧ (st 170 42) - 1 < 20) ∧ ((0 = (0 : Int) ∨ 0 = (1 : Int)) ∧ (((1 : Int) = (0 : Int) → _) ∧ (¬ ((1 : Int) = (0 : Int)) → (170 = 170 ∧ (∀ (r33 : Int), en_isSign (91) (zup st 194 ((st 170 42) - 1 : Int).toNat 0) r33 → ((r33 = (0 : Int) → (((1 : Int) = (0 : Int) → _) ∧ (¬ ((1 : Int) = (0 : Int)) → (170 = 170 ∧ (∀ (r34 : Int), en_isWord (6384748) (zup st 194 ((st 170 42) - 1 : Int).toNat 0) r34 → ((r34 = (0 : Int) → (170 = 170 ∧ (∀ (r35 : Int), en_isSign (40) (zup st 194 ((st 170 42) - 1 : Int).toNat 0) r35 → ((r35 = (0 : Int) → (170 = 170 ∧ (∀ (r36 : Int), en_isWord (7170414) (zup st 194 ((st 170 42) - 1 : Int).toNat 0) r36 → ((¬ r36 = (0 : Int) → (170 = 170 ∧ (∀ (r37 : Int), en_isWord (7170414) (zup st 194 ((st 170 42) - 1 : Int).toNat 0) r37 → ((r37 = (0 : Int) → _) ∧ (¬ (r37 = (0 : Int)) → (170 = 170 ∧ (rq_rNext t n  (zup st 194 ((st 170 42) - 1 : Int).toNat 0) ∧ (∀ (s38 : zS), en_rNext t n  (zup st 194 ((st 170 42) - 1 : Int).toNat 0) s38 → (170 = 170 ∧ (rq_rLex  s38 ∧ ((170 = 170 ∧ (∀ (r40 : Int), en_isSign (40) s38 r40 → ((¬ r40 = (0 : Int) → ((¬ (36 : Int) = (44 : Int) → (170 = 170 ∧ (rq_rOpens t n (3) s38 ∧ (∀ (s41 : zS), en_rOpens t n (3) s38 s41 → ((¬ s41 170 8 = (0 : Int) → _) ∧ (¬ (¬ s41 170 8 = (0 : Int)) → ((-2147483648 ≤ (s41 170 42) - 1 ∧ (s41 170 42) - 1 ≤ 2147483647) ∧ ((0 ≤ (s41 170 42) - 1 ∧ (s41 170 42) - 1 < 20) ∧ ((0 = (0 : Int) ∨ 0 = (1 : Int)) ∧ Q (some (.inl 0)) (zup s41 195 ((s41 170 42) - 1 : Int).toNat 36)))))))))) ∧ (¬ (¬ (36 : Int) = (44 : Int)) → _))) ∧ (¬ (¬ r40 = (0 : Int)) → _))))))))))))))) ∧ (¬ (¬ r36 = (0 : Int)) → _))))) ∧ (¬ (r35 = (0 : Int)) → _))))) ∧ (¬ (r34 = (0 : Int)) → _))))))) ∧ (¬ (r33 = (0 : Int)) → _))))))))) ∧ (¬ (r32 = (0 : Int)) → _))))))))))))))) ∧ (¬ (st 170 8 ≤ (0 : Int)) → _)))))
  refine ⟨rfl, ⟨hG, (show st 170 12 = -1 from by omega)⟩, ?_⟩
  refine ⟨fun h42 => ?_, fun h42 => (by exfalso; omega)⟩
  refine ⟨by omega, ?_⟩
  have g43 := g_frame hG ((st 170 42) - 1 : Int).toNat
  refine ⟨by omega, ?_⟩
  refine fun r17 q17 => ?_
  have b17 := q17
  change (r17 = 0 ∨ r17 = 1) ∧ (r17 = 1 ↔ (st 192 ((st 170 42) - 1 : Int).toNat) = 1 ∨ (st 192 ((st 170 42) - 1 : Int).toNat) = 5 ∨ (st 192 ((st 170 42) - 1 : Int).toNat) = 6) at b17
  refine ⟨fun h44 => ?_, fun h44 => ?_⟩
  · refine ⟨fun h45 => ?_, fun h45 => absurd (by decide) h45⟩
    refine ⟨by omega, ?_⟩
    refine ⟨by omega, ?_⟩
    refine ⟨fun h46 => ?_, fun h46 => absurd (by decide) h46⟩
    refine ⟨fun h47 => ?_, fun h47 => absurd (by decide) h47⟩
    refine ⟨rfl, fun r18 q18 => ?_⟩
    have b18 := q18
    change (r18 = 0 ∨ r18 = 1) ∧ (r18 = 1 ↔ st 170 3 = 3 ∧ st 170 6 = (40)) at b18
    refine ⟨fun h48 => ?_, fun h48 => (by exfalso; clear hQ; omega)⟩
    clear h48 b18
    refine ⟨rfl, fun r19 q19 => ?_⟩
    have b19 := q19
    change (r19 = 0 ∨ r19 = 1) ∧ (r19 = 1 ↔ st 170 3 = 1 ∧ st 170 7 = (7170414)) at b19
    refine ⟨fun h49 => ?_, fun h49 => (by exfalso; clear hQ; omega)⟩
    clear h49 b19
    refine ⟨rfl, fun r20 q20 => ?_⟩
    have b20 := q20
    change (r20 = 0 ∨ r20 = 1) ∧ (r20 = 1 ↔ st 170 3 = 1 ∧ st 170 7 = (7170414)) at b20
    refine ⟨fun h50 => (by exfalso; clear hQ; omega), fun h50 => ?_⟩
    clear h50 b20
    refine ⟨rfl, ⟨(gInv_up hG (p_begins (by omega))), (show RDr (zup st 194 ((st 170 42) - 1 : Int).toNat 0) t n from (show RDr (zup st 194 ((st 170 42) - 1 : Int).toNat 0) t n from mrd)), (show st 170 12 = -1 from by omega)⟩, fun s21 q21 => ?_⟩
    obtain ⟨gs21, fs21, rd21, nx21⟩ := q21
    change RDr s21 t n at rd21
    change NXr (zup st 194 ((st 170 42) - 1 : Int).toNat 0) s21 t n at nx21
    have hp1 : s21 170 4 = e := NXr_e (st := (zup st 194 ((st 170 42) - 1 : Int).toNat 0)) (show NXr (zup st 194 ((st 170 42) - 1 : Int).toNat 0) s21 t n from nx21) (show tk t n ((zup st 194 ((st 170 42) - 1 : Int).toNat 0) 170 4) _ _ e from by rw [show (zup st 194 ((st 170 42) - 1 : Int).toNat 0) 170 4 = p from (show st 170 4 = p from by omega)]; exact ht.1) (by omega)
    have tf2 := r_sig rd21 (by rw [hp1]; exact ht.2.1)
    have g51 := g_sign gs21
    have g52 := g_value gs21
    have g53 := g_word gs21
    have g54 := g_lexAt gs21
    have e55 : s21 170 8 = st 170 8 := fs21 170 8 rfl rfl
    have g56 := g_signAt gs21
    have e57 : s21 170 43 = st 170 43 := fs21 170 43 rfl rfl
    have e58 : s21 170 42 = st 170 42 := fs21 170 42 rfl rfl
    have e59 : s21 170 45 = st 170 45 := fs21 170 45 rfl rfl
    have g60 := g_signEnd gs21
    refine ⟨rfl, ⟨gs21, (show s21 170 12 = -1 from by omega)⟩, ?_⟩
    refine ⟨rfl, fun r23 q23 => ?_⟩
    have b23 := q23
    change (r23 = 0 ∨ r23 = 1) ∧ (r23 = 1 ↔ s21 170 3 = 3 ∧ s21 170 6 = (40)) at b23
    refine ⟨fun h61 => ?_, fun h61 => (by exfalso; clear hQ; omega)⟩
    clear h61 b23
    refine ⟨fun h62 => ?_, fun h62 => absurd (by decide) h62⟩
    refine ⟨rfl, ⟨gs21, (show RDr s21 t n from rd21), (show s21 170 12 = -1 ∧ s21 170 8 = 0 ∧ 0 ≤ s21 170 43 ∧ s21 170 43 < 7 ∧ 0 ≤ s21 170 42 ∧ s21 170 42 ≤ 18 ∧ 0 ≤ s21 170 45 ∧ s21 170 45 ≤ 499 ∧ 0 ≤ (3) ∧ (3) ≤ 6 from by omega)⟩, fun s24 q24 => ?_⟩
    obtain ⟨gs24, fs24, rd24, nx24, d24, u19224, u19324, u19424, u19624⟩ := q24
    change RDr s24 t n at rd24
    change NXr s21 s24 t n at nx24
    change s24 170 42 = s21 170 42 + 1 ∧ s24 170 43 = s21 170 43 + 1 at d24
    have g63 := g_deep gs24
    have g64 := g_open gs24
    change (s24 192) = up1 (s21 192) (s21 170 42).toNat (3) at u19224
    change (s24 193) = up1 (s21 193) (s21 170 42).toNat 0 at u19324
    change (s24 194) = up1 (s21 194) (s21 170 42).toNat 1 at u19424
    change (s24 196) = up1 (s21 196) (s21 170 42).toNat (s21 170 45) at u19624
    have e65 : s24 170 8 = s21 170 8 := fs24 170 8 rfl rfl
    refine ⟨fun h66 => (by exfalso; omega), fun h66 => ?_⟩
    refine ⟨by omega, ?_⟩
    refine ⟨by omega, ?_⟩
    refine ⟨by omega, ?_⟩
    have e68 : s21 170 46 = st 170 46 := fs21 170 46 rfl rfl
    have e67 : s24 170 46 = s21 170 46 := fs24 170 46 rfl rfl
    have e70 : s21 170 34 = st 170 34 := fs21 170 34 rfl rfl
    have e69 : s24 170 34 = s21 170 34 := fs24 170 34 rfl rfl
    have e71 : s24 170 45 = s21 170 45 := fs24 170 45 rfl rfl
    exact hQ _ _ ⟨(gInv_up gs24 (p_pair (by omega))), (fr_a (fr_tr (fr_tr (fr_a (fr_rf _ _) rfl) fs21 rfl) fs24 rfl) rfl), (Z9_up (Z9_tr (Z9_tr (Z9_up (Z9_rf _) (by decide)) ((show aFr m_rOp536 st (zup st 194 ((st 170 42) - 1 : Int).toNat 0) from (fr_a (fr_rf _ _) rfl)) 170 35 rfl rfl) (Z9_fr fs21 (fun _ => rfl) rfl)) ((show aFr m_rOp536 st s21 from (fr_tr (fr_a (fr_rf _ _) rfl) fs21 rfl)) 170 35 rfl rfl) (Z9_fr fs24 (fun _ => rfl) rfl)) (by decide)), (show (0 : Int) = 0 ∧ mcP t n (zup s24 195 ((s24 170 42) - 1 : Int).toNat 36) ((3, 0, 1, 36, []) :: (k, ph, 0, pr, w) :: fs) 0 (o + 1) (c) (e1) from (by
            have hp2 : s24 170 4 = e1 := NXr_e (st := s21) nx24 (show tk t n (s21 170 4) _ _ e1 from by rw [hp1]; exact ht.2.1) (by omega)
            have hl := tk_lt ht.1 (show 0 ≤ p from by rw [← mpp]; exact mrd.2.1.1) (by omega)
            have hl2 := tk_lt ht.2.1 (by omega) (by omega)
            refine ⟨rfl, (show s24 170 8 = 0 from by omega), (show s24 170 46 = 0 from by omega), (show s24 170 43 = o + 1 from by omega), hp2, (show RDr _ t n from rd24), ⟨?_, WB_c (by rw [List.length_nil]; omega) (fun x hx => by cases hx) (WB_c ml (WB_el mwb) (WB_tl mwb)), ?_⟩, (show s24 170 34 + s24 170 45 + s24 170 42 ≤ e1 from by omega), by omega, by omega, by rw [List.length_cons, List.length_cons]; omega⟩
            · have q := FR_pr 36 mb.2.1 (FR_push (fs := (k, ph, 0, pr, w) :: fs) 3 mb.2.1 (show 0 ≤ st 170 42 from by omega) (FR_bg 0 mb.2.1 mfr))
              show FR (s24 192) (s24 193) (s24 194) (up1 (s24 195) (s24 170 42 - 1).toNat 36) (s24 196) (s24 197) _ (s24 170 42) (s24 170 45)
              rw [u19224, u19324, u19424, u19624, d24.1, show s24 195 = s21 195 from funext (fun i => fs24 195 i rfl rfl), show s24 197 = s21 197 from funext (fun i => fs24 197 i rfl rfl), show s24 170 45 = s21 170 45 from fs24 170 45 rfl rfl]
              rw [show s21 192 = st 192 from funext (fun i => fs21 192 i rfl rfl), show s21 193 = st 193 from funext (fun i => fs21 193 i rfl rfl), show s21 194 = up1 (st 194) (st 170 42 - 1).toNat 0 from funext (fun i => fs21 194 i rfl rfl), show s21 195 = st 195 from funext (fun i => fs21 195 i rfl rfl), show s21 196 = st 196 from funext (fun i => fs21 196 i rfl rfl), show s21 197 = st 197 from funext (fun i => fs21 197 i rfl rfl), show s21 170 42 = st 170 42 from fs21 170 42 rfl rfl, show s21 170 45 = st 170 45 from fs21 170 45 rfl rfl]
              exact q
            · show CDr (s24 170 35) (s24 170 34) (s24 188) (s24 189) c
              rw [show s24 170 35 = s21 170 35 from fs24 170 35 rfl rfl, show s24 170 34 = s21 170 34 from fs24 170 34 rfl rfl, show s24 188 = s21 188 from funext (fun i => fs24 188 i rfl rfl), show s24 189 = s21 189 from funext (fun i => fs24 189 i rfl rfl)]
              rw [show s21 170 35 = st 170 35 from fs21 170 35 rfl rfl, show s21 170 34 = st 170 34 from fs21 170 34 rfl rfl, show s21 188 = st 188 from funext (fun i => fs21 188 i rfl rfl), show s21 189 = st 189 from funext (fun i => fs21 189 i rfl rfl)]
              exact mcd))⟩
  · have g72 := g_begins hG ((st 170 42) - 1 : Int).toNat
    refine ⟨by omega, ?_⟩
    refine ⟨fun h73 => ?_, fun h73 => ?_⟩
    · refine ⟨fun h74 => ?_, fun h74 => absurd (by decide) h74⟩
      refine ⟨by omega, ?_⟩
      refine ⟨by omega, ?_⟩
      refine ⟨fun h75 => ?_, fun h75 => absurd (by decide) h75⟩
      refine ⟨fun h76 => ?_, fun h76 => absurd (by decide) h76⟩
      refine ⟨rfl, fun r25 q25 => ?_⟩
      have b25 := q25
      change (r25 = 0 ∨ r25 = 1) ∧ (r25 = 1 ↔ st 170 3 = 3 ∧ st 170 6 = (40)) at b25
      refine ⟨fun h77 => ?_, fun h77 => (by exfalso; clear hQ; omega)⟩
      clear h77 b25
      refine ⟨rfl, fun r26 q26 => ?_⟩
      have b26 := q26
      change (r26 = 0 ∨ r26 = 1) ∧ (r26 = 1 ↔ st 170 3 = 1 ∧ st 170 7 = (7170414)) at b26
      refine ⟨fun h78 => ?_, fun h78 => (by exfalso; clear hQ; omega)⟩
      clear h78 b26
      refine ⟨rfl, fun r27 q27 => ?_⟩
      have b27 := q27
      change (r27 = 0 ∨ r27 = 1) ∧ (r27 = 1 ↔ st 170 3 = 1 ∧ st 170 7 = (7170414)) at b27
      refine ⟨fun h79 => (by exfalso; clear hQ; omega), fun h79 => ?_⟩
      clear h79 b27
      refine ⟨rfl, ⟨(gInv_up hG (p_begins (by omega))), (show RDr (zup st 194 ((st 170 42) - 1 : Int).toNat 0) t n from (show RDr (zup st 194 ((st 170 42) - 1 : Int).toNat 0) t n from mrd)), (show st 170 12 = -1 from by omega)⟩, fun s28 q28 => ?_⟩
      obtain ⟨gs28, fs28, rd28, nx28⟩ := q28
      change RDr s28 t n at rd28
      change NXr (zup st 194 ((st 170 42) - 1 : Int).toNat 0) s28 t n at nx28
      have hp1 : s28 170 4 = e := NXr_e (st := (zup st 194 ((st 170 42) - 1 : Int).toNat 0)) (show NXr (zup st 194 ((st 170 42) - 1 : Int).toNat 0) s28 t n from nx28) (show tk t n ((zup st 194 ((st 170 42) - 1 : Int).toNat 0) 170 4) _ _ e from by rw [show (zup st 194 ((st 170 42) - 1 : Int).toNat 0) 170 4 = p from (show st 170 4 = p from by omega)]; exact ht.1) (by omega)
      have tf2 := r_sig rd28 (by rw [hp1]; exact ht.2.1)
      have g80 := g_sign gs28
      have g81 := g_value gs28
      have g82 := g_word gs28
      have g83 := g_lexAt gs28
      have e84 : s28 170 8 = st 170 8 := fs28 170 8 rfl rfl
      have g85 := g_signAt gs28
      have e86 : s28 170 43 = st 170 43 := fs28 170 43 rfl rfl
      have e87 : s28 170 42 = st 170 42 := fs28 170 42 rfl rfl
      have e88 : s28 170 45 = st 170 45 := fs28 170 45 rfl rfl
      have g89 := g_signEnd gs28
      refine ⟨rfl, ⟨gs28, (show s28 170 12 = -1 from by omega)⟩, ?_⟩
      refine ⟨rfl, fun r30 q30 => ?_⟩
      have b30 := q30
      change (r30 = 0 ∨ r30 = 1) ∧ (r30 = 1 ↔ s28 170 3 = 3 ∧ s28 170 6 = (40)) at b30
      refine ⟨fun h90 => ?_, fun h90 => (by exfalso; clear hQ; omega)⟩
      clear h90 b30
      refine ⟨fun h91 => ?_, fun h91 => absurd (by decide) h91⟩
      refine ⟨rfl, ⟨gs28, (show RDr s28 t n from rd28), (show s28 170 12 = -1 ∧ s28 170 8 = 0 ∧ 0 ≤ s28 170 43 ∧ s28 170 43 < 7 ∧ 0 ≤ s28 170 42 ∧ s28 170 42 ≤ 18 ∧ 0 ≤ s28 170 45 ∧ s28 170 45 ≤ 499 ∧ 0 ≤ (3) ∧ (3) ≤ 6 from by omega)⟩, fun s31 q31 => ?_⟩
      obtain ⟨gs31, fs31, rd31, nx31, d31, u19231, u19331, u19431, u19631⟩ := q31
      change RDr s31 t n at rd31
      change NXr s28 s31 t n at nx31
      change s31 170 42 = s28 170 42 + 1 ∧ s31 170 43 = s28 170 43 + 1 at d31
      have g92 := g_deep gs31
      have g93 := g_open gs31
      change (s31 192) = up1 (s28 192) (s28 170 42).toNat (3) at u19231
      change (s31 193) = up1 (s28 193) (s28 170 42).toNat 0 at u19331
      change (s31 194) = up1 (s28 194) (s28 170 42).toNat 1 at u19431
      change (s31 196) = up1 (s28 196) (s28 170 42).toNat (s28 170 45) at u19631
      have e94 : s31 170 8 = s28 170 8 := fs31 170 8 rfl rfl
      refine ⟨fun h95 => (by exfalso; omega), fun h95 => ?_⟩
      refine ⟨by omega, ?_⟩
      refine ⟨by omega, ?_⟩
      refine ⟨by omega, ?_⟩
      have e97 : s28 170 46 = st 170 46 := fs28 170 46 rfl rfl
      have e96 : s31 170 46 = s28 170 46 := fs31 170 46 rfl rfl
      have e99 : s28 170 34 = st 170 34 := fs28 170 34 rfl rfl
      have e98 : s31 170 34 = s28 170 34 := fs31 170 34 rfl rfl
      have e100 : s31 170 45 = s28 170 45 := fs31 170 45 rfl rfl
      exact hQ _ _ ⟨(gInv_up gs31 (p_pair (by omega))), (fr_a (fr_tr (fr_tr (fr_a (fr_rf _ _) rfl) fs28 rfl) fs31 rfl) rfl), (Z9_up (Z9_tr (Z9_tr (Z9_up (Z9_rf _) (by decide)) ((show aFr m_rOp536 st (zup st 194 ((st 170 42) - 1 : Int).toNat 0) from (fr_a (fr_rf _ _) rfl)) 170 35 rfl rfl) (Z9_fr fs28 (fun _ => rfl) rfl)) ((show aFr m_rOp536 st s28 from (fr_tr (fr_a (fr_rf _ _) rfl) fs28 rfl)) 170 35 rfl rfl) (Z9_fr fs31 (fun _ => rfl) rfl)) (by decide)), (show (0 : Int) = 0 ∧ mcP t n (zup s31 195 ((s31 170 42) - 1 : Int).toNat 36) ((3, 0, 1, 36, []) :: (k, ph, 0, pr, w) :: fs) 0 (o + 1) (c) (e1) from (by
            have hp2 : s31 170 4 = e1 := NXr_e (st := s28) nx31 (show tk t n (s28 170 4) _ _ e1 from by rw [hp1]; exact ht.2.1) (by omega)
            have hl := tk_lt ht.1 (show 0 ≤ p from by rw [← mpp]; exact mrd.2.1.1) (by omega)
            have hl2 := tk_lt ht.2.1 (by omega) (by omega)
            refine ⟨rfl, (show s31 170 8 = 0 from by omega), (show s31 170 46 = 0 from by omega), (show s31 170 43 = o + 1 from by omega), hp2, (show RDr _ t n from rd31), ⟨?_, WB_c (by rw [List.length_nil]; omega) (fun x hx => by cases hx) (WB_c ml (WB_el mwb) (WB_tl mwb)), ?_⟩, (show s31 170 34 + s31 170 45 + s31 170 42 ≤ e1 from by omega), by omega, by omega, by rw [List.length_cons, List.length_cons]; omega⟩
            · have q := FR_pr 36 mb.2.1 (FR_push (fs := (k, ph, 0, pr, w) :: fs) 3 mb.2.1 (show 0 ≤ st 170 42 from by omega) (FR_bg 0 mb.2.1 mfr))
              show FR (s31 192) (s31 193) (s31 194) (up1 (s31 195) (s31 170 42 - 1).toNat 36) (s31 196) (s31 197) _ (s31 170 42) (s31 170 45)
              rw [u19231, u19331, u19431, u19631, d31.1, show s31 195 = s28 195 from funext (fun i => fs31 195 i rfl rfl), show s31 197 = s28 197 from funext (fun i => fs31 197 i rfl rfl), show s31 170 45 = s28 170 45 from fs31 170 45 rfl rfl]
              rw [show s28 192 = st 192 from funext (fun i => fs28 192 i rfl rfl), show s28 193 = st 193 from funext (fun i => fs28 193 i rfl rfl), show s28 194 = up1 (st 194) (st 170 42 - 1).toNat 0 from funext (fun i => fs28 194 i rfl rfl), show s28 195 = st 195 from funext (fun i => fs28 195 i rfl rfl), show s28 196 = st 196 from funext (fun i => fs28 196 i rfl rfl), show s28 197 = st 197 from funext (fun i => fs28 197 i rfl rfl), show s28 170 42 = st 170 42 from fs28 170 42 rfl rfl, show s28 170 45 = st 170 45 from fs28 170 45 rfl rfl]
              exact q
            · show CDr (s31 170 35) (s31 170 34) (s31 188) (s31 189) c
              rw [show s31 170 35 = s28 170 35 from fs31 170 35 rfl rfl, show s31 170 34 = s28 170 34 from fs31 170 34 rfl rfl, show s31 188 = s28 188 from funext (fun i => fs31 188 i rfl rfl), show s31 189 = s28 189 from funext (fun i => fs31 189 i rfl rfl)]
              rw [show s28 170 35 = st 170 35 from fs28 170 35 rfl rfl, show s28 170 34 = st 170 34 from fs28 170 34 rfl rfl, show s28 188 = st 188 from funext (fun i => fs28 188 i rfl rfl), show s28 189 = st 189 from funext (fun i => fs28 189 i rfl rfl)]
              exact mcd))⟩
    · refine ⟨fun h101 => absurd h101 (by decide), fun h101 => ?_⟩
      refine ⟨rfl, fun r32 q32 => ?_⟩
      have b32 := q32
      change (r32 = 0 ∨ r32 = 1) ∧ (r32 = 1 ↔ st 170 3 = 1 ∧ st 170 7 = (7237492)) at b32
      refine ⟨fun h102 => ?_, fun h102 => (by exfalso; clear hQ; omega)⟩
      clear h102 b32
      refine ⟨by omega, ?_⟩
      refine ⟨by omega, ?_⟩
      refine ⟨fun h103 => absurd h103 (by decide), fun h103 => ?_⟩
      refine ⟨rfl, fun r33 q33 => ?_⟩
      have b33 := q33
      change (r33 = 0 ∨ r33 = 1) ∧ (r33 = 1 ↔ st 170 3 = 3 ∧ st 170 6 = (91)) at b33
      refine ⟨fun h104 => ?_, fun h104 => (by exfalso; clear hQ; omega)⟩
      clear h104 b33
      refine ⟨fun h105 => absurd h105 (by decide), fun h105 => ?_⟩
      refine ⟨rfl, fun r34 q34 => ?_⟩
      have b34 := q34
      change (r34 = 0 ∨ r34 = 1) ∧ (r34 = 1 ↔ st 170 3 = 1 ∧ st 170 7 = (6384748)) at b34
      refine ⟨fun h106 => ?_, fun h106 => (by exfalso; clear hQ; omega)⟩
      clear h106 b34
      refine ⟨rfl, fun r35 q35 => ?_⟩
      have b35 := q35
      change (r35 = 0 ∨ r35 = 1) ∧ (r35 = 1 ↔ st 170 3 = 3 ∧ st 170 6 = (40)) at b35
      refine ⟨fun h107 => ?_, fun h107 => (by exfalso; clear hQ; omega)⟩
      clear h107 b35
      refine ⟨rfl, fun r36 q36 => ?_⟩
      have b36 := q36
      change (r36 = 0 ∨ r36 = 1) ∧ (r36 = 1 ↔ st 170 3 = 1 ∧ st 170 7 = (7170414)) at b36
      refine ⟨fun h108 => ?_, fun h108 => (by exfalso; clear hQ; omega)⟩
      clear h108 b36
      refine ⟨rfl, fun r37 q37 => ?_⟩
      have b37 := q37
      change (r37 = 0 ∨ r37 = 1) ∧ (r37 = 1 ↔ st 170 3 = 1 ∧ st 170 7 = (7170414)) at b37
      refine ⟨fun h109 => (by exfalso; clear hQ; omega), fun h109 => ?_⟩
      clear h109 b37
      refine ⟨rfl, ⟨(gInv_up hG (p_begins (by omega))), (show RDr (zup st 194 ((st 170 42) - 1 : Int).toNat 0) t n from (show RDr (zup st 194 ((st 170 42) - 1 : Int).toNat 0) t n from mrd)), (show st 170 12 = -1 from by omega)⟩, fun s38 q38 => ?_⟩
      obtain ⟨gs38, fs38, rd38, nx38⟩ := q38
      change RDr s38 t n at rd38
      change NXr (zup st 194 ((st 170 42) - 1 : Int).toNat 0) s38 t n at nx38
      have hp1 : s38 170 4 = e := NXr_e (st := (zup st 194 ((st 170 42) - 1 : Int).toNat 0)) (show NXr (zup st 194 ((st 170 42) - 1 : Int).toNat 0) s38 t n from nx38) (show tk t n ((zup st 194 ((st 170 42) - 1 : Int).toNat 0) 170 4) _ _ e from by rw [show (zup st 194 ((st 170 42) - 1 : Int).toNat 0) 170 4 = p from (show st 170 4 = p from by omega)]; exact ht.1) (by omega)
      have tf2 := r_sig rd38 (by rw [hp1]; exact ht.2.1)
      have g110 := g_sign gs38
      have g111 := g_value gs38
      have g112 := g_word gs38
      have g113 := g_lexAt gs38
      have e114 : s38 170 8 = st 170 8 := fs38 170 8 rfl rfl
      have g115 := g_signAt gs38
      have e116 : s38 170 43 = st 170 43 := fs38 170 43 rfl rfl
      have e117 : s38 170 42 = st 170 42 := fs38 170 42 rfl rfl
      have e118 : s38 170 45 = st 170 45 := fs38 170 45 rfl rfl
      have g119 := g_signEnd gs38
      refine ⟨rfl, ⟨gs38, (show s38 170 12 = -1 from by omega)⟩, ?_⟩
      refine ⟨rfl, fun r40 q40 => ?_⟩
      have b40 := q40
      change (r40 = 0 ∨ r40 = 1) ∧ (r40 = 1 ↔ s38 170 3 = 3 ∧ s38 170 6 = (40)) at b40
      refine ⟨fun h120 => ?_, fun h120 => (by exfalso; clear hQ; omega)⟩
      clear h120 b40
      refine ⟨fun h121 => ?_, fun h121 => absurd (by decide) h121⟩
      refine ⟨rfl, ⟨gs38, (show RDr s38 t n from rd38), (show s38 170 12 = -1 ∧ s38 170 8 = 0 ∧ 0 ≤ s38 170 43 ∧ s38 170 43 < 7 ∧ 0 ≤ s38 170 42 ∧ s38 170 42 ≤ 18 ∧ 0 ≤ s38 170 45 ∧ s38 170 45 ≤ 499 ∧ 0 ≤ (3) ∧ (3) ≤ 6 from by omega)⟩, fun s41 q41 => ?_⟩
      obtain ⟨gs41, fs41, rd41, nx41, d41, u19241, u19341, u19441, u19641⟩ := q41
      change RDr s41 t n at rd41
      change NXr s38 s41 t n at nx41
      change s41 170 42 = s38 170 42 + 1 ∧ s41 170 43 = s38 170 43 + 1 at d41
      have g122 := g_deep gs41
      have g123 := g_open gs41
      change (s41 192) = up1 (s38 192) (s38 170 42).toNat (3) at u19241
      change (s41 193) = up1 (s38 193) (s38 170 42).toNat 0 at u19341
      change (s41 194) = up1 (s38 194) (s38 170 42).toNat 1 at u19441
      change (s41 196) = up1 (s38 196) (s38 170 42).toNat (s38 170 45) at u19641
      have e124 : s41 170 8 = s38 170 8 := fs41 170 8 rfl rfl
      refine ⟨fun h125 => (by exfalso; omega), fun h125 => ?_⟩
      refine ⟨by omega, ?_⟩
      refine ⟨by omega, ?_⟩
      refine ⟨by omega, ?_⟩
      have e127 : s38 170 46 = st 170 46 := fs38 170 46 rfl rfl
      have e126 : s41 170 46 = s38 170 46 := fs41 170 46 rfl rfl
      have e129 : s38 170 34 = st 170 34 := fs38 170 34 rfl rfl
      have e128 : s41 170 34 = s38 170 34 := fs41 170 34 rfl rfl
      have e130 : s41 170 45 = s38 170 45 := fs41 170 45 rfl rfl
      exact hQ _ _ ⟨(gInv_up gs41 (p_pair (by omega))), (fr_a (fr_tr (fr_tr (fr_a (fr_rf _ _) rfl) fs38 rfl) fs41 rfl) rfl), (Z9_up (Z9_tr (Z9_tr (Z9_up (Z9_rf _) (by decide)) ((show aFr m_rOp536 st (zup st 194 ((st 170 42) - 1 : Int).toNat 0) from (fr_a (fr_rf _ _) rfl)) 170 35 rfl rfl) (Z9_fr fs38 (fun _ => rfl) rfl)) ((show aFr m_rOp536 st s38 from (fr_tr (fr_a (fr_rf _ _) rfl) fs38 rfl)) 170 35 rfl rfl) (Z9_fr fs41 (fun _ => rfl) rfl)) (by decide)), (show (0 : Int) = 0 ∧ mcP t n (zup s41 195 ((s41 170 42) - 1 : Int).toNat 36) ((3, 0, 1, 36, []) :: (k, ph, 0, pr, w) :: fs) 0 (o + 1) (c) (e1) from (by
            have hp2 : s41 170 4 = e1 := NXr_e (st := s38) nx41 (show tk t n (s38 170 4) _ _ e1 from by rw [hp1]; exact ht.2.1) (by omega)
            have hl := tk_lt ht.1 (show 0 ≤ p from by rw [← mpp]; exact mrd.2.1.1) (by omega)
            have hl2 := tk_lt ht.2.1 (by omega) (by omega)
            refine ⟨rfl, (show s41 170 8 = 0 from by omega), (show s41 170 46 = 0 from by omega), (show s41 170 43 = o + 1 from by omega), hp2, (show RDr _ t n from rd41), ⟨?_, WB_c (by rw [List.length_nil]; omega) (fun x hx => by cases hx) (WB_c ml (WB_el mwb) (WB_tl mwb)), ?_⟩, (show s41 170 34 + s41 170 45 + s41 170 42 ≤ e1 from by omega), by omega, by omega, by rw [List.length_cons, List.length_cons]; omega⟩
            · have q := FR_pr 36 mb.2.1 (FR_push (fs := (k, ph, 0, pr, w) :: fs) 3 mb.2.1 (show 0 ≤ st 170 42 from by omega) (FR_bg 0 mb.2.1 mfr))
              show FR (s41 192) (s41 193) (s41 194) (up1 (s41 195) (s41 170 42 - 1).toNat 36) (s41 196) (s41 197) _ (s41 170 42) (s41 170 45)
              rw [u19241, u19341, u19441, u19641, d41.1, show s41 195 = s38 195 from funext (fun i => fs41 195 i rfl rfl), show s41 197 = s38 197 from funext (fun i => fs41 197 i rfl rfl), show s41 170 45 = s38 170 45 from fs41 170 45 rfl rfl]
              rw [show s38 192 = st 192 from funext (fun i => fs38 192 i rfl rfl), show s38 193 = st 193 from funext (fun i => fs38 193 i rfl rfl), show s38 194 = up1 (st 194) (st 170 42 - 1).toNat 0 from funext (fun i => fs38 194 i rfl rfl), show s38 195 = st 195 from funext (fun i => fs38 195 i rfl rfl), show s38 196 = st 196 from funext (fun i => fs38 196 i rfl rfl), show s38 197 = st 197 from funext (fun i => fs38 197 i rfl rfl), show s38 170 42 = st 170 42 from fs38 170 42 rfl rfl, show s38 170 45 = st 170 45 from fs38 170 45 rfl rfl]
              exact q
            · show CDr (s41 170 35) (s41 170 34) (s41 188) (s41 189) c
              rw [show s41 170 35 = s38 170 35 from fs41 170 35 rfl rfl, show s41 170 34 = s38 170 34 from fs41 170 34 rfl rfl, show s41 188 = s38 188 from funext (fun i => fs41 188 i rfl rfl), show s41 189 = s38 189 from funext (fun i => fs41 189 i rfl rfl)]
              rw [show s38 170 35 = st 170 35 from fs38 170 35 rfl rfl, show s38 170 34 = st 170 34 from fs38 170 34 rfl rfl, show s38 188 = st 188 from funext (fun i => fs38 188 i rfl rfl), show s38 189 = st 189 from funext (fun i => fs38 189 i rfl rfl)]
              exact mcd))⟩
theorem k_rOp536_m (hTb : aTb zSh rx_tb cl) {t : Int → Int} {n k ph bg pr o p e : Int} {w c : List Int} {fs : List mFr} {e1 : Int} {D : Nat} (hD : 4 ≤ D) : ∀ as st (Q Q' : zQ), (∀ r st', Q r st' → Q' r st') → (k_rOp536 t n k ph bg pr o p e w c fs e1) 196 as st Q → cl D 196 as st Q' := by
  intro as st Q Q' hQ h
  unfold k_rOp536 at h
  split at h
  · obtain ⟨rfl, h⟩ := h
    exact c_rOp536 hTb hD (ct_rOp536_m hQ h)
  · exact h.elim
set_option maxHeartbeats 4000000 in
set_option maxRecDepth 100000 in
theorem c_rOp537 (hTb : aTb zSh rx_tb cl) {t : Int → Int} {n k ph bg pr o p e : Int} {w c : List Int} {fs : List mFr} {e1 : Int} {D : Nat} (hD : 4 ≤ D) {st : zS} {Q : zQ} (h : ct_rOp537 t n k ph bg pr o p e w c fs e1 st Q) : cl D 196 [.inr (.inr (.inl 170))] st Q := by
  obtain ⟨d, rfl⟩ : ∃ d, D = d + 1 := ⟨D - 1, by omega⟩
  refine hTb d 196 (rx_m196, 4, 0, 0, 2) rfl _ _ _ (Nat.le_of_ble_eq_true rfl) (fun K hcl hsf hsl => ?_)
  have hcm : zmo (wcL [(181, k_rLex), (195, k_isTest), (183, k_isWord), (182, k_isSign), (149, k_rNext t n), (189, k_add), (192, k_holdsBack), (194, k_rOpens t n)]) (cl d) := (wcL_m (wm_cons (k_rLex_m hTb (by omega)) (wm_cons (k_isTest_m hTb (by omega)) (wm_cons (k_isWord_m hTb (by omega)) (wm_cons (k_isSign_m hTb (by omega)) (wm_cons (k_rNext_m hTb (by omega)) (wm_cons (k_add_m hTb (by omega)) (wm_cons (k_holdsBack_m hTb (by omega)) (wm_cons (k_rOpens_m hTb (by omega)) wm_nil)))))))))
  obtain ⟨hR, hQ⟩ := h
  obtain ⟨hG, mp, ht⟩ := hR
  change mcP t n st ((k, ph, bg, pr, w) :: fs) 0 (o) (c) (p) at mp
  change tk t n p 1 7168376 e ∧ tk t n e 3 40 e1 ∧ o < 7 ∧ fs.length ≤ 7 at ht
  obtain ⟨mf, mo, mn, mpp, mrd, mq, mbd, mz1, mz2, mz3⟩ := mp
  rw [List.length_cons] at mz3
  have mq0 := mq
  obtain ⟨mfr, mwb, mcd⟩ := mq
  have mt := FR_top mfr
  have mb := FR_bnd _ _ _ mwb mfr
  rw [List.length_cons] at mb
  have ml := WB_hd mwb
  have mcl := mcd.1
  have mlw := FR_len mb.2.1 mfr
  have tf := r_wrd mrd (by rw [mpp]; exact ht.1)
  have g1 := g_codes hG
  have g2 := g_in hG
  have g3 := g_isClever hG
  have g4 := g_deep hG
  have g5 := g_open hG
  have g6 := g_opMany hG
  have g7 := g_signAt hG
  have g8 := g_signEnd hG
  have g9 := g_faultKind hG
  have g10 := g_size hG
  have g11 := g_sign hG
  have g12 := g_lexAt hG
  have g13 := g_value hG
  have g14 := g_word hG
  have g15 := g_operand hG
  refine yr1_ok (Rt := Q) (wc := (wcL [(181, k_rLex), (195, k_isTest), (183, k_isWord), (182, k_isSign), (149, k_rNext t n), (189, k_add), (192, k_holdsBack), (194, k_rOpens t n)])) (stp := []) hcm hcl [] 400 ?_
  show (170 = 170 ∧ (rq_rLex  st ∧ (((st 170 8 ≤ (0 : Int) → ((-2147483648 ≤ (st 170 42) - 1 ∧ (st 170 42) - 1 ≤ 2147483647) ∧ ((0 ≤ (st 170 42) - 1 ∧ (st 170 42) - 1 < 20) ∧ (∀ (r17 : Int), en_isTest (st 192 ((st 170 42) - 1 : Int).toNat) st r17 → ((r17 = (0 : Int) → (((0 : Int) = (0 : Int) → ((0 ≤ (st 170 42) - 1 ∧ (st 170 42) - 1 < 20) ∧ ((0 = (0 : Int) ∨ 0 = (1 : Int)) ∧ (((0 : Int) = (0 : Int) → (((0 : Int) = (0 : Int) → (170 = 170 ∧ (∀ (r18 : Int), en_isSign (40) (zup st 194 ((st 170 42) - 1 : Int).toNat 0) r18 → ((r18 = (0 : Int) → (170 = 170 ∧ (∀ (r19 : Int), en_isWord (7170414) (zup st 194 ((st 170 42) - 1 : Int).toNat 0) r19 → ((¬ r19 = (0 : Int) → _) ∧ (¬ (¬ r19 = (0 : Int)) → (170 = 170 ∧ (∀ (r20 : Int), en_isWord (7168376) (zup st 194 ((st 170 42) - 1 : Int).toNat 0) r20 → ((¬ r20 = (0 : Int) → (170 = 170 ∧ (∀ (r21 : Int), en_isWord (7170414) (zup st 194 ((st 170 42) - 1 : Int).toNat 0) r21 → ((r21 = (0 : Int) → (170 = 170 ∧ (∀ (r22 : Int), en_isWord (7168376) (zup st 194 ((st 170 42) - 1 : Int).toNat 0) r22 → ((r22 = (0 : Int) → _) ∧ (¬ (r22 = (0 : Int)) → (170 = 170 ∧ (rq_rNext t n  (zup st 194 ((st 170 42) - 1 : Int).toNat 0) ∧ (∀ (s23 : zS), en_rNext t n  (zup st 194 ((st 170 42) - 1 : Int).toNat 0) s23 → (170 = 170 ∧ (rq_rLex  s23 ∧ ((170 = 170 ∧ (∀ (r25 : Int), en_isSign (40) s23 r25 → ((¬ r25 = (0 : Int) → ((¬ (37 : Int) = (44 : Int) → (170 = 170 ∧ (rq_rOpens t n (3) s23 ∧ (∀ (s26 : zS), en_rOpens t n (3) s23 s26 → ((¬ s26 170 8 = (0 : Int) → _) ∧ (¬ (¬ s26 170 8 = (0 : Int)) → ((-2147483648 ≤ (s26 170 42) - 1 ∧ (s26 170 42) - 1 ≤ 2147483647) ∧ ((0 ≤ (s26 170 42) - 1 ∧ (s26 170 42) - 1 < 20) ∧ ((0 = (0 : Int) ∨ 0 = (1 : Int)) ∧ Q (some (.inl 0)) (zup s26 195 ((s26 170 42) - 1 : Int).toNat 37)))))))))) ∧ (¬ (¬ (37 : Int) = (44 : Int)) → _))) ∧ (¬ (¬ r25 = (0 : Int)) → _))))))))))))))) ∧ (¬ (r21 = (0 : Int)) → _))))) ∧ (¬ (¬ r20 = (0 : Int)) → _))))))))) ∧ (¬ (r18 = (0 : Int)) → _))))) ∧ (¬ ((0 : Int) = (0 : Int)) → _))) ∧ (¬ ((0 : Int) = (0 : Int)) → _))))) ∧ (¬ ((0 : Int) = (0 : Int)) → _))) ∧ (¬ (r17 = (0 : Int)) → ((0 ≤ (st 170 42) - 1 ∧ (st 170 42) - 1 < 20) ∧ ((st 194 ((st 170 42) - 1 : Int).toNat = (0 : Int) → (((0 : Int) = (0 : Int) → ((0 ≤ (st 170 42) - 1 ∧ (st 170 42) - 1 < 20) ∧ ((0 = (0 : Int) ∨ 0 = (1 : Int)) ∧ (((0 : Int) = (0 : Int) → (((0 : Int) = (0 : Int) → (170 = 170 ∧ (∀ (r27 : Int), en_isSign (40) (zup st 194 ((st 170 42) - 1 : Int).toNat 0) r27 → ((r27 = (0 : Int) → (170 = 170 ∧ (∀ (r28 : Int), en_isWord (7170414) (zup st 194 ((st 170 42) - 1 : Int).toNat 0) r28 → ((¬ r28 = (0 : Int) → _) ∧ (¬ (¬ r28 = (0 : Int)) → (170 = 170 ∧ (∀ (r29 : Int), en_isWord (7168376) (zup st 194 ((st 170 42) - 1 : Int).toNat 0) r29 → ((¬ r29 = (0 : Int) → (170 = 170 ∧ (∀ (r30 : Int), en_isWord (7170414) (zup st 194 ((st 170 42) - 1 : Int).toNat 0) r30 → ((r30 = (0 : Int) → (170 = 170 ∧ (∀ (r31 : Int), en_isWord (7168376) (zup st 194 ((st 170 42) - 1 : Int).toNat 0) r31 → ((r31 = (0 : Int) → _) ∧ (¬ (r31 = (0 : Int)) → (170 = 170 ∧ (rq_rNext t n  (zup st 194 ((st 170 42) - 1 : Int).toNat 0) ∧ (∀ (s32 : zS), en_rNext t n  (zup st 194 ((st 170 42) - 1 : Int).toNat 0) s32 → (170 = 170 ∧ (rq_rLex  s32 ∧ ((170 = 170 ∧ (∀ (r34 : Int), en_isSign (40) s32 r34 → ((¬ r34 = (0 : Int) → ((¬ (37 : Int) = (44 : Int) → (170 = 170 ∧ (rq_rOpens t n (3) s32 ∧ (∀ (s35 : zS), en_rOpens t n (3) s32 s35 → ((¬ s35 170 8 = (0 : Int) → _) ∧ (¬ (¬ s35 170 8 = (0 : Int)) → ((-2147483648 ≤ (s35 170 42) - 1 ∧ (s35 170 42) - 1 ≤ 2147483647) ∧ ((0 ≤ (s35 170 42) - 1 ∧ (s35 170 42) - 1 < 20) ∧ ((0 = (0 : Int) ∨ 0 = (1 : Int)) ∧ Q (some (.inl 0)) (zup s35 195 ((s35 170 42) - 1 : Int).toNat 37)))))))))) ∧ (¬ (¬ (37 : Int) = (44 : Int)) → _))) ∧ (¬ (¬ r34 = (0 : Int)) → _))))))))))))))) ∧ (¬ (r30 = (0 : Int)) → _))))) ∧ (¬ (¬ r29 = (0 : Int)) → _))))))))) ∧ (¬ (r27 = (0 : Int)) → _))))) ∧ (¬ ((0 : Int) = (0 : Int)) → _))) ∧ (¬ ((0 : Int) = (0 : Int)) → _))))) ∧ (¬ ((0 : Int) = (0 : Int)) → _))) ∧ (¬ (st 194 ((st 170 42) - 1 : Int).toNat = (0 : Int)) → (((1 : Int) = (0 : Int) → _) ∧ (¬ ((1 : Int) = (0 : Int)) → (170 = 170 ∧ (∀ (r36 : Int), en_isWord (7237492) st r36 → ((r36 = (0 : Int) → ((0 ≤ (st 170 42) - 1 ∧ (st 170 42) - 1 < 20) ∧ ((0 = (0 : Int) ∨ 0 = (1 : Int)) ∧ (((1 : Int) = (0 : Int) → _) ∧ (¬ ((1 : Int) = (0 : Int)) → (170 = 170 ∧ (∀ (r37 : Int), en_isSign (91) (zup st 194 ((st 170 42) - 1 : Int).toNat 0) r37 → ((r37 = (0 : Int) → (((1 : Int) = (0 : Int) → _) ∧ (¬ ((1 : Int) = (0 : Int)) → (170 = 170 ∧ (∀ (r38 : Int), en_isWord (6384748) (zup st 194 ((st 170 42) - 1 : Int).toNat 0) r38 → ((r38 = (0 : Int) → (170 = 170 ∧ (∀ (r39 : Int), en_isSign (40) (zup st 194 ((st 170 42) - 1 : Int).toNat 0) r39 → ((r39 = (0 : Int) → (170 = 170 ∧ (∀ (r40 : Int), en_isWord (7170414) (zup st 194 ((st 170 42) - 1 : Int).toNat 0) r40 → ((¬ r40 = (0 : Int) → _) ∧ (¬ (¬ r40 = (0 : Int)) → (170 = 170 ∧ (∀ (r41 : Int), en_isWord (7168376) (zup st 194 ((st 170 42) - 1 : Int).toNat 0) r41 → ((¬ r41 = (0 : Int) → (170 = 170 ∧ (∀ (r42 : Int), en_isWord (7170414) (zup st 194 ((st 170 42) - 1 : Int).toNat 0) r42 → ((r42 = (0 : Int) → (170 = 170 ∧ (∀ (r43 : Int), en_isWord (7168376) (zup st 194 ((st 170 42) - 1 : Int).toNat 0) r43 → ((r43 = (0 : Int) → _) ∧ (¬ (r43 = (0 : Int)) → (170 = 170 ∧ (rq_rNext t n  (zup st 194 ((st 170 42) - 1 : Int).toNat 0) ∧ (∀ (s44 : zS), en_rNext t n  (zup st 194 ((st 170 42) - 1 : Int).toNat 0) s44 → (170 = 170 ∧ (rq_rLex  s44 ∧ ((170 = 170 ∧ (∀ (r46 : Int), en_isSign (40) s44 r46 → ((¬ r46 = (0 : Int) → ((¬ (37 : Int) = (44 : Int) → (170 = 170 ∧ (rq_rOpens t n (3) s44 ∧ (∀ (s47 : zS), en_rOpens t n (3) s44 s47 → ((¬ s47 170 8 = (0 : Int) → _) ∧ (¬ (¬ s47 170 8 = (0 : Int)) → ((-2147483648 ≤ (s47 170 42) - 1 ∧ (s47 170 42) - 1 ≤ 2147483647) ∧ ((0 ≤ (s47 170 42) - 1 ∧ (s47 170 42) - 1 < 20) ∧ ((0 = (0 : Int) ∨ 0 = (1 : Int)) ∧ Q (some (.inl 0)) (zup s47 195 ((s47 170 42) - 1 : Int).toNat 37)))))))))) ∧ (¬ (¬ (37 : Int) = (44 : Int)) → _))) ∧ (¬ (¬ r46 = (0 : Int)) → _))))))))))))))) ∧ (¬ (r42 = (0 : Int)) → _))))) ∧ (¬ (¬ r41 = (0 : Int)) → _))))))))) ∧ (¬ (r39 = (0 : Int)) → _))))) ∧ (¬ (r38 = (0 : Int)) → _))))))) ∧ (¬ (r37 = (0 : Int)) → _))))))))) ∧ (¬ (r36 = (0 : Int)) → _))))))))))))))) ∧ (¬ (st 170 8 ≤ (0 : Int)) → _)))))
  refine ⟨rfl, ⟨hG, (show st 170 12 = -1 from by omega)⟩, ?_⟩
  refine ⟨fun h48 => ?_, fun h48 => (by exfalso; omega)⟩
  refine ⟨by omega, ?_⟩
  have g49 := g_frame hG ((st 170 42) - 1 : Int).toNat
  refine ⟨by omega, ?_⟩
  refine fun r17 q17 => ?_
  have b17 := q17
  change (r17 = 0 ∨ r17 = 1) ∧ (r17 = 1 ↔ (st 192 ((st 170 42) - 1 : Int).toNat) = 1 ∨ (st 192 ((st 170 42) - 1 : Int).toNat) = 5 ∨ (st 192 ((st 170 42) - 1 : Int).toNat) = 6) at b17
  refine ⟨fun h50 => ?_, fun h50 => ?_⟩
  · refine ⟨fun h51 => ?_, fun h51 => absurd (by decide) h51⟩
    refine ⟨by omega, ?_⟩
    refine ⟨by omega, ?_⟩
    refine ⟨fun h52 => ?_, fun h52 => absurd (by decide) h52⟩
    refine ⟨fun h53 => ?_, fun h53 => absurd (by decide) h53⟩
    refine ⟨rfl, fun r18 q18 => ?_⟩
    have b18 := q18
    change (r18 = 0 ∨ r18 = 1) ∧ (r18 = 1 ↔ st 170 3 = 3 ∧ st 170 6 = (40)) at b18
    refine ⟨fun h54 => ?_, fun h54 => (by exfalso; clear hQ; omega)⟩
    clear h54 b18
    refine ⟨rfl, fun r19 q19 => ?_⟩
    have b19 := q19
    change (r19 = 0 ∨ r19 = 1) ∧ (r19 = 1 ↔ st 170 3 = 1 ∧ st 170 7 = (7170414)) at b19
    refine ⟨fun h55 => (by exfalso; clear hQ; omega), fun h55 => ?_⟩
    clear h55 b19
    refine ⟨rfl, fun r20 q20 => ?_⟩
    have b20 := q20
    change (r20 = 0 ∨ r20 = 1) ∧ (r20 = 1 ↔ st 170 3 = 1 ∧ st 170 7 = (7168376)) at b20
    refine ⟨fun h56 => ?_, fun h56 => (by exfalso; clear hQ; omega)⟩
    clear h56 b20
    refine ⟨rfl, fun r21 q21 => ?_⟩
    have b21 := q21
    change (r21 = 0 ∨ r21 = 1) ∧ (r21 = 1 ↔ st 170 3 = 1 ∧ st 170 7 = (7170414)) at b21
    refine ⟨fun h57 => ?_, fun h57 => (by exfalso; clear hQ; omega)⟩
    clear h57 b21
    refine ⟨rfl, fun r22 q22 => ?_⟩
    have b22 := q22
    change (r22 = 0 ∨ r22 = 1) ∧ (r22 = 1 ↔ st 170 3 = 1 ∧ st 170 7 = (7168376)) at b22
    refine ⟨fun h58 => (by exfalso; clear hQ; omega), fun h58 => ?_⟩
    clear h58 b22
    refine ⟨rfl, ⟨(gInv_up hG (p_begins (by omega))), (show RDr (zup st 194 ((st 170 42) - 1 : Int).toNat 0) t n from (show RDr (zup st 194 ((st 170 42) - 1 : Int).toNat 0) t n from mrd)), (show st 170 12 = -1 from by omega)⟩, fun s23 q23 => ?_⟩
    obtain ⟨gs23, fs23, rd23, nx23⟩ := q23
    change RDr s23 t n at rd23
    change NXr (zup st 194 ((st 170 42) - 1 : Int).toNat 0) s23 t n at nx23
    have hp1 : s23 170 4 = e := NXr_e (st := (zup st 194 ((st 170 42) - 1 : Int).toNat 0)) (show NXr (zup st 194 ((st 170 42) - 1 : Int).toNat 0) s23 t n from nx23) (show tk t n ((zup st 194 ((st 170 42) - 1 : Int).toNat 0) 170 4) _ _ e from by rw [show (zup st 194 ((st 170 42) - 1 : Int).toNat 0) 170 4 = p from (show st 170 4 = p from by omega)]; exact ht.1) (by omega)
    have tf2 := r_sig rd23 (by rw [hp1]; exact ht.2.1)
    have g59 := g_sign gs23
    have g60 := g_value gs23
    have g61 := g_word gs23
    have g62 := g_lexAt gs23
    have e63 : s23 170 8 = st 170 8 := fs23 170 8 rfl rfl
    have g64 := g_signAt gs23
    have e65 : s23 170 43 = st 170 43 := fs23 170 43 rfl rfl
    have e66 : s23 170 42 = st 170 42 := fs23 170 42 rfl rfl
    have e67 : s23 170 45 = st 170 45 := fs23 170 45 rfl rfl
    have g68 := g_signEnd gs23
    refine ⟨rfl, ⟨gs23, (show s23 170 12 = -1 from by omega)⟩, ?_⟩
    refine ⟨rfl, fun r25 q25 => ?_⟩
    have b25 := q25
    change (r25 = 0 ∨ r25 = 1) ∧ (r25 = 1 ↔ s23 170 3 = 3 ∧ s23 170 6 = (40)) at b25
    refine ⟨fun h69 => ?_, fun h69 => (by exfalso; clear hQ; omega)⟩
    clear h69 b25
    refine ⟨fun h70 => ?_, fun h70 => absurd (by decide) h70⟩
    refine ⟨rfl, ⟨gs23, (show RDr s23 t n from rd23), (show s23 170 12 = -1 ∧ s23 170 8 = 0 ∧ 0 ≤ s23 170 43 ∧ s23 170 43 < 7 ∧ 0 ≤ s23 170 42 ∧ s23 170 42 ≤ 18 ∧ 0 ≤ s23 170 45 ∧ s23 170 45 ≤ 499 ∧ 0 ≤ (3) ∧ (3) ≤ 6 from by omega)⟩, fun s26 q26 => ?_⟩
    obtain ⟨gs26, fs26, rd26, nx26, d26, u19226, u19326, u19426, u19626⟩ := q26
    change RDr s26 t n at rd26
    change NXr s23 s26 t n at nx26
    change s26 170 42 = s23 170 42 + 1 ∧ s26 170 43 = s23 170 43 + 1 at d26
    have g71 := g_deep gs26
    have g72 := g_open gs26
    change (s26 192) = up1 (s23 192) (s23 170 42).toNat (3) at u19226
    change (s26 193) = up1 (s23 193) (s23 170 42).toNat 0 at u19326
    change (s26 194) = up1 (s23 194) (s23 170 42).toNat 1 at u19426
    change (s26 196) = up1 (s23 196) (s23 170 42).toNat (s23 170 45) at u19626
    have e73 : s26 170 8 = s23 170 8 := fs26 170 8 rfl rfl
    refine ⟨fun h74 => (by exfalso; omega), fun h74 => ?_⟩
    refine ⟨by omega, ?_⟩
    refine ⟨by omega, ?_⟩
    refine ⟨by omega, ?_⟩
    have e76 : s23 170 46 = st 170 46 := fs23 170 46 rfl rfl
    have e75 : s26 170 46 = s23 170 46 := fs26 170 46 rfl rfl
    have e78 : s23 170 34 = st 170 34 := fs23 170 34 rfl rfl
    have e77 : s26 170 34 = s23 170 34 := fs26 170 34 rfl rfl
    have e79 : s26 170 45 = s23 170 45 := fs26 170 45 rfl rfl
    exact hQ _ _ ⟨(gInv_up gs26 (p_pair (by omega))), (fr_a (fr_tr (fr_tr (fr_a (fr_rf _ _) rfl) fs23 rfl) fs26 rfl) rfl), (Z9_up (Z9_tr (Z9_tr (Z9_up (Z9_rf _) (by decide)) ((show aFr m_rOp537 st (zup st 194 ((st 170 42) - 1 : Int).toNat 0) from (fr_a (fr_rf _ _) rfl)) 170 35 rfl rfl) (Z9_fr fs23 (fun _ => rfl) rfl)) ((show aFr m_rOp537 st s23 from (fr_tr (fr_a (fr_rf _ _) rfl) fs23 rfl)) 170 35 rfl rfl) (Z9_fr fs26 (fun _ => rfl) rfl)) (by decide)), (show (0 : Int) = 0 ∧ mcP t n (zup s26 195 ((s26 170 42) - 1 : Int).toNat 37) ((3, 0, 1, 37, []) :: (k, ph, 0, pr, w) :: fs) 0 (o + 1) (c) (e1) from (by
            have hp2 : s26 170 4 = e1 := NXr_e (st := s23) nx26 (show tk t n (s23 170 4) _ _ e1 from by rw [hp1]; exact ht.2.1) (by omega)
            have hl := tk_lt ht.1 (show 0 ≤ p from by rw [← mpp]; exact mrd.2.1.1) (by omega)
            have hl2 := tk_lt ht.2.1 (by omega) (by omega)
            refine ⟨rfl, (show s26 170 8 = 0 from by omega), (show s26 170 46 = 0 from by omega), (show s26 170 43 = o + 1 from by omega), hp2, (show RDr _ t n from rd26), ⟨?_, WB_c (by rw [List.length_nil]; omega) (fun x hx => by cases hx) (WB_c ml (WB_el mwb) (WB_tl mwb)), ?_⟩, (show s26 170 34 + s26 170 45 + s26 170 42 ≤ e1 from by omega), by omega, by omega, by rw [List.length_cons, List.length_cons]; omega⟩
            · have q := FR_pr 37 mb.2.1 (FR_push (fs := (k, ph, 0, pr, w) :: fs) 3 mb.2.1 (show 0 ≤ st 170 42 from by omega) (FR_bg 0 mb.2.1 mfr))
              show FR (s26 192) (s26 193) (s26 194) (up1 (s26 195) (s26 170 42 - 1).toNat 37) (s26 196) (s26 197) _ (s26 170 42) (s26 170 45)
              rw [u19226, u19326, u19426, u19626, d26.1, show s26 195 = s23 195 from funext (fun i => fs26 195 i rfl rfl), show s26 197 = s23 197 from funext (fun i => fs26 197 i rfl rfl), show s26 170 45 = s23 170 45 from fs26 170 45 rfl rfl]
              rw [show s23 192 = st 192 from funext (fun i => fs23 192 i rfl rfl), show s23 193 = st 193 from funext (fun i => fs23 193 i rfl rfl), show s23 194 = up1 (st 194) (st 170 42 - 1).toNat 0 from funext (fun i => fs23 194 i rfl rfl), show s23 195 = st 195 from funext (fun i => fs23 195 i rfl rfl), show s23 196 = st 196 from funext (fun i => fs23 196 i rfl rfl), show s23 197 = st 197 from funext (fun i => fs23 197 i rfl rfl), show s23 170 42 = st 170 42 from fs23 170 42 rfl rfl, show s23 170 45 = st 170 45 from fs23 170 45 rfl rfl]
              exact q
            · show CDr (s26 170 35) (s26 170 34) (s26 188) (s26 189) c
              rw [show s26 170 35 = s23 170 35 from fs26 170 35 rfl rfl, show s26 170 34 = s23 170 34 from fs26 170 34 rfl rfl, show s26 188 = s23 188 from funext (fun i => fs26 188 i rfl rfl), show s26 189 = s23 189 from funext (fun i => fs26 189 i rfl rfl)]
              rw [show s23 170 35 = st 170 35 from fs23 170 35 rfl rfl, show s23 170 34 = st 170 34 from fs23 170 34 rfl rfl, show s23 188 = st 188 from funext (fun i => fs23 188 i rfl rfl), show s23 189 = st 189 from funext (fun i => fs23 189 i rfl rfl)]
              exact mcd))⟩
  · have g80 := g_begins hG ((st 170 42) - 1 : Int).toNat
    refine ⟨by omega, ?_⟩
    refine ⟨fun h81 => ?_, fun h81 => ?_⟩
    · refine ⟨fun h82 => ?_, fun h82 => absurd (by decide) h82⟩
      refine ⟨by omega, ?_⟩
      refine ⟨by omega, ?_⟩
      refine ⟨fun h83 => ?_, fun h83 => absurd (by decide) h83⟩
      refine ⟨fun h84 => ?_, fun h84 => absurd (by decide) h84⟩
      refine ⟨rfl, fun r27 q27 => ?_⟩
      have b27 := q27
      change (r27 = 0 ∨ r27 = 1) ∧ (r27 = 1 ↔ st 170 3 = 3 ∧ st 170 6 = (40)) at b27
      refine ⟨fun h85 => ?_, fun h85 => (by exfalso; clear hQ; omega)⟩
      clear h85 b27
      refine ⟨rfl, fun r28 q28 => ?_⟩
      have b28 := q28
      change (r28 = 0 ∨ r28 = 1) ∧ (r28 = 1 ↔ st 170 3 = 1 ∧ st 170 7 = (7170414)) at b28
      refine ⟨fun h86 => (by exfalso; clear hQ; omega), fun h86 => ?_⟩
      clear h86 b28
      refine ⟨rfl, fun r29 q29 => ?_⟩
      have b29 := q29
      change (r29 = 0 ∨ r29 = 1) ∧ (r29 = 1 ↔ st 170 3 = 1 ∧ st 170 7 = (7168376)) at b29
      refine ⟨fun h87 => ?_, fun h87 => (by exfalso; clear hQ; omega)⟩
      clear h87 b29
      refine ⟨rfl, fun r30 q30 => ?_⟩
      have b30 := q30
      change (r30 = 0 ∨ r30 = 1) ∧ (r30 = 1 ↔ st 170 3 = 1 ∧ st 170 7 = (7170414)) at b30
      refine ⟨fun h88 => ?_, fun h88 => (by exfalso; clear hQ; omega)⟩
      clear h88 b30
      refine ⟨rfl, fun r31 q31 => ?_⟩
      have b31 := q31
      change (r31 = 0 ∨ r31 = 1) ∧ (r31 = 1 ↔ st 170 3 = 1 ∧ st 170 7 = (7168376)) at b31
      refine ⟨fun h89 => (by exfalso; clear hQ; omega), fun h89 => ?_⟩
      clear h89 b31
      refine ⟨rfl, ⟨(gInv_up hG (p_begins (by omega))), (show RDr (zup st 194 ((st 170 42) - 1 : Int).toNat 0) t n from (show RDr (zup st 194 ((st 170 42) - 1 : Int).toNat 0) t n from mrd)), (show st 170 12 = -1 from by omega)⟩, fun s32 q32 => ?_⟩
      obtain ⟨gs32, fs32, rd32, nx32⟩ := q32
      change RDr s32 t n at rd32
      change NXr (zup st 194 ((st 170 42) - 1 : Int).toNat 0) s32 t n at nx32
      have hp1 : s32 170 4 = e := NXr_e (st := (zup st 194 ((st 170 42) - 1 : Int).toNat 0)) (show NXr (zup st 194 ((st 170 42) - 1 : Int).toNat 0) s32 t n from nx32) (show tk t n ((zup st 194 ((st 170 42) - 1 : Int).toNat 0) 170 4) _ _ e from by rw [show (zup st 194 ((st 170 42) - 1 : Int).toNat 0) 170 4 = p from (show st 170 4 = p from by omega)]; exact ht.1) (by omega)
      have tf2 := r_sig rd32 (by rw [hp1]; exact ht.2.1)
      have g90 := g_sign gs32
      have g91 := g_value gs32
      have g92 := g_word gs32
      have g93 := g_lexAt gs32
      have e94 : s32 170 8 = st 170 8 := fs32 170 8 rfl rfl
      have g95 := g_signAt gs32
      have e96 : s32 170 43 = st 170 43 := fs32 170 43 rfl rfl
      have e97 : s32 170 42 = st 170 42 := fs32 170 42 rfl rfl
      have e98 : s32 170 45 = st 170 45 := fs32 170 45 rfl rfl
      have g99 := g_signEnd gs32
      refine ⟨rfl, ⟨gs32, (show s32 170 12 = -1 from by omega)⟩, ?_⟩
      refine ⟨rfl, fun r34 q34 => ?_⟩
      have b34 := q34
      change (r34 = 0 ∨ r34 = 1) ∧ (r34 = 1 ↔ s32 170 3 = 3 ∧ s32 170 6 = (40)) at b34
      refine ⟨fun h100 => ?_, fun h100 => (by exfalso; clear hQ; omega)⟩
      clear h100 b34
      refine ⟨fun h101 => ?_, fun h101 => absurd (by decide) h101⟩
      refine ⟨rfl, ⟨gs32, (show RDr s32 t n from rd32), (show s32 170 12 = -1 ∧ s32 170 8 = 0 ∧ 0 ≤ s32 170 43 ∧ s32 170 43 < 7 ∧ 0 ≤ s32 170 42 ∧ s32 170 42 ≤ 18 ∧ 0 ≤ s32 170 45 ∧ s32 170 45 ≤ 499 ∧ 0 ≤ (3) ∧ (3) ≤ 6 from by omega)⟩, fun s35 q35 => ?_⟩
      obtain ⟨gs35, fs35, rd35, nx35, d35, u19235, u19335, u19435, u19635⟩ := q35
      change RDr s35 t n at rd35
      change NXr s32 s35 t n at nx35
      change s35 170 42 = s32 170 42 + 1 ∧ s35 170 43 = s32 170 43 + 1 at d35
      have g102 := g_deep gs35
      have g103 := g_open gs35
      change (s35 192) = up1 (s32 192) (s32 170 42).toNat (3) at u19235
      change (s35 193) = up1 (s32 193) (s32 170 42).toNat 0 at u19335
      change (s35 194) = up1 (s32 194) (s32 170 42).toNat 1 at u19435
      change (s35 196) = up1 (s32 196) (s32 170 42).toNat (s32 170 45) at u19635
      have e104 : s35 170 8 = s32 170 8 := fs35 170 8 rfl rfl
      refine ⟨fun h105 => (by exfalso; omega), fun h105 => ?_⟩
      refine ⟨by omega, ?_⟩
      refine ⟨by omega, ?_⟩
      refine ⟨by omega, ?_⟩
      have e107 : s32 170 46 = st 170 46 := fs32 170 46 rfl rfl
      have e106 : s35 170 46 = s32 170 46 := fs35 170 46 rfl rfl
      have e109 : s32 170 34 = st 170 34 := fs32 170 34 rfl rfl
      have e108 : s35 170 34 = s32 170 34 := fs35 170 34 rfl rfl
      have e110 : s35 170 45 = s32 170 45 := fs35 170 45 rfl rfl
      exact hQ _ _ ⟨(gInv_up gs35 (p_pair (by omega))), (fr_a (fr_tr (fr_tr (fr_a (fr_rf _ _) rfl) fs32 rfl) fs35 rfl) rfl), (Z9_up (Z9_tr (Z9_tr (Z9_up (Z9_rf _) (by decide)) ((show aFr m_rOp537 st (zup st 194 ((st 170 42) - 1 : Int).toNat 0) from (fr_a (fr_rf _ _) rfl)) 170 35 rfl rfl) (Z9_fr fs32 (fun _ => rfl) rfl)) ((show aFr m_rOp537 st s32 from (fr_tr (fr_a (fr_rf _ _) rfl) fs32 rfl)) 170 35 rfl rfl) (Z9_fr fs35 (fun _ => rfl) rfl)) (by decide)), (show (0 : Int) = 0 ∧ mcP t n (zup s35 195 ((s35 170 42) - 1 : Int).toNat 37) ((3, 0, 1, 37, []) :: (k, ph, 0, pr, w) :: fs) 0 (o + 1) (c) (e1) from (by
            have hp2 : s35 170 4 = e1 := NXr_e (st := s32) nx35 (show tk t n (s32 170 4) _ _ e1 from by rw [hp1]; exact ht.2.1) (by omega)
            have hl := tk_lt ht.1 (show 0 ≤ p from by rw [← mpp]; exact mrd.2.1.1) (by omega)
            have hl2 := tk_lt ht.2.1 (by omega) (by omega)
            refine ⟨rfl, (show s35 170 8 = 0 from by omega), (show s35 170 46 = 0 from by omega), (show s35 170 43 = o + 1 from by omega), hp2, (show RDr _ t n from rd35), ⟨?_, WB_c (by rw [List.length_nil]; omega) (fun x hx => by cases hx) (WB_c ml (WB_el mwb) (WB_tl mwb)), ?_⟩, (show s35 170 34 + s35 170 45 + s35 170 42 ≤ e1 from by omega), by omega, by omega, by rw [List.length_cons, List.length_cons]; omega⟩
            · have q := FR_pr 37 mb.2.1 (FR_push (fs := (k, ph, 0, pr, w) :: fs) 3 mb.2.1 (show 0 ≤ st 170 42 from by omega) (FR_bg 0 mb.2.1 mfr))
              show FR (s35 192) (s35 193) (s35 194) (up1 (s35 195) (s35 170 42 - 1).toNat 37) (s35 196) (s35 197) _ (s35 170 42) (s35 170 45)
              rw [u19235, u19335, u19435, u19635, d35.1, show s35 195 = s32 195 from funext (fun i => fs35 195 i rfl rfl), show s35 197 = s32 197 from funext (fun i => fs35 197 i rfl rfl), show s35 170 45 = s32 170 45 from fs35 170 45 rfl rfl]
              rw [show s32 192 = st 192 from funext (fun i => fs32 192 i rfl rfl), show s32 193 = st 193 from funext (fun i => fs32 193 i rfl rfl), show s32 194 = up1 (st 194) (st 170 42 - 1).toNat 0 from funext (fun i => fs32 194 i rfl rfl), show s32 195 = st 195 from funext (fun i => fs32 195 i rfl rfl), show s32 196 = st 196 from funext (fun i => fs32 196 i rfl rfl), show s32 197 = st 197 from funext (fun i => fs32 197 i rfl rfl), show s32 170 42 = st 170 42 from fs32 170 42 rfl rfl, show s32 170 45 = st 170 45 from fs32 170 45 rfl rfl]
              exact q
            · show CDr (s35 170 35) (s35 170 34) (s35 188) (s35 189) c
              rw [show s35 170 35 = s32 170 35 from fs35 170 35 rfl rfl, show s35 170 34 = s32 170 34 from fs35 170 34 rfl rfl, show s35 188 = s32 188 from funext (fun i => fs35 188 i rfl rfl), show s35 189 = s32 189 from funext (fun i => fs35 189 i rfl rfl)]
              rw [show s32 170 35 = st 170 35 from fs32 170 35 rfl rfl, show s32 170 34 = st 170 34 from fs32 170 34 rfl rfl, show s32 188 = st 188 from funext (fun i => fs32 188 i rfl rfl), show s32 189 = st 189 from funext (fun i => fs32 189 i rfl rfl)]
              exact mcd))⟩
    · refine ⟨fun h111 => absurd h111 (by decide), fun h111 => ?_⟩
      refine ⟨rfl, fun r36 q36 => ?_⟩
      have b36 := q36
      change (r36 = 0 ∨ r36 = 1) ∧ (r36 = 1 ↔ st 170 3 = 1 ∧ st 170 7 = (7237492)) at b36
      refine ⟨fun h112 => ?_, fun h112 => (by exfalso; clear hQ; omega)⟩
      clear h112 b36
      refine ⟨by omega, ?_⟩
      refine ⟨by omega, ?_⟩
      refine ⟨fun h113 => absurd h113 (by decide), fun h113 => ?_⟩
      refine ⟨rfl, fun r37 q37 => ?_⟩
      have b37 := q37
      change (r37 = 0 ∨ r37 = 1) ∧ (r37 = 1 ↔ st 170 3 = 3 ∧ st 170 6 = (91)) at b37
      refine ⟨fun h114 => ?_, fun h114 => (by exfalso; clear hQ; omega)⟩
      clear h114 b37
      refine ⟨fun h115 => absurd h115 (by decide), fun h115 => ?_⟩
      refine ⟨rfl, fun r38 q38 => ?_⟩
      have b38 := q38
      change (r38 = 0 ∨ r38 = 1) ∧ (r38 = 1 ↔ st 170 3 = 1 ∧ st 170 7 = (6384748)) at b38
      refine ⟨fun h116 => ?_, fun h116 => (by exfalso; clear hQ; omega)⟩
      clear h116 b38
      refine ⟨rfl, fun r39 q39 => ?_⟩
      have b39 := q39
      change (r39 = 0 ∨ r39 = 1) ∧ (r39 = 1 ↔ st 170 3 = 3 ∧ st 170 6 = (40)) at b39
      refine ⟨fun h117 => ?_, fun h117 => (by exfalso; clear hQ; omega)⟩
      clear h117 b39
      refine ⟨rfl, fun r40 q40 => ?_⟩
      have b40 := q40
      change (r40 = 0 ∨ r40 = 1) ∧ (r40 = 1 ↔ st 170 3 = 1 ∧ st 170 7 = (7170414)) at b40
      refine ⟨fun h118 => (by exfalso; clear hQ; omega), fun h118 => ?_⟩
      clear h118 b40
      refine ⟨rfl, fun r41 q41 => ?_⟩
      have b41 := q41
      change (r41 = 0 ∨ r41 = 1) ∧ (r41 = 1 ↔ st 170 3 = 1 ∧ st 170 7 = (7168376)) at b41
      refine ⟨fun h119 => ?_, fun h119 => (by exfalso; clear hQ; omega)⟩
      clear h119 b41
      refine ⟨rfl, fun r42 q42 => ?_⟩
      have b42 := q42
      change (r42 = 0 ∨ r42 = 1) ∧ (r42 = 1 ↔ st 170 3 = 1 ∧ st 170 7 = (7170414)) at b42
      refine ⟨fun h120 => ?_, fun h120 => (by exfalso; clear hQ; omega)⟩
      clear h120 b42
      refine ⟨rfl, fun r43 q43 => ?_⟩
      have b43 := q43
      change (r43 = 0 ∨ r43 = 1) ∧ (r43 = 1 ↔ st 170 3 = 1 ∧ st 170 7 = (7168376)) at b43
      refine ⟨fun h121 => (by exfalso; clear hQ; omega), fun h121 => ?_⟩
      clear h121 b43
      refine ⟨rfl, ⟨(gInv_up hG (p_begins (by omega))), (show RDr (zup st 194 ((st 170 42) - 1 : Int).toNat 0) t n from (show RDr (zup st 194 ((st 170 42) - 1 : Int).toNat 0) t n from mrd)), (show st 170 12 = -1 from by omega)⟩, fun s44 q44 => ?_⟩
      obtain ⟨gs44, fs44, rd44, nx44⟩ := q44
      change RDr s44 t n at rd44
      change NXr (zup st 194 ((st 170 42) - 1 : Int).toNat 0) s44 t n at nx44
      have hp1 : s44 170 4 = e := NXr_e (st := (zup st 194 ((st 170 42) - 1 : Int).toNat 0)) (show NXr (zup st 194 ((st 170 42) - 1 : Int).toNat 0) s44 t n from nx44) (show tk t n ((zup st 194 ((st 170 42) - 1 : Int).toNat 0) 170 4) _ _ e from by rw [show (zup st 194 ((st 170 42) - 1 : Int).toNat 0) 170 4 = p from (show st 170 4 = p from by omega)]; exact ht.1) (by omega)
      have tf2 := r_sig rd44 (by rw [hp1]; exact ht.2.1)
      have g122 := g_sign gs44
      have g123 := g_value gs44
      have g124 := g_word gs44
      have g125 := g_lexAt gs44
      have e126 : s44 170 8 = st 170 8 := fs44 170 8 rfl rfl
      have g127 := g_signAt gs44
      have e128 : s44 170 43 = st 170 43 := fs44 170 43 rfl rfl
      have e129 : s44 170 42 = st 170 42 := fs44 170 42 rfl rfl
      have e130 : s44 170 45 = st 170 45 := fs44 170 45 rfl rfl
      have g131 := g_signEnd gs44
      refine ⟨rfl, ⟨gs44, (show s44 170 12 = -1 from by omega)⟩, ?_⟩
      refine ⟨rfl, fun r46 q46 => ?_⟩
      have b46 := q46
      change (r46 = 0 ∨ r46 = 1) ∧ (r46 = 1 ↔ s44 170 3 = 3 ∧ s44 170 6 = (40)) at b46
      refine ⟨fun h132 => ?_, fun h132 => (by exfalso; clear hQ; omega)⟩
      clear h132 b46
      refine ⟨fun h133 => ?_, fun h133 => absurd (by decide) h133⟩
      refine ⟨rfl, ⟨gs44, (show RDr s44 t n from rd44), (show s44 170 12 = -1 ∧ s44 170 8 = 0 ∧ 0 ≤ s44 170 43 ∧ s44 170 43 < 7 ∧ 0 ≤ s44 170 42 ∧ s44 170 42 ≤ 18 ∧ 0 ≤ s44 170 45 ∧ s44 170 45 ≤ 499 ∧ 0 ≤ (3) ∧ (3) ≤ 6 from by omega)⟩, fun s47 q47 => ?_⟩
      obtain ⟨gs47, fs47, rd47, nx47, d47, u19247, u19347, u19447, u19647⟩ := q47
      change RDr s47 t n at rd47
      change NXr s44 s47 t n at nx47
      change s47 170 42 = s44 170 42 + 1 ∧ s47 170 43 = s44 170 43 + 1 at d47
      have g134 := g_deep gs47
      have g135 := g_open gs47
      change (s47 192) = up1 (s44 192) (s44 170 42).toNat (3) at u19247
      change (s47 193) = up1 (s44 193) (s44 170 42).toNat 0 at u19347
      change (s47 194) = up1 (s44 194) (s44 170 42).toNat 1 at u19447
      change (s47 196) = up1 (s44 196) (s44 170 42).toNat (s44 170 45) at u19647
      have e136 : s47 170 8 = s44 170 8 := fs47 170 8 rfl rfl
      refine ⟨fun h137 => (by exfalso; omega), fun h137 => ?_⟩
      refine ⟨by omega, ?_⟩
      refine ⟨by omega, ?_⟩
      refine ⟨by omega, ?_⟩
      have e139 : s44 170 46 = st 170 46 := fs44 170 46 rfl rfl
      have e138 : s47 170 46 = s44 170 46 := fs47 170 46 rfl rfl
      have e141 : s44 170 34 = st 170 34 := fs44 170 34 rfl rfl
      have e140 : s47 170 34 = s44 170 34 := fs47 170 34 rfl rfl
      have e142 : s47 170 45 = s44 170 45 := fs47 170 45 rfl rfl
      exact hQ _ _ ⟨(gInv_up gs47 (p_pair (by omega))), (fr_a (fr_tr (fr_tr (fr_a (fr_rf _ _) rfl) fs44 rfl) fs47 rfl) rfl), (Z9_up (Z9_tr (Z9_tr (Z9_up (Z9_rf _) (by decide)) ((show aFr m_rOp537 st (zup st 194 ((st 170 42) - 1 : Int).toNat 0) from (fr_a (fr_rf _ _) rfl)) 170 35 rfl rfl) (Z9_fr fs44 (fun _ => rfl) rfl)) ((show aFr m_rOp537 st s44 from (fr_tr (fr_a (fr_rf _ _) rfl) fs44 rfl)) 170 35 rfl rfl) (Z9_fr fs47 (fun _ => rfl) rfl)) (by decide)), (show (0 : Int) = 0 ∧ mcP t n (zup s47 195 ((s47 170 42) - 1 : Int).toNat 37) ((3, 0, 1, 37, []) :: (k, ph, 0, pr, w) :: fs) 0 (o + 1) (c) (e1) from (by
            have hp2 : s47 170 4 = e1 := NXr_e (st := s44) nx47 (show tk t n (s44 170 4) _ _ e1 from by rw [hp1]; exact ht.2.1) (by omega)
            have hl := tk_lt ht.1 (show 0 ≤ p from by rw [← mpp]; exact mrd.2.1.1) (by omega)
            have hl2 := tk_lt ht.2.1 (by omega) (by omega)
            refine ⟨rfl, (show s47 170 8 = 0 from by omega), (show s47 170 46 = 0 from by omega), (show s47 170 43 = o + 1 from by omega), hp2, (show RDr _ t n from rd47), ⟨?_, WB_c (by rw [List.length_nil]; omega) (fun x hx => by cases hx) (WB_c ml (WB_el mwb) (WB_tl mwb)), ?_⟩, (show s47 170 34 + s47 170 45 + s47 170 42 ≤ e1 from by omega), by omega, by omega, by rw [List.length_cons, List.length_cons]; omega⟩
            · have q := FR_pr 37 mb.2.1 (FR_push (fs := (k, ph, 0, pr, w) :: fs) 3 mb.2.1 (show 0 ≤ st 170 42 from by omega) (FR_bg 0 mb.2.1 mfr))
              show FR (s47 192) (s47 193) (s47 194) (up1 (s47 195) (s47 170 42 - 1).toNat 37) (s47 196) (s47 197) _ (s47 170 42) (s47 170 45)
              rw [u19247, u19347, u19447, u19647, d47.1, show s47 195 = s44 195 from funext (fun i => fs47 195 i rfl rfl), show s47 197 = s44 197 from funext (fun i => fs47 197 i rfl rfl), show s47 170 45 = s44 170 45 from fs47 170 45 rfl rfl]
              rw [show s44 192 = st 192 from funext (fun i => fs44 192 i rfl rfl), show s44 193 = st 193 from funext (fun i => fs44 193 i rfl rfl), show s44 194 = up1 (st 194) (st 170 42 - 1).toNat 0 from funext (fun i => fs44 194 i rfl rfl), show s44 195 = st 195 from funext (fun i => fs44 195 i rfl rfl), show s44 196 = st 196 from funext (fun i => fs44 196 i rfl rfl), show s44 197 = st 197 from funext (fun i => fs44 197 i rfl rfl), show s44 170 42 = st 170 42 from fs44 170 42 rfl rfl, show s44 170 45 = st 170 45 from fs44 170 45 rfl rfl]
              exact q
            · show CDr (s47 170 35) (s47 170 34) (s47 188) (s47 189) c
              rw [show s47 170 35 = s44 170 35 from fs47 170 35 rfl rfl, show s47 170 34 = s44 170 34 from fs47 170 34 rfl rfl, show s47 188 = s44 188 from funext (fun i => fs47 188 i rfl rfl), show s47 189 = s44 189 from funext (fun i => fs47 189 i rfl rfl)]
              rw [show s44 170 35 = st 170 35 from fs44 170 35 rfl rfl, show s44 170 34 = st 170 34 from fs44 170 34 rfl rfl, show s44 188 = st 188 from funext (fun i => fs44 188 i rfl rfl), show s44 189 = st 189 from funext (fun i => fs44 189 i rfl rfl)]
              exact mcd))⟩
theorem k_rOp537_m (hTb : aTb zSh rx_tb cl) {t : Int → Int} {n k ph bg pr o p e : Int} {w c : List Int} {fs : List mFr} {e1 : Int} {D : Nat} (hD : 4 ≤ D) : ∀ as st (Q Q' : zQ), (∀ r st', Q r st' → Q' r st') → (k_rOp537 t n k ph bg pr o p e w c fs e1) 196 as st Q → cl D 196 as st Q' := by
  intro as st Q Q' hQ h
  unfold k_rOp537 at h
  split at h
  · obtain ⟨rfl, h⟩ := h
    exact c_rOp537 hTb hD (ct_rOp537_m hQ h)
  · exact h.elim
set_option maxHeartbeats 4000000 in
set_option maxRecDepth 100000 in
theorem c_rOp544 (hTb : aTb zSh rx_tb cl) {t : Int → Int} {n k ph bg pr o p e : Int} {w c : List Int} {fs : List mFr} {e1 : Int} {D : Nat} (hD : 4 ≤ D) {st : zS} {Q : zQ} (h : ct_rOp544 t n k ph bg pr o p e w c fs e1 st Q) : cl D 196 [.inr (.inr (.inl 170))] st Q := by
  obtain ⟨d, rfl⟩ : ∃ d, D = d + 1 := ⟨D - 1, by omega⟩
  refine hTb d 196 (rx_m196, 4, 0, 0, 2) rfl _ _ _ (Nat.le_of_ble_eq_true rfl) (fun K hcl hsf hsl => ?_)
  have hcm : zmo (wcL [(181, k_rLex), (195, k_isTest), (183, k_isWord), (182, k_isSign), (149, k_rNext t n), (189, k_add), (192, k_holdsBack), (194, k_rOpens t n)]) (cl d) := (wcL_m (wm_cons (k_rLex_m hTb (by omega)) (wm_cons (k_isTest_m hTb (by omega)) (wm_cons (k_isWord_m hTb (by omega)) (wm_cons (k_isSign_m hTb (by omega)) (wm_cons (k_rNext_m hTb (by omega)) (wm_cons (k_add_m hTb (by omega)) (wm_cons (k_holdsBack_m hTb (by omega)) (wm_cons (k_rOpens_m hTb (by omega)) wm_nil)))))))))
  obtain ⟨hR, hQ⟩ := h
  obtain ⟨hG, mp, ht⟩ := hR
  change mcP t n st ((k, ph, bg, pr, w) :: fs) 0 (o) (c) (p) at mp
  change tk t n p 1 26982 e ∧ tk t n e 3 40 e1 ∧ o < 7 ∧ fs.length ≤ 7 at ht
  obtain ⟨mf, mo, mn, mpp, mrd, mq, mbd, mz1, mz2, mz3⟩ := mp
  rw [List.length_cons] at mz3
  have mq0 := mq
  obtain ⟨mfr, mwb, mcd⟩ := mq
  have mt := FR_top mfr
  have mb := FR_bnd _ _ _ mwb mfr
  rw [List.length_cons] at mb
  have ml := WB_hd mwb
  have mcl := mcd.1
  have mlw := FR_len mb.2.1 mfr
  have tf := r_wrd mrd (by rw [mpp]; exact ht.1)
  have g1 := g_codes hG
  have g2 := g_in hG
  have g3 := g_isClever hG
  have g4 := g_deep hG
  have g5 := g_open hG
  have g6 := g_opMany hG
  have g7 := g_signAt hG
  have g8 := g_signEnd hG
  have g9 := g_faultKind hG
  have g10 := g_size hG
  have g11 := g_sign hG
  have g12 := g_lexAt hG
  have g13 := g_value hG
  have g14 := g_word hG
  have g15 := g_operand hG
  refine yr1_ok (Rt := Q) (wc := (wcL [(181, k_rLex), (195, k_isTest), (183, k_isWord), (182, k_isSign), (149, k_rNext t n), (189, k_add), (192, k_holdsBack), (194, k_rOpens t n)])) (stp := []) hcm hcl [] 400 ?_
  show (170 = 170 ∧ (rq_rLex  st ∧ (((st 170 8 ≤ (0 : Int) → ((-2147483648 ≤ (st 170 42) - 1 ∧ (st 170 42) - 1 ≤ 2147483647) ∧ ((0 ≤ (st 170 42) - 1 ∧ (st 170 42) - 1 < 20) ∧ (∀ (r17 : Int), en_isTest (st 192 ((st 170 42) - 1 : Int).toNat) st r17 → ((r17 = (0 : Int) → (((0 : Int) = (0 : Int) → ((0 ≤ (st 170 42) - 1 ∧ (st 170 42) - 1 < 20) ∧ ((0 = (0 : Int) ∨ 0 = (1 : Int)) ∧ (((0 : Int) = (0 : Int) → (((0 : Int) = (0 : Int) → (170 = 170 ∧ (∀ (r18 : Int), en_isSign (40) (zup st 194 ((st 170 42) - 1 : Int).toNat 0) r18 → ((r18 = (0 : Int) → (170 = 170 ∧ (∀ (r19 : Int), en_isWord (7170414) (zup st 194 ((st 170 42) - 1 : Int).toNat 0) r19 → ((¬ r19 = (0 : Int) → _) ∧ (¬ (¬ r19 = (0 : Int)) → (170 = 170 ∧ (∀ (r20 : Int), en_isWord (7168376) (zup st 194 ((st 170 42) - 1 : Int).toNat 0) r20 → ((¬ r20 = (0 : Int) → _) ∧ (¬ (¬ r20 = (0 : Int)) → (170 = 170 ∧ (∀ (r21 : Int), en_isWord (26982) (zup st 194 ((st 170 42) - 1 : Int).toNat 0) r21 → ((r21 = (0 : Int) → _) ∧ (¬ (r21 = (0 : Int)) → (170 = 170 ∧ (∀ (r22 : Int), en_isWord (7170414) (zup st 194 ((st 170 42) - 1 : Int).toNat 0) r22 → ((r22 = (0 : Int) → (170 = 170 ∧ (∀ (r23 : Int), en_isWord (7168376) (zup st 194 ((st 170 42) - 1 : Int).toNat 0) r23 → ((r23 = (0 : Int) → (170 = 170 ∧ (rq_rNext t n  (zup st 194 ((st 170 42) - 1 : Int).toNat 0) ∧ (∀ (s24 : zS), en_rNext t n  (zup st 194 ((st 170 42) - 1 : Int).toNat 0) s24 → (170 = 170 ∧ (rq_rLex  s24 ∧ ((170 = 170 ∧ (∀ (r26 : Int), en_isSign (40) s24 r26 → ((¬ r26 = (0 : Int) → ((¬ (44 : Int) = (44 : Int) → _) ∧ (¬ (¬ (44 : Int) = (44 : Int)) → (170 = 170 ∧ (rq_rOpens t n (6) s24 ∧ (∀ (s27 : zS), en_rOpens t n (6) s24 s27 → ((¬ s27 170 8 = (0 : Int) → _) ∧ (¬ (¬ s27 170 8 = (0 : Int)) → ((-2147483648 ≤ (s27 170 42) - 1 ∧ (s27 170 42) - 1 ≤ 2147483647) ∧ ((0 ≤ (s27 170 42) - 1 ∧ (s27 170 42) - 1 < 20) ∧ ((0 = (0 : Int) ∨ 0 = (1 : Int)) ∧ Q (some (.inl 0)) (zup s27 195 ((s27 170 42) - 1 : Int).toNat 44)))))))))))) ∧ (¬ (¬ r26 = (0 : Int)) → _))))))))))) ∧ (¬ (r23 = (0 : Int)) → _))))) ∧ (¬ (r22 = (0 : Int)) → _))))))))))))))))) ∧ (¬ (r18 = (0 : Int)) → _))))) ∧ (¬ ((0 : Int) = (0 : Int)) → _))) ∧ (¬ ((0 : Int) = (0 : Int)) → _))))) ∧ (¬ ((0 : Int) = (0 : Int)) → _))) ∧ (¬ (r17 = (0 : Int)) → ((0 ≤ (st 170 42) - 1 ∧ (st 170 42) - 1 < 20) ∧ ((st 194 ((st 170 42) - 1 : Int).toNat = (0 : Int) → (((0 : Int) = (0 : Int) → ((0 ≤ (st 170 42) - 1 ∧ (st 170 42) - 1 < 20) ∧ ((0 = (0 : Int) ∨ 0 = (1 : Int)) ∧ (((0 : Int) = (0 : Int) → (((0 : Int) = (0 : Int) → (170 = 170 ∧ (∀ (r28 : Int), en_isSign (40) (zup st 194 ((st 170 42) - 1 : Int).toNat 0) r28 → ((r28 = (0 : Int) → (170 = 170 ∧ (∀ (r29 : Int), en_isWord (7170414) (zup st 194 ((st 170 42) - 1 : Int).toNat 0) r29 → ((¬ r29 = (0 : Int) → _) ∧ (¬ (¬ r29 = (0 : Int)) → (170 = 170 ∧ (∀ (r30 : Int), en_isWord (7168376) (zup st 194 ((st 170 42) - 1 : Int).toNat 0) r30 → ((¬ r30 = (0 : Int) → _) ∧ (¬ (¬ r30 = (0 : Int)) → (170 = 170 ∧ (∀ (r31 : Int), en_isWord (26982) (zup st 194 ((st 170 42) - 1 : Int).toNat 0) r31 → ((r31 = (0 : Int) → _) ∧ (¬ (r31 = (0 : Int)) → (170 = 170 ∧ (∀ (r32 : Int), en_isWord (7170414) (zup st 194 ((st 170 42) - 1 : Int).toNat 0) r32 → ((r32 = (0 : Int) → (170 = 170 ∧ (∀ (r33 : Int), en_isWord (7168376) (zup st 194 ((st 170 42) - 1 : Int).toNat 0) r33 → ((r33 = (0 : Int) → (170 = 170 ∧ (rq_rNext t n  (zup st 194 ((st 170 42) - 1 : Int).toNat 0) ∧ (∀ (s34 : zS), en_rNext t n  (zup st 194 ((st 170 42) - 1 : Int).toNat 0) s34 → (170 = 170 ∧ (rq_rLex  s34 ∧ ((170 = 170 ∧ (∀ (r36 : Int), en_isSign (40) s34 r36 → ((¬ r36 = (0 : Int) → ((¬ (44 : Int) = (44 : Int) → _) ∧ (¬ (¬ (44 : Int) = (44 : Int)) → (170 = 170 ∧ (rq_rOpens t n (6) s34 ∧ (∀ (s37 : zS), en_rOpens t n (6) s34 s37 → ((¬ s37 170 8 = (0 : Int) → _) ∧ (¬ (¬ s37 170 8 = (0 : Int)) → ((-2147483648 ≤ (s37 170 42) - 1 ∧ (s37 170 42) - 1 ≤ 2147483647) ∧ ((0 ≤ (s37 170 42) - 1 ∧ (s37 170 42) - 1 < 20) ∧ ((0 = (0 : Int) ∨ 0 = (1 : Int)) ∧ Q (some (.inl 0)) (zup s37 195 ((s37 170 42) - 1 : Int).toNat 44)))))))))))) ∧ (¬ (¬ r36 = (0 : Int)) → _))))))))))) ∧ (¬ (r33 = (0 : Int)) → _))))) ∧ (¬ (r32 = (0 : Int)) → _))))))))))))))))) ∧ (¬ (r28 = (0 : Int)) → _))))) ∧ (¬ ((0 : Int) = (0 : Int)) → _))) ∧ (¬ ((0 : Int) = (0 : Int)) → _))))) ∧ (¬ ((0 : Int) = (0 : Int)) → _))) ∧ (¬ (st 194 ((st 170 42) - 1 : Int).toNat = (0 : Int)) → (((1 : Int) = (0 : Int) → _) ∧ (¬ ((1 : Int) = (0 : Int)) → (170 = 170 ∧ (∀ (r38 : Int), en_isWord (7237492) st r38 → ((r38 = (0 : Int) → ((0 ≤ (st 170 42) - 1 ∧ (st 170 42) - 1 < 20) ∧ ((0 = (0 : Int) ∨ 0 = (1 : Int)) ∧ (((1 : Int) = (0 : Int) → _) ∧ (¬ ((1 : Int) = (0 : Int)) → (170 = 170 ∧ (∀ (r39 : Int), en_isSign (91) (zup st 194 ((st 170 42) - 1 : Int).toNat 0) r39 → ((r39 = (0 : Int) → (((1 : Int) = (0 : Int) → _) ∧ (¬ ((1 : Int) = (0 : Int)) → (170 = 170 ∧ (∀ (r40 : Int), en_isWord (6384748) (zup st 194 ((st 170 42) - 1 : Int).toNat 0) r40 → ((r40 = (0 : Int) → (170 = 170 ∧ (∀ (r41 : Int), en_isSign (40) (zup st 194 ((st 170 42) - 1 : Int).toNat 0) r41 → ((r41 = (0 : Int) → (170 = 170 ∧ (∀ (r42 : Int), en_isWord (7170414) (zup st 194 ((st 170 42) - 1 : Int).toNat 0) r42 → ((¬ r42 = (0 : Int) → _) ∧ (¬ (¬ r42 = (0 : Int)) → (170 = 170 ∧ (∀ (r43 : Int), en_isWord (7168376) (zup st 194 ((st 170 42) - 1 : Int).toNat 0) r43 → ((¬ r43 = (0 : Int) → _) ∧ (¬ (¬ r43 = (0 : Int)) → (170 = 170 ∧ (∀ (r44 : Int), en_isWord (26982) (zup st 194 ((st 170 42) - 1 : Int).toNat 0) r44 → ((r44 = (0 : Int) → _) ∧ (¬ (r44 = (0 : Int)) → (170 = 170 ∧ (∀ (r45 : Int), en_isWord (7170414) (zup st 194 ((st 170 42) - 1 : Int).toNat 0) r45 → ((r45 = (0 : Int) → (170 = 170 ∧ (∀ (r46 : Int), en_isWord (7168376) (zup st 194 ((st 170 42) - 1 : Int).toNat 0) r46 → ((r46 = (0 : Int) → (170 = 170 ∧ (rq_rNext t n  (zup st 194 ((st 170 42) - 1 : Int).toNat 0) ∧ (∀ (s47 : zS), en_rNext t n  (zup st 194 ((st 170 42) - 1 : Int).toNat 0) s47 → (170 = 170 ∧ (rq_rLex  s47 ∧ ((170 = 170 ∧ (∀ (r49 : Int), en_isSign (40) s47 r49 → ((¬ r49 = (0 : Int) → ((¬ (44 : Int) = (44 : Int) → _) ∧ (¬ (¬ (44 : Int) = (44 : Int)) → (170 = 170 ∧ (rq_rOpens t n (6) s47 ∧ (∀ (s50 : zS), en_rOpens t n (6) s47 s50 → ((¬ s50 170 8 = (0 : Int) → _) ∧ (¬ (¬ s50 170 8 = (0 : Int)) → ((-2147483648 ≤ (s50 170 42) - 1 ∧ (s50 170 42) - 1 ≤ 2147483647) ∧ ((0 ≤ (s50 170 42) - 1 ∧ (s50 170 42) - 1 < 20) ∧ ((0 = (0 : Int) ∨ 0 = (1 : Int)) ∧ Q (some (.inl 0)) (zup s50 195 ((s50 170 42) - 1 : Int).toNat 44)))))))))))) ∧ (¬ (¬ r49 = (0 : Int)) → _))))))))))) ∧ (¬ (r46 = (0 : Int)) → _))))) ∧ (¬ (r45 = (0 : Int)) → _))))))))))))))))) ∧ (¬ (r41 = (0 : Int)) → _))))) ∧ (¬ (r40 = (0 : Int)) → _))))))) ∧ (¬ (r39 = (0 : Int)) → _))))))))) ∧ (¬ (r38 = (0 : Int)) → _))))))))))))))) ∧ (¬ (st 170 8 ≤ (0 : Int)) → _)))))
  refine ⟨rfl, ⟨hG, (show st 170 12 = -1 from by omega)⟩, ?_⟩
  refine ⟨fun h51 => ?_, fun h51 => (by exfalso; omega)⟩
  refine ⟨by omega, ?_⟩
  have g52 := g_frame hG ((st 170 42) - 1 : Int).toNat
  refine ⟨by omega, ?_⟩
  refine fun r17 q17 => ?_
  have b17 := q17
  change (r17 = 0 ∨ r17 = 1) ∧ (r17 = 1 ↔ (st 192 ((st 170 42) - 1 : Int).toNat) = 1 ∨ (st 192 ((st 170 42) - 1 : Int).toNat) = 5 ∨ (st 192 ((st 170 42) - 1 : Int).toNat) = 6) at b17
  refine ⟨fun h53 => ?_, fun h53 => ?_⟩
  · refine ⟨fun h54 => ?_, fun h54 => absurd (by decide) h54⟩
    refine ⟨by omega, ?_⟩
    refine ⟨by omega, ?_⟩
    refine ⟨fun h55 => ?_, fun h55 => absurd (by decide) h55⟩
    refine ⟨fun h56 => ?_, fun h56 => absurd (by decide) h56⟩
    refine ⟨rfl, fun r18 q18 => ?_⟩
    have b18 := q18
    change (r18 = 0 ∨ r18 = 1) ∧ (r18 = 1 ↔ st 170 3 = 3 ∧ st 170 6 = (40)) at b18
    refine ⟨fun h57 => ?_, fun h57 => (by exfalso; clear hQ; omega)⟩
    clear h57 b18
    refine ⟨rfl, fun r19 q19 => ?_⟩
    have b19 := q19
    change (r19 = 0 ∨ r19 = 1) ∧ (r19 = 1 ↔ st 170 3 = 1 ∧ st 170 7 = (7170414)) at b19
    refine ⟨fun h58 => (by exfalso; clear hQ; omega), fun h58 => ?_⟩
    clear h58 b19
    refine ⟨rfl, fun r20 q20 => ?_⟩
    have b20 := q20
    change (r20 = 0 ∨ r20 = 1) ∧ (r20 = 1 ↔ st 170 3 = 1 ∧ st 170 7 = (7168376)) at b20
    refine ⟨fun h59 => (by exfalso; clear hQ; omega), fun h59 => ?_⟩
    clear h59 b20
    refine ⟨rfl, fun r21 q21 => ?_⟩
    have b21 := q21
    change (r21 = 0 ∨ r21 = 1) ∧ (r21 = 1 ↔ st 170 3 = 1 ∧ st 170 7 = (26982)) at b21
    refine ⟨fun h60 => (by exfalso; clear hQ; omega), fun h60 => ?_⟩
    clear h60 b21
    refine ⟨rfl, fun r22 q22 => ?_⟩
    have b22 := q22
    change (r22 = 0 ∨ r22 = 1) ∧ (r22 = 1 ↔ st 170 3 = 1 ∧ st 170 7 = (7170414)) at b22
    refine ⟨fun h61 => ?_, fun h61 => (by exfalso; clear hQ; omega)⟩
    clear h61 b22
    refine ⟨rfl, fun r23 q23 => ?_⟩
    have b23 := q23
    change (r23 = 0 ∨ r23 = 1) ∧ (r23 = 1 ↔ st 170 3 = 1 ∧ st 170 7 = (7168376)) at b23
    refine ⟨fun h62 => ?_, fun h62 => (by exfalso; clear hQ; omega)⟩
    clear h62 b23
    refine ⟨rfl, ⟨(gInv_up hG (p_begins (by omega))), (show RDr (zup st 194 ((st 170 42) - 1 : Int).toNat 0) t n from (show RDr (zup st 194 ((st 170 42) - 1 : Int).toNat 0) t n from mrd)), (show st 170 12 = -1 from by omega)⟩, fun s24 q24 => ?_⟩
    obtain ⟨gs24, fs24, rd24, nx24⟩ := q24
    change RDr s24 t n at rd24
    change NXr (zup st 194 ((st 170 42) - 1 : Int).toNat 0) s24 t n at nx24
    have hp1 : s24 170 4 = e := NXr_e (st := (zup st 194 ((st 170 42) - 1 : Int).toNat 0)) (show NXr (zup st 194 ((st 170 42) - 1 : Int).toNat 0) s24 t n from nx24) (show tk t n ((zup st 194 ((st 170 42) - 1 : Int).toNat 0) 170 4) _ _ e from by rw [show (zup st 194 ((st 170 42) - 1 : Int).toNat 0) 170 4 = p from (show st 170 4 = p from by omega)]; exact ht.1) (by omega)
    have tf2 := r_sig rd24 (by rw [hp1]; exact ht.2.1)
    have g63 := g_sign gs24
    have g64 := g_value gs24
    have g65 := g_word gs24
    have g66 := g_lexAt gs24
    have e67 : s24 170 8 = st 170 8 := fs24 170 8 rfl rfl
    have g68 := g_signAt gs24
    have e69 : s24 170 43 = st 170 43 := fs24 170 43 rfl rfl
    have e70 : s24 170 42 = st 170 42 := fs24 170 42 rfl rfl
    have e71 : s24 170 45 = st 170 45 := fs24 170 45 rfl rfl
    have g72 := g_signEnd gs24
    refine ⟨rfl, ⟨gs24, (show s24 170 12 = -1 from by omega)⟩, ?_⟩
    refine ⟨rfl, fun r26 q26 => ?_⟩
    have b26 := q26
    change (r26 = 0 ∨ r26 = 1) ∧ (r26 = 1 ↔ s24 170 3 = 3 ∧ s24 170 6 = (40)) at b26
    refine ⟨fun h73 => ?_, fun h73 => (by exfalso; clear hQ; omega)⟩
    clear h73 b26
    refine ⟨fun h74 => absurd h74 (by decide), fun h74 => ?_⟩
    refine ⟨rfl, ⟨gs24, (show RDr s24 t n from rd24), (show s24 170 12 = -1 ∧ s24 170 8 = 0 ∧ 0 ≤ s24 170 43 ∧ s24 170 43 < 7 ∧ 0 ≤ s24 170 42 ∧ s24 170 42 ≤ 18 ∧ 0 ≤ s24 170 45 ∧ s24 170 45 ≤ 499 ∧ 0 ≤ (6) ∧ (6) ≤ 6 from by omega)⟩, fun s27 q27 => ?_⟩
    obtain ⟨gs27, fs27, rd27, nx27, d27, u19227, u19327, u19427, u19627⟩ := q27
    change RDr s27 t n at rd27
    change NXr s24 s27 t n at nx27
    change s27 170 42 = s24 170 42 + 1 ∧ s27 170 43 = s24 170 43 + 1 at d27
    have g75 := g_deep gs27
    have g76 := g_open gs27
    change (s27 192) = up1 (s24 192) (s24 170 42).toNat (6) at u19227
    change (s27 193) = up1 (s24 193) (s24 170 42).toNat 0 at u19327
    change (s27 194) = up1 (s24 194) (s24 170 42).toNat 1 at u19427
    change (s27 196) = up1 (s24 196) (s24 170 42).toNat (s24 170 45) at u19627
    have e77 : s27 170 8 = s24 170 8 := fs27 170 8 rfl rfl
    refine ⟨fun h78 => (by exfalso; omega), fun h78 => ?_⟩
    refine ⟨by omega, ?_⟩
    refine ⟨by omega, ?_⟩
    refine ⟨by omega, ?_⟩
    have e80 : s24 170 46 = st 170 46 := fs24 170 46 rfl rfl
    have e79 : s27 170 46 = s24 170 46 := fs27 170 46 rfl rfl
    have e82 : s24 170 34 = st 170 34 := fs24 170 34 rfl rfl
    have e81 : s27 170 34 = s24 170 34 := fs27 170 34 rfl rfl
    have e83 : s27 170 45 = s24 170 45 := fs27 170 45 rfl rfl
    exact hQ _ _ ⟨(gInv_up gs27 (p_pair (by omega))), (fr_a (fr_tr (fr_tr (fr_a (fr_rf _ _) rfl) fs24 rfl) fs27 rfl) rfl), (Z9_up (Z9_tr (Z9_tr (Z9_up (Z9_rf _) (by decide)) ((show aFr m_rOp544 st (zup st 194 ((st 170 42) - 1 : Int).toNat 0) from (fr_a (fr_rf _ _) rfl)) 170 35 rfl rfl) (Z9_fr fs24 (fun _ => rfl) rfl)) ((show aFr m_rOp544 st s24 from (fr_tr (fr_a (fr_rf _ _) rfl) fs24 rfl)) 170 35 rfl rfl) (Z9_fr fs27 (fun _ => rfl) rfl)) (by decide)), (show (0 : Int) = 0 ∧ mcP t n (zup s27 195 ((s27 170 42) - 1 : Int).toNat 44) ((6, 0, 1, 44, []) :: (k, ph, 0, pr, w) :: fs) 0 (o + 1) (c) (e1) from (by
            have hp2 : s27 170 4 = e1 := NXr_e (st := s24) nx27 (show tk t n (s24 170 4) _ _ e1 from by rw [hp1]; exact ht.2.1) (by omega)
            have hl := tk_lt ht.1 (show 0 ≤ p from by rw [← mpp]; exact mrd.2.1.1) (by omega)
            have hl2 := tk_lt ht.2.1 (by omega) (by omega)
            refine ⟨rfl, (show s27 170 8 = 0 from by omega), (show s27 170 46 = 0 from by omega), (show s27 170 43 = o + 1 from by omega), hp2, (show RDr _ t n from rd27), ⟨?_, WB_c (by rw [List.length_nil]; omega) (fun x hx => by cases hx) (WB_c ml (WB_el mwb) (WB_tl mwb)), ?_⟩, (show s27 170 34 + s27 170 45 + s27 170 42 ≤ e1 from by omega), by omega, by omega, by rw [List.length_cons, List.length_cons]; omega⟩
            · have q := FR_pr 44 mb.2.1 (FR_push (fs := (k, ph, 0, pr, w) :: fs) 6 mb.2.1 (show 0 ≤ st 170 42 from by omega) (FR_bg 0 mb.2.1 mfr))
              show FR (s27 192) (s27 193) (s27 194) (up1 (s27 195) (s27 170 42 - 1).toNat 44) (s27 196) (s27 197) _ (s27 170 42) (s27 170 45)
              rw [u19227, u19327, u19427, u19627, d27.1, show s27 195 = s24 195 from funext (fun i => fs27 195 i rfl rfl), show s27 197 = s24 197 from funext (fun i => fs27 197 i rfl rfl), show s27 170 45 = s24 170 45 from fs27 170 45 rfl rfl]
              rw [show s24 192 = st 192 from funext (fun i => fs24 192 i rfl rfl), show s24 193 = st 193 from funext (fun i => fs24 193 i rfl rfl), show s24 194 = up1 (st 194) (st 170 42 - 1).toNat 0 from funext (fun i => fs24 194 i rfl rfl), show s24 195 = st 195 from funext (fun i => fs24 195 i rfl rfl), show s24 196 = st 196 from funext (fun i => fs24 196 i rfl rfl), show s24 197 = st 197 from funext (fun i => fs24 197 i rfl rfl), show s24 170 42 = st 170 42 from fs24 170 42 rfl rfl, show s24 170 45 = st 170 45 from fs24 170 45 rfl rfl]
              exact q
            · show CDr (s27 170 35) (s27 170 34) (s27 188) (s27 189) c
              rw [show s27 170 35 = s24 170 35 from fs27 170 35 rfl rfl, show s27 170 34 = s24 170 34 from fs27 170 34 rfl rfl, show s27 188 = s24 188 from funext (fun i => fs27 188 i rfl rfl), show s27 189 = s24 189 from funext (fun i => fs27 189 i rfl rfl)]
              rw [show s24 170 35 = st 170 35 from fs24 170 35 rfl rfl, show s24 170 34 = st 170 34 from fs24 170 34 rfl rfl, show s24 188 = st 188 from funext (fun i => fs24 188 i rfl rfl), show s24 189 = st 189 from funext (fun i => fs24 189 i rfl rfl)]
              exact mcd))⟩
  · have g84 := g_begins hG ((st 170 42) - 1 : Int).toNat
    refine ⟨by omega, ?_⟩
    refine ⟨fun h85 => ?_, fun h85 => ?_⟩
    · refine ⟨fun h86 => ?_, fun h86 => absurd (by decide) h86⟩
      refine ⟨by omega, ?_⟩
      refine ⟨by omega, ?_⟩
      refine ⟨fun h87 => ?_, fun h87 => absurd (by decide) h87⟩
      refine ⟨fun h88 => ?_, fun h88 => absurd (by decide) h88⟩
      refine ⟨rfl, fun r28 q28 => ?_⟩
      have b28 := q28
      change (r28 = 0 ∨ r28 = 1) ∧ (r28 = 1 ↔ st 170 3 = 3 ∧ st 170 6 = (40)) at b28
      refine ⟨fun h89 => ?_, fun h89 => (by exfalso; clear hQ; omega)⟩
      clear h89 b28
      refine ⟨rfl, fun r29 q29 => ?_⟩
      have b29 := q29
      change (r29 = 0 ∨ r29 = 1) ∧ (r29 = 1 ↔ st 170 3 = 1 ∧ st 170 7 = (7170414)) at b29
      refine ⟨fun h90 => (by exfalso; clear hQ; omega), fun h90 => ?_⟩
      clear h90 b29
      refine ⟨rfl, fun r30 q30 => ?_⟩
      have b30 := q30
      change (r30 = 0 ∨ r30 = 1) ∧ (r30 = 1 ↔ st 170 3 = 1 ∧ st 170 7 = (7168376)) at b30
      refine ⟨fun h91 => (by exfalso; clear hQ; omega), fun h91 => ?_⟩
      clear h91 b30
      refine ⟨rfl, fun r31 q31 => ?_⟩
      have b31 := q31
      change (r31 = 0 ∨ r31 = 1) ∧ (r31 = 1 ↔ st 170 3 = 1 ∧ st 170 7 = (26982)) at b31
      refine ⟨fun h92 => (by exfalso; clear hQ; omega), fun h92 => ?_⟩
      clear h92 b31
      refine ⟨rfl, fun r32 q32 => ?_⟩
      have b32 := q32
      change (r32 = 0 ∨ r32 = 1) ∧ (r32 = 1 ↔ st 170 3 = 1 ∧ st 170 7 = (7170414)) at b32
      refine ⟨fun h93 => ?_, fun h93 => (by exfalso; clear hQ; omega)⟩
      clear h93 b32
      refine ⟨rfl, fun r33 q33 => ?_⟩
      have b33 := q33
      change (r33 = 0 ∨ r33 = 1) ∧ (r33 = 1 ↔ st 170 3 = 1 ∧ st 170 7 = (7168376)) at b33
      refine ⟨fun h94 => ?_, fun h94 => (by exfalso; clear hQ; omega)⟩
      clear h94 b33
      refine ⟨rfl, ⟨(gInv_up hG (p_begins (by omega))), (show RDr (zup st 194 ((st 170 42) - 1 : Int).toNat 0) t n from (show RDr (zup st 194 ((st 170 42) - 1 : Int).toNat 0) t n from mrd)), (show st 170 12 = -1 from by omega)⟩, fun s34 q34 => ?_⟩
      obtain ⟨gs34, fs34, rd34, nx34⟩ := q34
      change RDr s34 t n at rd34
      change NXr (zup st 194 ((st 170 42) - 1 : Int).toNat 0) s34 t n at nx34
      have hp1 : s34 170 4 = e := NXr_e (st := (zup st 194 ((st 170 42) - 1 : Int).toNat 0)) (show NXr (zup st 194 ((st 170 42) - 1 : Int).toNat 0) s34 t n from nx34) (show tk t n ((zup st 194 ((st 170 42) - 1 : Int).toNat 0) 170 4) _ _ e from by rw [show (zup st 194 ((st 170 42) - 1 : Int).toNat 0) 170 4 = p from (show st 170 4 = p from by omega)]; exact ht.1) (by omega)
      have tf2 := r_sig rd34 (by rw [hp1]; exact ht.2.1)
      have g95 := g_sign gs34
      have g96 := g_value gs34
      have g97 := g_word gs34
      have g98 := g_lexAt gs34
      have e99 : s34 170 8 = st 170 8 := fs34 170 8 rfl rfl
      have g100 := g_signAt gs34
      have e101 : s34 170 43 = st 170 43 := fs34 170 43 rfl rfl
      have e102 : s34 170 42 = st 170 42 := fs34 170 42 rfl rfl
      have e103 : s34 170 45 = st 170 45 := fs34 170 45 rfl rfl
      have g104 := g_signEnd gs34
      refine ⟨rfl, ⟨gs34, (show s34 170 12 = -1 from by omega)⟩, ?_⟩
      refine ⟨rfl, fun r36 q36 => ?_⟩
      have b36 := q36
      change (r36 = 0 ∨ r36 = 1) ∧ (r36 = 1 ↔ s34 170 3 = 3 ∧ s34 170 6 = (40)) at b36
      refine ⟨fun h105 => ?_, fun h105 => (by exfalso; clear hQ; omega)⟩
      clear h105 b36
      refine ⟨fun h106 => absurd h106 (by decide), fun h106 => ?_⟩
      refine ⟨rfl, ⟨gs34, (show RDr s34 t n from rd34), (show s34 170 12 = -1 ∧ s34 170 8 = 0 ∧ 0 ≤ s34 170 43 ∧ s34 170 43 < 7 ∧ 0 ≤ s34 170 42 ∧ s34 170 42 ≤ 18 ∧ 0 ≤ s34 170 45 ∧ s34 170 45 ≤ 499 ∧ 0 ≤ (6) ∧ (6) ≤ 6 from by omega)⟩, fun s37 q37 => ?_⟩
      obtain ⟨gs37, fs37, rd37, nx37, d37, u19237, u19337, u19437, u19637⟩ := q37
      change RDr s37 t n at rd37
      change NXr s34 s37 t n at nx37
      change s37 170 42 = s34 170 42 + 1 ∧ s37 170 43 = s34 170 43 + 1 at d37
      have g107 := g_deep gs37
      have g108 := g_open gs37
      change (s37 192) = up1 (s34 192) (s34 170 42).toNat (6) at u19237
      change (s37 193) = up1 (s34 193) (s34 170 42).toNat 0 at u19337
      change (s37 194) = up1 (s34 194) (s34 170 42).toNat 1 at u19437
      change (s37 196) = up1 (s34 196) (s34 170 42).toNat (s34 170 45) at u19637
      have e109 : s37 170 8 = s34 170 8 := fs37 170 8 rfl rfl
      refine ⟨fun h110 => (by exfalso; omega), fun h110 => ?_⟩
      refine ⟨by omega, ?_⟩
      refine ⟨by omega, ?_⟩
      refine ⟨by omega, ?_⟩
      have e112 : s34 170 46 = st 170 46 := fs34 170 46 rfl rfl
      have e111 : s37 170 46 = s34 170 46 := fs37 170 46 rfl rfl
      have e114 : s34 170 34 = st 170 34 := fs34 170 34 rfl rfl
      have e113 : s37 170 34 = s34 170 34 := fs37 170 34 rfl rfl
      have e115 : s37 170 45 = s34 170 45 := fs37 170 45 rfl rfl
      exact hQ _ _ ⟨(gInv_up gs37 (p_pair (by omega))), (fr_a (fr_tr (fr_tr (fr_a (fr_rf _ _) rfl) fs34 rfl) fs37 rfl) rfl), (Z9_up (Z9_tr (Z9_tr (Z9_up (Z9_rf _) (by decide)) ((show aFr m_rOp544 st (zup st 194 ((st 170 42) - 1 : Int).toNat 0) from (fr_a (fr_rf _ _) rfl)) 170 35 rfl rfl) (Z9_fr fs34 (fun _ => rfl) rfl)) ((show aFr m_rOp544 st s34 from (fr_tr (fr_a (fr_rf _ _) rfl) fs34 rfl)) 170 35 rfl rfl) (Z9_fr fs37 (fun _ => rfl) rfl)) (by decide)), (show (0 : Int) = 0 ∧ mcP t n (zup s37 195 ((s37 170 42) - 1 : Int).toNat 44) ((6, 0, 1, 44, []) :: (k, ph, 0, pr, w) :: fs) 0 (o + 1) (c) (e1) from (by
            have hp2 : s37 170 4 = e1 := NXr_e (st := s34) nx37 (show tk t n (s34 170 4) _ _ e1 from by rw [hp1]; exact ht.2.1) (by omega)
            have hl := tk_lt ht.1 (show 0 ≤ p from by rw [← mpp]; exact mrd.2.1.1) (by omega)
            have hl2 := tk_lt ht.2.1 (by omega) (by omega)
            refine ⟨rfl, (show s37 170 8 = 0 from by omega), (show s37 170 46 = 0 from by omega), (show s37 170 43 = o + 1 from by omega), hp2, (show RDr _ t n from rd37), ⟨?_, WB_c (by rw [List.length_nil]; omega) (fun x hx => by cases hx) (WB_c ml (WB_el mwb) (WB_tl mwb)), ?_⟩, (show s37 170 34 + s37 170 45 + s37 170 42 ≤ e1 from by omega), by omega, by omega, by rw [List.length_cons, List.length_cons]; omega⟩
            · have q := FR_pr 44 mb.2.1 (FR_push (fs := (k, ph, 0, pr, w) :: fs) 6 mb.2.1 (show 0 ≤ st 170 42 from by omega) (FR_bg 0 mb.2.1 mfr))
              show FR (s37 192) (s37 193) (s37 194) (up1 (s37 195) (s37 170 42 - 1).toNat 44) (s37 196) (s37 197) _ (s37 170 42) (s37 170 45)
              rw [u19237, u19337, u19437, u19637, d37.1, show s37 195 = s34 195 from funext (fun i => fs37 195 i rfl rfl), show s37 197 = s34 197 from funext (fun i => fs37 197 i rfl rfl), show s37 170 45 = s34 170 45 from fs37 170 45 rfl rfl]
              rw [show s34 192 = st 192 from funext (fun i => fs34 192 i rfl rfl), show s34 193 = st 193 from funext (fun i => fs34 193 i rfl rfl), show s34 194 = up1 (st 194) (st 170 42 - 1).toNat 0 from funext (fun i => fs34 194 i rfl rfl), show s34 195 = st 195 from funext (fun i => fs34 195 i rfl rfl), show s34 196 = st 196 from funext (fun i => fs34 196 i rfl rfl), show s34 197 = st 197 from funext (fun i => fs34 197 i rfl rfl), show s34 170 42 = st 170 42 from fs34 170 42 rfl rfl, show s34 170 45 = st 170 45 from fs34 170 45 rfl rfl]
              exact q
            · show CDr (s37 170 35) (s37 170 34) (s37 188) (s37 189) c
              rw [show s37 170 35 = s34 170 35 from fs37 170 35 rfl rfl, show s37 170 34 = s34 170 34 from fs37 170 34 rfl rfl, show s37 188 = s34 188 from funext (fun i => fs37 188 i rfl rfl), show s37 189 = s34 189 from funext (fun i => fs37 189 i rfl rfl)]
              rw [show s34 170 35 = st 170 35 from fs34 170 35 rfl rfl, show s34 170 34 = st 170 34 from fs34 170 34 rfl rfl, show s34 188 = st 188 from funext (fun i => fs34 188 i rfl rfl), show s34 189 = st 189 from funext (fun i => fs34 189 i rfl rfl)]
              exact mcd))⟩
    · refine ⟨fun h116 => absurd h116 (by decide), fun h116 => ?_⟩
      refine ⟨rfl, fun r38 q38 => ?_⟩
      have b38 := q38
      change (r38 = 0 ∨ r38 = 1) ∧ (r38 = 1 ↔ st 170 3 = 1 ∧ st 170 7 = (7237492)) at b38
      refine ⟨fun h117 => ?_, fun h117 => (by exfalso; clear hQ; omega)⟩
      clear h117 b38
      refine ⟨by omega, ?_⟩
      refine ⟨by omega, ?_⟩
      refine ⟨fun h118 => absurd h118 (by decide), fun h118 => ?_⟩
      refine ⟨rfl, fun r39 q39 => ?_⟩
      have b39 := q39
      change (r39 = 0 ∨ r39 = 1) ∧ (r39 = 1 ↔ st 170 3 = 3 ∧ st 170 6 = (91)) at b39
      refine ⟨fun h119 => ?_, fun h119 => (by exfalso; clear hQ; omega)⟩
      clear h119 b39
      refine ⟨fun h120 => absurd h120 (by decide), fun h120 => ?_⟩
      refine ⟨rfl, fun r40 q40 => ?_⟩
      have b40 := q40
      change (r40 = 0 ∨ r40 = 1) ∧ (r40 = 1 ↔ st 170 3 = 1 ∧ st 170 7 = (6384748)) at b40
      refine ⟨fun h121 => ?_, fun h121 => (by exfalso; clear hQ; omega)⟩
      clear h121 b40
      refine ⟨rfl, fun r41 q41 => ?_⟩
      have b41 := q41
      change (r41 = 0 ∨ r41 = 1) ∧ (r41 = 1 ↔ st 170 3 = 3 ∧ st 170 6 = (40)) at b41
      refine ⟨fun h122 => ?_, fun h122 => (by exfalso; clear hQ; omega)⟩
      clear h122 b41
      refine ⟨rfl, fun r42 q42 => ?_⟩
      have b42 := q42
      change (r42 = 0 ∨ r42 = 1) ∧ (r42 = 1 ↔ st 170 3 = 1 ∧ st 170 7 = (7170414)) at b42
      refine ⟨fun h123 => (by exfalso; clear hQ; omega), fun h123 => ?_⟩
      clear h123 b42
      refine ⟨rfl, fun r43 q43 => ?_⟩
      have b43 := q43
      change (r43 = 0 ∨ r43 = 1) ∧ (r43 = 1 ↔ st 170 3 = 1 ∧ st 170 7 = (7168376)) at b43
      refine ⟨fun h124 => (by exfalso; clear hQ; omega), fun h124 => ?_⟩
      clear h124 b43
      refine ⟨rfl, fun r44 q44 => ?_⟩
      have b44 := q44
      change (r44 = 0 ∨ r44 = 1) ∧ (r44 = 1 ↔ st 170 3 = 1 ∧ st 170 7 = (26982)) at b44
      refine ⟨fun h125 => (by exfalso; clear hQ; omega), fun h125 => ?_⟩
      clear h125 b44
      refine ⟨rfl, fun r45 q45 => ?_⟩
      have b45 := q45
      change (r45 = 0 ∨ r45 = 1) ∧ (r45 = 1 ↔ st 170 3 = 1 ∧ st 170 7 = (7170414)) at b45
      refine ⟨fun h126 => ?_, fun h126 => (by exfalso; clear hQ; omega)⟩
      clear h126 b45
      refine ⟨rfl, fun r46 q46 => ?_⟩
      have b46 := q46
      change (r46 = 0 ∨ r46 = 1) ∧ (r46 = 1 ↔ st 170 3 = 1 ∧ st 170 7 = (7168376)) at b46
      refine ⟨fun h127 => ?_, fun h127 => (by exfalso; clear hQ; omega)⟩
      clear h127 b46
      refine ⟨rfl, ⟨(gInv_up hG (p_begins (by omega))), (show RDr (zup st 194 ((st 170 42) - 1 : Int).toNat 0) t n from (show RDr (zup st 194 ((st 170 42) - 1 : Int).toNat 0) t n from mrd)), (show st 170 12 = -1 from by omega)⟩, fun s47 q47 => ?_⟩
      obtain ⟨gs47, fs47, rd47, nx47⟩ := q47
      change RDr s47 t n at rd47
      change NXr (zup st 194 ((st 170 42) - 1 : Int).toNat 0) s47 t n at nx47
      have hp1 : s47 170 4 = e := NXr_e (st := (zup st 194 ((st 170 42) - 1 : Int).toNat 0)) (show NXr (zup st 194 ((st 170 42) - 1 : Int).toNat 0) s47 t n from nx47) (show tk t n ((zup st 194 ((st 170 42) - 1 : Int).toNat 0) 170 4) _ _ e from by rw [show (zup st 194 ((st 170 42) - 1 : Int).toNat 0) 170 4 = p from (show st 170 4 = p from by omega)]; exact ht.1) (by omega)
      have tf2 := r_sig rd47 (by rw [hp1]; exact ht.2.1)
      have g128 := g_sign gs47
      have g129 := g_value gs47
      have g130 := g_word gs47
      have g131 := g_lexAt gs47
      have e132 : s47 170 8 = st 170 8 := fs47 170 8 rfl rfl
      have g133 := g_signAt gs47
      have e134 : s47 170 43 = st 170 43 := fs47 170 43 rfl rfl
      have e135 : s47 170 42 = st 170 42 := fs47 170 42 rfl rfl
      have e136 : s47 170 45 = st 170 45 := fs47 170 45 rfl rfl
      have g137 := g_signEnd gs47
      refine ⟨rfl, ⟨gs47, (show s47 170 12 = -1 from by omega)⟩, ?_⟩
      refine ⟨rfl, fun r49 q49 => ?_⟩
      have b49 := q49
      change (r49 = 0 ∨ r49 = 1) ∧ (r49 = 1 ↔ s47 170 3 = 3 ∧ s47 170 6 = (40)) at b49
      refine ⟨fun h138 => ?_, fun h138 => (by exfalso; clear hQ; omega)⟩
      clear h138 b49
      refine ⟨fun h139 => absurd h139 (by decide), fun h139 => ?_⟩
      refine ⟨rfl, ⟨gs47, (show RDr s47 t n from rd47), (show s47 170 12 = -1 ∧ s47 170 8 = 0 ∧ 0 ≤ s47 170 43 ∧ s47 170 43 < 7 ∧ 0 ≤ s47 170 42 ∧ s47 170 42 ≤ 18 ∧ 0 ≤ s47 170 45 ∧ s47 170 45 ≤ 499 ∧ 0 ≤ (6) ∧ (6) ≤ 6 from by omega)⟩, fun s50 q50 => ?_⟩
      obtain ⟨gs50, fs50, rd50, nx50, d50, u19250, u19350, u19450, u19650⟩ := q50
      change RDr s50 t n at rd50
      change NXr s47 s50 t n at nx50
      change s50 170 42 = s47 170 42 + 1 ∧ s50 170 43 = s47 170 43 + 1 at d50
      have g140 := g_deep gs50
      have g141 := g_open gs50
      change (s50 192) = up1 (s47 192) (s47 170 42).toNat (6) at u19250
      change (s50 193) = up1 (s47 193) (s47 170 42).toNat 0 at u19350
      change (s50 194) = up1 (s47 194) (s47 170 42).toNat 1 at u19450
      change (s50 196) = up1 (s47 196) (s47 170 42).toNat (s47 170 45) at u19650
      have e142 : s50 170 8 = s47 170 8 := fs50 170 8 rfl rfl
      refine ⟨fun h143 => (by exfalso; omega), fun h143 => ?_⟩
      refine ⟨by omega, ?_⟩
      refine ⟨by omega, ?_⟩
      refine ⟨by omega, ?_⟩
      have e145 : s47 170 46 = st 170 46 := fs47 170 46 rfl rfl
      have e144 : s50 170 46 = s47 170 46 := fs50 170 46 rfl rfl
      have e147 : s47 170 34 = st 170 34 := fs47 170 34 rfl rfl
      have e146 : s50 170 34 = s47 170 34 := fs50 170 34 rfl rfl
      have e148 : s50 170 45 = s47 170 45 := fs50 170 45 rfl rfl
      exact hQ _ _ ⟨(gInv_up gs50 (p_pair (by omega))), (fr_a (fr_tr (fr_tr (fr_a (fr_rf _ _) rfl) fs47 rfl) fs50 rfl) rfl), (Z9_up (Z9_tr (Z9_tr (Z9_up (Z9_rf _) (by decide)) ((show aFr m_rOp544 st (zup st 194 ((st 170 42) - 1 : Int).toNat 0) from (fr_a (fr_rf _ _) rfl)) 170 35 rfl rfl) (Z9_fr fs47 (fun _ => rfl) rfl)) ((show aFr m_rOp544 st s47 from (fr_tr (fr_a (fr_rf _ _) rfl) fs47 rfl)) 170 35 rfl rfl) (Z9_fr fs50 (fun _ => rfl) rfl)) (by decide)), (show (0 : Int) = 0 ∧ mcP t n (zup s50 195 ((s50 170 42) - 1 : Int).toNat 44) ((6, 0, 1, 44, []) :: (k, ph, 0, pr, w) :: fs) 0 (o + 1) (c) (e1) from (by
            have hp2 : s50 170 4 = e1 := NXr_e (st := s47) nx50 (show tk t n (s47 170 4) _ _ e1 from by rw [hp1]; exact ht.2.1) (by omega)
            have hl := tk_lt ht.1 (show 0 ≤ p from by rw [← mpp]; exact mrd.2.1.1) (by omega)
            have hl2 := tk_lt ht.2.1 (by omega) (by omega)
            refine ⟨rfl, (show s50 170 8 = 0 from by omega), (show s50 170 46 = 0 from by omega), (show s50 170 43 = o + 1 from by omega), hp2, (show RDr _ t n from rd50), ⟨?_, WB_c (by rw [List.length_nil]; omega) (fun x hx => by cases hx) (WB_c ml (WB_el mwb) (WB_tl mwb)), ?_⟩, (show s50 170 34 + s50 170 45 + s50 170 42 ≤ e1 from by omega), by omega, by omega, by rw [List.length_cons, List.length_cons]; omega⟩
            · have q := FR_pr 44 mb.2.1 (FR_push (fs := (k, ph, 0, pr, w) :: fs) 6 mb.2.1 (show 0 ≤ st 170 42 from by omega) (FR_bg 0 mb.2.1 mfr))
              show FR (s50 192) (s50 193) (s50 194) (up1 (s50 195) (s50 170 42 - 1).toNat 44) (s50 196) (s50 197) _ (s50 170 42) (s50 170 45)
              rw [u19250, u19350, u19450, u19650, d50.1, show s50 195 = s47 195 from funext (fun i => fs50 195 i rfl rfl), show s50 197 = s47 197 from funext (fun i => fs50 197 i rfl rfl), show s50 170 45 = s47 170 45 from fs50 170 45 rfl rfl]
              rw [show s47 192 = st 192 from funext (fun i => fs47 192 i rfl rfl), show s47 193 = st 193 from funext (fun i => fs47 193 i rfl rfl), show s47 194 = up1 (st 194) (st 170 42 - 1).toNat 0 from funext (fun i => fs47 194 i rfl rfl), show s47 195 = st 195 from funext (fun i => fs47 195 i rfl rfl), show s47 196 = st 196 from funext (fun i => fs47 196 i rfl rfl), show s47 197 = st 197 from funext (fun i => fs47 197 i rfl rfl), show s47 170 42 = st 170 42 from fs47 170 42 rfl rfl, show s47 170 45 = st 170 45 from fs47 170 45 rfl rfl]
              exact q
            · show CDr (s50 170 35) (s50 170 34) (s50 188) (s50 189) c
              rw [show s50 170 35 = s47 170 35 from fs50 170 35 rfl rfl, show s50 170 34 = s47 170 34 from fs50 170 34 rfl rfl, show s50 188 = s47 188 from funext (fun i => fs50 188 i rfl rfl), show s50 189 = s47 189 from funext (fun i => fs50 189 i rfl rfl)]
              rw [show s47 170 35 = st 170 35 from fs47 170 35 rfl rfl, show s47 170 34 = st 170 34 from fs47 170 34 rfl rfl, show s47 188 = st 188 from funext (fun i => fs47 188 i rfl rfl), show s47 189 = st 189 from funext (fun i => fs47 189 i rfl rfl)]
              exact mcd))⟩
theorem k_rOp544_m (hTb : aTb zSh rx_tb cl) {t : Int → Int} {n k ph bg pr o p e : Int} {w c : List Int} {fs : List mFr} {e1 : Int} {D : Nat} (hD : 4 ≤ D) : ∀ as st (Q Q' : zQ), (∀ r st', Q r st' → Q' r st') → (k_rOp544 t n k ph bg pr o p e w c fs e1) 196 as st Q → cl D 196 as st Q' := by
  intro as st Q Q' hQ h
  unfold k_rOp544 at h
  split at h
  · obtain ⟨rfl, h⟩ := h
    exact c_rOp544 hTb hD (ct_rOp544_m hQ h)
  · exact h.elim
set_option maxHeartbeats 4000000 in
set_option maxRecDepth 100000 in
theorem c_rOpF1 (hTb : aTb zSh rx_tb cl) {t : Int → Int} {n k ph bg pr o p e : Int} {w c : List Int} {fs : List mFr} {D : Nat} (hD : 3 ≤ D) {st : zS} {Q : zQ} (h : ct_rOpF1 t n k ph bg pr o p e w c fs st Q) : cl D 196 [.inr (.inr (.inl 170))] st Q := by
  obtain ⟨d, rfl⟩ : ∃ d, D = d + 1 := ⟨D - 1, by omega⟩
  refine hTb d 196 (rx_m196, 4, 0, 0, 2) rfl _ _ _ (Nat.le_of_ble_eq_true rfl) (fun K hcl hsf hsl => ?_)
  have hcm : zmo (wcL [(181, k_rLex), (195, k_isTest), (183, k_isWord), (182, k_isSign), (178, k_blame), (194, k_rOpensF), (189, k_add), (149, k_rNext t n), (192, k_holdsBack)]) (cl d) := (wcL_m (wm_cons (k_rLex_m hTb (by omega)) (wm_cons (k_isTest_m hTb (by omega)) (wm_cons (k_isWord_m hTb (by omega)) (wm_cons (k_isSign_m hTb (by omega)) (wm_cons (k_blame_m hTb (by omega)) (wm_cons (k_rOpensF_m hTb (by omega)) (wm_cons (k_add_m hTb (by omega)) (wm_cons (k_rNext_m hTb (by omega)) (wm_cons (k_holdsBack_m hTb (by omega)) wm_nil))))))))))
  obtain ⟨hR, hQ⟩ := h
  obtain ⟨hG, mp, ht⟩ := hR
  change mcP t n st ((k, ph, bg, pr, w) :: fs) 0 (o) (c) (p) at mp
  change isT k ∧ bg = 1 ∧ tk t n p 1 7237492 e ∧ 7 ≤ o at ht
  obtain ⟨mf, mo, mn, mpp, mrd, mq, mbd, mz1, mz2, mz3⟩ := mp
  rw [List.length_cons] at mz3
  have mq0 := mq
  obtain ⟨mfr, mwb, mcd⟩ := mq
  have mt := FR_top mfr
  have mb := FR_bnd _ _ _ mwb mfr
  rw [List.length_cons] at mb
  have ml := WB_hd mwb
  have mcl := mcd.1
  have mlw := FR_len mb.2.1 mfr
  have tf := r_wrd mrd (by rw [mpp]; exact ht.2.2.1)
  have tkT : k = 1 ∨ k = 5 ∨ k = 6 := ht.1
  have g1 := g_codes hG
  have g2 := g_in hG
  have g3 := g_isClever hG
  have g4 := g_deep hG
  have g5 := g_open hG
  have g6 := g_opMany hG
  have g7 := g_signAt hG
  have g8 := g_signEnd hG
  have g9 := g_faultKind hG
  have g10 := g_size hG
  have g11 := g_sign hG
  have g12 := g_lexAt hG
  have g13 := g_value hG
  have g14 := g_word hG
  have g15 := g_operand hG
  refine yr1_ok (Rt := Q) (wc := (wcL [(181, k_rLex), (195, k_isTest), (183, k_isWord), (182, k_isSign), (178, k_blame), (194, k_rOpensF), (189, k_add), (149, k_rNext t n), (192, k_holdsBack)])) (stp := []) hcm hcl [] 400 ?_
  show (170 = 170 ∧ (rq_rLex  st ∧ (((st 170 8 ≤ (0 : Int) → ((-2147483648 ≤ (st 170 42) - 1 ∧ (st 170 42) - 1 ≤ 2147483647) ∧ ((0 ≤ (st 170 42) - 1 ∧ (st 170 42) - 1 < 20) ∧ (∀ (r17 : Int), en_isTest (st 192 ((st 170 42) - 1 : Int).toNat) st r17 → ((r17 = (0 : Int) → _) ∧ (¬ (r17 = (0 : Int)) → ((0 ≤ (st 170 42) - 1 ∧ (st 170 42) - 1 < 20) ∧ ((st 194 ((st 170 42) - 1 : Int).toNat = (0 : Int) → _) ∧ (¬ (st 194 ((st 170 42) - 1 : Int).toNat = (0 : Int)) → (((1 : Int) = (0 : Int) → _) ∧ (¬ ((1 : Int) = (0 : Int)) → (170 = 170 ∧ (∀ (r18 : Int), en_isWord (7237492) st r18 → ((r18 = (0 : Int) → _) ∧ (¬ (r18 = (0 : Int)) → ((¬ st 170 43 = (7 : Int) → _) ∧ (¬ (¬ st 170 43 = (7 : Int)) → (170 = 170 ∧ (rq_blame (5) (st 170 4) st ∧ (∀ (s19 : zS), en_blame (5) (st 170 4) st s19 → ((s19 170 8 ≤ (0 : Int) → _) ∧ (¬ (s19 170 8 ≤ (0 : Int)) → ((1 = (0 : Int) ∨ 1 = (1 : Int)) ∧ Q (some (.inl 1)) s19))))))))))))))))))))))) ∧ (¬ (st 170 8 ≤ (0 : Int)) → _)))))
  refine ⟨rfl, ⟨hG, (show st 170 12 = -1 from by omega)⟩, ?_⟩
  refine ⟨fun h20 => ?_, fun h20 => (by exfalso; omega)⟩
  refine ⟨by omega, ?_⟩
  have g21 := g_frame hG ((st 170 42) - 1 : Int).toNat
  refine ⟨by omega, ?_⟩
  refine fun r17 q17 => ?_
  have b17 := q17
  change (r17 = 0 ∨ r17 = 1) ∧ (r17 = 1 ↔ (st 192 ((st 170 42) - 1 : Int).toNat) = 1 ∨ (st 192 ((st 170 42) - 1 : Int).toNat) = 5 ∨ (st 192 ((st 170 42) - 1 : Int).toNat) = 6) at b17
  refine ⟨fun h22 => (by exfalso; clear hQ; omega), fun h22 => ?_⟩
  clear h22 b17
  have g23 := g_begins hG ((st 170 42) - 1 : Int).toNat
  refine ⟨by omega, ?_⟩
  refine ⟨fun h24 => (by exfalso; omega), fun h24 => ?_⟩
  refine ⟨fun h25 => absurd h25 (by decide), fun h25 => ?_⟩
  refine ⟨rfl, fun r18 q18 => ?_⟩
  have b18 := q18
  change (r18 = 0 ∨ r18 = 1) ∧ (r18 = 1 ↔ st 170 3 = 1 ∧ st 170 7 = (7237492)) at b18
  refine ⟨fun h26 => (by exfalso; clear hQ; omega), fun h26 => ?_⟩
  clear h26 b18
  refine ⟨fun h27 => (by exfalso; omega), fun h27 => ?_⟩
  refine ⟨rfl, ⟨hG, (show 1 ≤ (5) ∧ (5) ≤ 6 from by omega), (show -2147483648 ≤ (st 170 4) ∧ (st 170 4) ≤ 2147483647 from by omega)⟩, fun s19 q19 => ?_⟩
  obtain ⟨gs19, fs19, p19⟩ := q19
  change (st 170 8 = 0 → s19 170 8 = (5)) ∧ (0 < st 170 8 → s19 170 8 = st 170 8) at p19
  have g28 := g_faultKind gs19
  refine ⟨fun h29 => (by exfalso; omega), fun h29 => ?_⟩
  refine ⟨by omega, ?_⟩
  exact hQ _ _ ⟨gs19, (fr_tr (fr_rf _ _) fs19 rfl), (Z9_fr fs19 (fun _ => rfl) rfl), (show 0 < s19 170 8 ∧ ((1 : Int) = 0 ∨ (1 : Int) = 1) from by omega)⟩
theorem k_rOpF1_m (hTb : aTb zSh rx_tb cl) {t : Int → Int} {n k ph bg pr o p e : Int} {w c : List Int} {fs : List mFr} {D : Nat} (hD : 3 ≤ D) : ∀ as st (Q Q' : zQ), (∀ r st', Q r st' → Q' r st') → (k_rOpF1 t n k ph bg pr o p e w c fs) 196 as st Q → cl D 196 as st Q' := by
  intro as st Q Q' hQ h
  unfold k_rOpF1 at h
  split at h
  · obtain ⟨rfl, h⟩ := h
    exact c_rOpF1 hTb hD (ct_rOpF1_m hQ h)
  · exact h.elim
set_option maxHeartbeats 4000000 in
set_option maxRecDepth 100000 in
theorem c_rOpF2 (hTb : aTb zSh rx_tb cl) {t : Int → Int} {n k ph bg pr o p e : Int} {w c : List Int} {fs : List mFr} {D : Nat} (hD : 3 ≤ D) {st : zS} {Q : zQ} (h : ct_rOpF2 t n k ph bg pr o p e w c fs st Q) : cl D 196 [.inr (.inr (.inl 170))] st Q := by
  obtain ⟨d, rfl⟩ : ∃ d, D = d + 1 := ⟨D - 1, by omega⟩
  refine hTb d 196 (rx_m196, 4, 0, 0, 2) rfl _ _ _ (Nat.le_of_ble_eq_true rfl) (fun K hcl hsf hsl => ?_)
  have hcm : zmo (wcL [(181, k_rLex), (195, k_isTest), (183, k_isWord), (182, k_isSign), (178, k_blame), (194, k_rOpensF), (189, k_add), (149, k_rNext t n), (192, k_holdsBack)]) (cl d) := (wcL_m (wm_cons (k_rLex_m hTb (by omega)) (wm_cons (k_isTest_m hTb (by omega)) (wm_cons (k_isWord_m hTb (by omega)) (wm_cons (k_isSign_m hTb (by omega)) (wm_cons (k_blame_m hTb (by omega)) (wm_cons (k_rOpensF_m hTb (by omega)) (wm_cons (k_add_m hTb (by omega)) (wm_cons (k_rNext_m hTb (by omega)) (wm_cons (k_holdsBack_m hTb (by omega)) wm_nil))))))))))
  obtain ⟨hR, hQ⟩ := h
  obtain ⟨hG, mp, ht⟩ := hR
  change mcP t n st ((k, ph, bg, pr, w) :: fs) 0 (o) (c) (p) at mp
  change isT k ∧ bg = 1 ∧ tk t n p 3 91 e ∧ 7 ≤ o at ht
  obtain ⟨mf, mo, mn, mpp, mrd, mq, mbd, mz1, mz2, mz3⟩ := mp
  rw [List.length_cons] at mz3
  have mq0 := mq
  obtain ⟨mfr, mwb, mcd⟩ := mq
  have mt := FR_top mfr
  have mb := FR_bnd _ _ _ mwb mfr
  rw [List.length_cons] at mb
  have ml := WB_hd mwb
  have mcl := mcd.1
  have mlw := FR_len mb.2.1 mfr
  have tf := r_sig mrd (by rw [mpp]; exact ht.2.2.1)
  have tkT : k = 1 ∨ k = 5 ∨ k = 6 := ht.1
  have g1 := g_codes hG
  have g2 := g_in hG
  have g3 := g_isClever hG
  have g4 := g_deep hG
  have g5 := g_open hG
  have g6 := g_opMany hG
  have g7 := g_signAt hG
  have g8 := g_signEnd hG
  have g9 := g_faultKind hG
  have g10 := g_size hG
  have g11 := g_sign hG
  have g12 := g_lexAt hG
  have g13 := g_value hG
  have g14 := g_word hG
  have g15 := g_operand hG
  refine yr1_ok (Rt := Q) (wc := (wcL [(181, k_rLex), (195, k_isTest), (183, k_isWord), (182, k_isSign), (178, k_blame), (194, k_rOpensF), (189, k_add), (149, k_rNext t n), (192, k_holdsBack)])) (stp := []) hcm hcl [] 400 ?_
  show (170 = 170 ∧ (rq_rLex  st ∧ (((st 170 8 ≤ (0 : Int) → ((-2147483648 ≤ (st 170 42) - 1 ∧ (st 170 42) - 1 ≤ 2147483647) ∧ ((0 ≤ (st 170 42) - 1 ∧ (st 170 42) - 1 < 20) ∧ (∀ (r17 : Int), en_isTest (st 192 ((st 170 42) - 1 : Int).toNat) st r17 → ((r17 = (0 : Int) → _) ∧ (¬ (r17 = (0 : Int)) → ((0 ≤ (st 170 42) - 1 ∧ (st 170 42) - 1 < 20) ∧ ((st 194 ((st 170 42) - 1 : Int).toNat = (0 : Int) → _) ∧ (¬ (st 194 ((st 170 42) - 1 : Int).toNat = (0 : Int)) → (((1 : Int) = (0 : Int) → _) ∧ (¬ ((1 : Int) = (0 : Int)) → (170 = 170 ∧ (∀ (r18 : Int), en_isWord (7237492) st r18 → ((r18 = (0 : Int) → ((0 ≤ (st 170 42) - 1 ∧ (st 170 42) - 1 < 20) ∧ ((0 = (0 : Int) ∨ 0 = (1 : Int)) ∧ (((1 : Int) = (0 : Int) → _) ∧ (¬ ((1 : Int) = (0 : Int)) → (170 = 170 ∧ (∀ (r19 : Int), en_isSign (91) (zup st 194 ((st 170 42) - 1 : Int).toNat 0) r19 → ((r19 = (0 : Int) → _) ∧ (¬ (r19 = (0 : Int)) → (170 = 170 ∧ (rq_rOpensF (5) (zup st 194 ((st 170 42) - 1 : Int).toNat 0) ∧ (∀ (s20 : zS), en_rOpensF (5) (zup st 194 ((st 170 42) - 1 : Int).toNat 0) s20 → ((0 = (0 : Int) ∨ 0 = (1 : Int)) ∧ Q (some (.inl 0)) s20))))))))))))) ∧ (¬ (r18 = (0 : Int)) → _))))))))))))))) ∧ (¬ (st 170 8 ≤ (0 : Int)) → _)))))
  refine ⟨rfl, ⟨hG, (show st 170 12 = -1 from by omega)⟩, ?_⟩
  refine ⟨fun h21 => ?_, fun h21 => (by exfalso; omega)⟩
  refine ⟨by omega, ?_⟩
  have g22 := g_frame hG ((st 170 42) - 1 : Int).toNat
  refine ⟨by omega, ?_⟩
  refine fun r17 q17 => ?_
  have b17 := q17
  change (r17 = 0 ∨ r17 = 1) ∧ (r17 = 1 ↔ (st 192 ((st 170 42) - 1 : Int).toNat) = 1 ∨ (st 192 ((st 170 42) - 1 : Int).toNat) = 5 ∨ (st 192 ((st 170 42) - 1 : Int).toNat) = 6) at b17
  refine ⟨fun h23 => (by exfalso; clear hQ; omega), fun h23 => ?_⟩
  clear h23 b17
  have g24 := g_begins hG ((st 170 42) - 1 : Int).toNat
  refine ⟨by omega, ?_⟩
  refine ⟨fun h25 => (by exfalso; omega), fun h25 => ?_⟩
  refine ⟨fun h26 => absurd h26 (by decide), fun h26 => ?_⟩
  refine ⟨rfl, fun r18 q18 => ?_⟩
  have b18 := q18
  change (r18 = 0 ∨ r18 = 1) ∧ (r18 = 1 ↔ st 170 3 = 1 ∧ st 170 7 = (7237492)) at b18
  refine ⟨fun h27 => ?_, fun h27 => (by exfalso; clear hQ; omega)⟩
  clear h27 b18
  refine ⟨by omega, ?_⟩
  refine ⟨by omega, ?_⟩
  refine ⟨fun h28 => absurd h28 (by decide), fun h28 => ?_⟩
  refine ⟨rfl, fun r19 q19 => ?_⟩
  have b19 := q19
  change (r19 = 0 ∨ r19 = 1) ∧ (r19 = 1 ↔ st 170 3 = 3 ∧ st 170 6 = (91)) at b19
  refine ⟨fun h29 => (by exfalso; clear hQ; omega), fun h29 => ?_⟩
  clear h29 b19
  refine ⟨rfl, ⟨(gInv_up hG (p_begins (by omega))), (show st 170 43 = 7 ∨ 0 < st 170 8 from by omega)⟩, fun s20 q20 => ?_⟩
  obtain ⟨gs20, fs20, x20⟩ := q20
  change 0 < s20 170 8 at x20
  have g30 := g_faultKind gs20
  refine ⟨by omega, ?_⟩
  exact hQ _ _ ⟨gs20, (fr_tr (fr_a (fr_rf _ _) rfl) fs20 rfl), (Z9_tr (Z9_up (Z9_rf _) (by decide)) ((show aFr m_rOpF2 st (zup st 194 ((st 170 42) - 1 : Int).toNat 0) from (fr_a (fr_rf _ _) rfl)) 170 35 rfl rfl) (Z9_fr fs20 (fun _ => rfl) rfl)), (show 0 < s20 170 8 ∧ ((0 : Int) = 0 ∨ (0 : Int) = 1) from by omega)⟩
theorem k_rOpF2_m (hTb : aTb zSh rx_tb cl) {t : Int → Int} {n k ph bg pr o p e : Int} {w c : List Int} {fs : List mFr} {D : Nat} (hD : 3 ≤ D) : ∀ as st (Q Q' : zQ), (∀ r st', Q r st' → Q' r st') → (k_rOpF2 t n k ph bg pr o p e w c fs) 196 as st Q → cl D 196 as st Q' := by
  intro as st Q Q' hQ h
  unfold k_rOpF2 at h
  split at h
  · obtain ⟨rfl, h⟩ := h
    exact c_rOpF2 hTb hD (ct_rOpF2_m hQ h)
  · exact h.elim
set_option maxHeartbeats 4000000 in
set_option maxRecDepth 100000 in
theorem c_rOpF4 (hTb : aTb zSh rx_tb cl) {t : Int → Int} {n k ph bg pr o p e : Int} {w c : List Int} {fs : List mFr} {D : Nat} (hD : 3 ≤ D) {st : zS} {Q : zQ} (h : ct_rOpF4 t n k ph bg pr o p e w c fs st Q) : cl D 196 [.inr (.inr (.inl 170))] st Q := by
  obtain ⟨d, rfl⟩ : ∃ d, D = d + 1 := ⟨D - 1, by omega⟩
  refine hTb d 196 (rx_m196, 4, 0, 0, 2) rfl _ _ _ (Nat.le_of_ble_eq_true rfl) (fun K hcl hsf hsl => ?_)
  have hcm : zmo (wcL [(181, k_rLex), (195, k_isTest), (183, k_isWord), (182, k_isSign), (178, k_blame), (194, k_rOpensF), (189, k_add), (149, k_rNext t n), (192, k_holdsBack)]) (cl d) := (wcL_m (wm_cons (k_rLex_m hTb (by omega)) (wm_cons (k_isTest_m hTb (by omega)) (wm_cons (k_isWord_m hTb (by omega)) (wm_cons (k_isSign_m hTb (by omega)) (wm_cons (k_blame_m hTb (by omega)) (wm_cons (k_rOpensF_m hTb (by omega)) (wm_cons (k_add_m hTb (by omega)) (wm_cons (k_rNext_m hTb (by omega)) (wm_cons (k_holdsBack_m hTb (by omega)) wm_nil))))))))))
  obtain ⟨hR, hQ⟩ := h
  obtain ⟨hG, mp, ht⟩ := hR
  change mcP t n st ((k, ph, bg, pr, w) :: fs) 0 (o) (c) (p) at mp
  change tk t n p 3 40 e ∧ 7 ≤ o at ht
  obtain ⟨mf, mo, mn, mpp, mrd, mq, mbd, mz1, mz2, mz3⟩ := mp
  rw [List.length_cons] at mz3
  have mq0 := mq
  obtain ⟨mfr, mwb, mcd⟩ := mq
  have mt := FR_top mfr
  have mb := FR_bnd _ _ _ mwb mfr
  rw [List.length_cons] at mb
  have ml := WB_hd mwb
  have mcl := mcd.1
  have mlw := FR_len mb.2.1 mfr
  have tf := r_sig mrd (by rw [mpp]; exact ht.1)
  have g1 := g_codes hG
  have g2 := g_in hG
  have g3 := g_isClever hG
  have g4 := g_deep hG
  have g5 := g_open hG
  have g6 := g_opMany hG
  have g7 := g_signAt hG
  have g8 := g_signEnd hG
  have g9 := g_faultKind hG
  have g10 := g_size hG
  have g11 := g_sign hG
  have g12 := g_lexAt hG
  have g13 := g_value hG
  have g14 := g_word hG
  have g15 := g_operand hG
  refine yr1_ok (Rt := Q) (wc := (wcL [(181, k_rLex), (195, k_isTest), (183, k_isWord), (182, k_isSign), (178, k_blame), (194, k_rOpensF), (189, k_add), (149, k_rNext t n), (192, k_holdsBack)])) (stp := []) hcm hcl [] 400 ?_
  show (170 = 170 ∧ (rq_rLex  st ∧ (((st 170 8 ≤ (0 : Int) → ((-2147483648 ≤ (st 170 42) - 1 ∧ (st 170 42) - 1 ≤ 2147483647) ∧ ((0 ≤ (st 170 42) - 1 ∧ (st 170 42) - 1 < 20) ∧ (∀ (r17 : Int), en_isTest (st 192 ((st 170 42) - 1 : Int).toNat) st r17 → ((r17 = (0 : Int) → (((0 : Int) = (0 : Int) → ((0 ≤ (st 170 42) - 1 ∧ (st 170 42) - 1 < 20) ∧ ((0 = (0 : Int) ∨ 0 = (1 : Int)) ∧ (((0 : Int) = (0 : Int) → (((0 : Int) = (0 : Int) → (170 = 170 ∧ (∀ (r18 : Int), en_isSign (40) (zup st 194 ((st 170 42) - 1 : Int).toNat 0) r18 → ((r18 = (0 : Int) → _) ∧ (¬ (r18 = (0 : Int)) → (170 = 170 ∧ (rq_rOpensF (2) (zup st 194 ((st 170 42) - 1 : Int).toNat 0) ∧ (∀ (s19 : zS), en_rOpensF (2) (zup st 194 ((st 170 42) - 1 : Int).toNat 0) s19 → ((0 = (0 : Int) ∨ 0 = (1 : Int)) ∧ Q (some (.inl 0)) s19))))))))) ∧ (¬ ((0 : Int) = (0 : Int)) → _))) ∧ (¬ ((0 : Int) = (0 : Int)) → _))))) ∧ (¬ ((0 : Int) = (0 : Int)) → _))) ∧ (¬ (r17 = (0 : Int)) → ((0 ≤ (st 170 42) - 1 ∧ (st 170 42) - 1 < 20) ∧ ((st 194 ((st 170 42) - 1 : Int).toNat = (0 : Int) → (((0 : Int) = (0 : Int) → ((0 ≤ (st 170 42) - 1 ∧ (st 170 42) - 1 < 20) ∧ ((0 = (0 : Int) ∨ 0 = (1 : Int)) ∧ (((0 : Int) = (0 : Int) → (((0 : Int) = (0 : Int) → (170 = 170 ∧ (∀ (r20 : Int), en_isSign (40) (zup st 194 ((st 170 42) - 1 : Int).toNat 0) r20 → ((r20 = (0 : Int) → _) ∧ (¬ (r20 = (0 : Int)) → (170 = 170 ∧ (rq_rOpensF (2) (zup st 194 ((st 170 42) - 1 : Int).toNat 0) ∧ (∀ (s21 : zS), en_rOpensF (2) (zup st 194 ((st 170 42) - 1 : Int).toNat 0) s21 → ((0 = (0 : Int) ∨ 0 = (1 : Int)) ∧ Q (some (.inl 0)) s21))))))))) ∧ (¬ ((0 : Int) = (0 : Int)) → _))) ∧ (¬ ((0 : Int) = (0 : Int)) → _))))) ∧ (¬ ((0 : Int) = (0 : Int)) → _))) ∧ (¬ (st 194 ((st 170 42) - 1 : Int).toNat = (0 : Int)) → (((1 : Int) = (0 : Int) → _) ∧ (¬ ((1 : Int) = (0 : Int)) → (170 = 170 ∧ (∀ (r22 : Int), en_isWord (7237492) st r22 → ((r22 = (0 : Int) → ((0 ≤ (st 170 42) - 1 ∧ (st 170 42) - 1 < 20) ∧ ((0 = (0 : Int) ∨ 0 = (1 : Int)) ∧ (((1 : Int) = (0 : Int) → _) ∧ (¬ ((1 : Int) = (0 : Int)) → (170 = 170 ∧ (∀ (r23 : Int), en_isSign (91) (zup st 194 ((st 170 42) - 1 : Int).toNat 0) r23 → ((r23 = (0 : Int) → (((1 : Int) = (0 : Int) → _) ∧ (¬ ((1 : Int) = (0 : Int)) → (170 = 170 ∧ (∀ (r24 : Int), en_isWord (6384748) (zup st 194 ((st 170 42) - 1 : Int).toNat 0) r24 → ((r24 = (0 : Int) → (170 = 170 ∧ (∀ (r25 : Int), en_isSign (40) (zup st 194 ((st 170 42) - 1 : Int).toNat 0) r25 → ((r25 = (0 : Int) → _) ∧ (¬ (r25 = (0 : Int)) → (170 = 170 ∧ (rq_rOpensF (2) (zup st 194 ((st 170 42) - 1 : Int).toNat 0) ∧ (∀ (s26 : zS), en_rOpensF (2) (zup st 194 ((st 170 42) - 1 : Int).toNat 0) s26 → ((0 = (0 : Int) ∨ 0 = (1 : Int)) ∧ Q (some (.inl 0)) s26))))))))) ∧ (¬ (r24 = (0 : Int)) → _))))))) ∧ (¬ (r23 = (0 : Int)) → _))))))))) ∧ (¬ (r22 = (0 : Int)) → _))))))))))))))) ∧ (¬ (st 170 8 ≤ (0 : Int)) → _)))))
  refine ⟨rfl, ⟨hG, (show st 170 12 = -1 from by omega)⟩, ?_⟩
  refine ⟨fun h27 => ?_, fun h27 => (by exfalso; omega)⟩
  refine ⟨by omega, ?_⟩
  have g28 := g_frame hG ((st 170 42) - 1 : Int).toNat
  refine ⟨by omega, ?_⟩
  refine fun r17 q17 => ?_
  have b17 := q17
  change (r17 = 0 ∨ r17 = 1) ∧ (r17 = 1 ↔ (st 192 ((st 170 42) - 1 : Int).toNat) = 1 ∨ (st 192 ((st 170 42) - 1 : Int).toNat) = 5 ∨ (st 192 ((st 170 42) - 1 : Int).toNat) = 6) at b17
  refine ⟨fun h29 => ?_, fun h29 => ?_⟩
  · refine ⟨fun h30 => ?_, fun h30 => absurd (by decide) h30⟩
    refine ⟨by omega, ?_⟩
    refine ⟨by omega, ?_⟩
    refine ⟨fun h31 => ?_, fun h31 => absurd (by decide) h31⟩
    refine ⟨fun h32 => ?_, fun h32 => absurd (by decide) h32⟩
    refine ⟨rfl, fun r18 q18 => ?_⟩
    have b18 := q18
    change (r18 = 0 ∨ r18 = 1) ∧ (r18 = 1 ↔ st 170 3 = 3 ∧ st 170 6 = (40)) at b18
    refine ⟨fun h33 => (by exfalso; clear hQ; omega), fun h33 => ?_⟩
    clear h33 b18
    refine ⟨rfl, ⟨(gInv_up hG (p_begins (by omega))), (show st 170 43 = 7 ∨ 0 < st 170 8 from by omega)⟩, fun s19 q19 => ?_⟩
    obtain ⟨gs19, fs19, x19⟩ := q19
    change 0 < s19 170 8 at x19
    have g34 := g_faultKind gs19
    refine ⟨by omega, ?_⟩
    exact hQ _ _ ⟨gs19, (fr_tr (fr_a (fr_rf _ _) rfl) fs19 rfl), (Z9_tr (Z9_up (Z9_rf _) (by decide)) ((show aFr m_rOpF4 st (zup st 194 ((st 170 42) - 1 : Int).toNat 0) from (fr_a (fr_rf _ _) rfl)) 170 35 rfl rfl) (Z9_fr fs19 (fun _ => rfl) rfl)), (show 0 < s19 170 8 ∧ ((0 : Int) = 0 ∨ (0 : Int) = 1) from by omega)⟩
  · have g35 := g_begins hG ((st 170 42) - 1 : Int).toNat
    refine ⟨by omega, ?_⟩
    refine ⟨fun h36 => ?_, fun h36 => ?_⟩
    · refine ⟨fun h37 => ?_, fun h37 => absurd (by decide) h37⟩
      refine ⟨by omega, ?_⟩
      refine ⟨by omega, ?_⟩
      refine ⟨fun h38 => ?_, fun h38 => absurd (by decide) h38⟩
      refine ⟨fun h39 => ?_, fun h39 => absurd (by decide) h39⟩
      refine ⟨rfl, fun r20 q20 => ?_⟩
      have b20 := q20
      change (r20 = 0 ∨ r20 = 1) ∧ (r20 = 1 ↔ st 170 3 = 3 ∧ st 170 6 = (40)) at b20
      refine ⟨fun h40 => (by exfalso; clear hQ; omega), fun h40 => ?_⟩
      clear h40 b20
      refine ⟨rfl, ⟨(gInv_up hG (p_begins (by omega))), (show st 170 43 = 7 ∨ 0 < st 170 8 from by omega)⟩, fun s21 q21 => ?_⟩
      obtain ⟨gs21, fs21, x21⟩ := q21
      change 0 < s21 170 8 at x21
      have g41 := g_faultKind gs21
      refine ⟨by omega, ?_⟩
      exact hQ _ _ ⟨gs21, (fr_tr (fr_a (fr_rf _ _) rfl) fs21 rfl), (Z9_tr (Z9_up (Z9_rf _) (by decide)) ((show aFr m_rOpF4 st (zup st 194 ((st 170 42) - 1 : Int).toNat 0) from (fr_a (fr_rf _ _) rfl)) 170 35 rfl rfl) (Z9_fr fs21 (fun _ => rfl) rfl)), (show 0 < s21 170 8 ∧ ((0 : Int) = 0 ∨ (0 : Int) = 1) from by omega)⟩
    · refine ⟨fun h42 => absurd h42 (by decide), fun h42 => ?_⟩
      refine ⟨rfl, fun r22 q22 => ?_⟩
      have b22 := q22
      change (r22 = 0 ∨ r22 = 1) ∧ (r22 = 1 ↔ st 170 3 = 1 ∧ st 170 7 = (7237492)) at b22
      refine ⟨fun h43 => ?_, fun h43 => (by exfalso; clear hQ; omega)⟩
      clear h43 b22
      refine ⟨by omega, ?_⟩
      refine ⟨by omega, ?_⟩
      refine ⟨fun h44 => absurd h44 (by decide), fun h44 => ?_⟩
      refine ⟨rfl, fun r23 q23 => ?_⟩
      have b23 := q23
      change (r23 = 0 ∨ r23 = 1) ∧ (r23 = 1 ↔ st 170 3 = 3 ∧ st 170 6 = (91)) at b23
      refine ⟨fun h45 => ?_, fun h45 => (by exfalso; clear hQ; omega)⟩
      clear h45 b23
      refine ⟨fun h46 => absurd h46 (by decide), fun h46 => ?_⟩
      refine ⟨rfl, fun r24 q24 => ?_⟩
      have b24 := q24
      change (r24 = 0 ∨ r24 = 1) ∧ (r24 = 1 ↔ st 170 3 = 1 ∧ st 170 7 = (6384748)) at b24
      refine ⟨fun h47 => ?_, fun h47 => (by exfalso; clear hQ; omega)⟩
      clear h47 b24
      refine ⟨rfl, fun r25 q25 => ?_⟩
      have b25 := q25
      change (r25 = 0 ∨ r25 = 1) ∧ (r25 = 1 ↔ st 170 3 = 3 ∧ st 170 6 = (40)) at b25
      refine ⟨fun h48 => (by exfalso; clear hQ; omega), fun h48 => ?_⟩
      clear h48 b25
      refine ⟨rfl, ⟨(gInv_up hG (p_begins (by omega))), (show st 170 43 = 7 ∨ 0 < st 170 8 from by omega)⟩, fun s26 q26 => ?_⟩
      obtain ⟨gs26, fs26, x26⟩ := q26
      change 0 < s26 170 8 at x26
      have g49 := g_faultKind gs26
      refine ⟨by omega, ?_⟩
      exact hQ _ _ ⟨gs26, (fr_tr (fr_a (fr_rf _ _) rfl) fs26 rfl), (Z9_tr (Z9_up (Z9_rf _) (by decide)) ((show aFr m_rOpF4 st (zup st 194 ((st 170 42) - 1 : Int).toNat 0) from (fr_a (fr_rf _ _) rfl)) 170 35 rfl rfl) (Z9_fr fs26 (fun _ => rfl) rfl)), (show 0 < s26 170 8 ∧ ((0 : Int) = 0 ∨ (0 : Int) = 1) from by omega)⟩
theorem k_rOpF4_m (hTb : aTb zSh rx_tb cl) {t : Int → Int} {n k ph bg pr o p e : Int} {w c : List Int} {fs : List mFr} {D : Nat} (hD : 3 ≤ D) : ∀ as st (Q Q' : zQ), (∀ r st', Q r st' → Q' r st') → (k_rOpF4 t n k ph bg pr o p e w c fs) 196 as st Q → cl D 196 as st Q' := by
  intro as st Q Q' hQ h
  unfold k_rOpF4 at h
  split at h
  · obtain ⟨rfl, h⟩ := h
    exact c_rOpF4 hTb hD (ct_rOpF4_m hQ h)
  · exact h.elim
set_option maxHeartbeats 4000000 in
set_option maxRecDepth 100000 in
theorem c_rOpF536 (hTb : aTb zSh rx_tb cl) {t : Int → Int} {n k ph bg pr o p e : Int} {w c : List Int} {fs : List mFr} {kk v2 e1 : Int} {D : Nat} (hD : 3 ≤ D) {st : zS} {Q : zQ} (h : ct_rOpF536 t n k ph bg pr o p e w c fs kk v2 e1 st Q) : cl D 196 [.inr (.inr (.inl 170))] st Q := by
  obtain ⟨d, rfl⟩ : ∃ d, D = d + 1 := ⟨D - 1, by omega⟩
  refine hTb d 196 (rx_m196, 4, 0, 0, 2) rfl _ _ _ (Nat.le_of_ble_eq_true rfl) (fun K hcl hsf hsl => ?_)
  have hcm : zmo (wcL [(195, k_isTest), (183, k_isWord), (182, k_isSign), (178, k_blame), (194, k_rOpensF), (149, k_rNext t n), (181, k_rLexA)]) (cl d) := (wcL_m (wm_cons (k_isTest_m hTb (by omega)) (wm_cons (k_isWord_m hTb (by omega)) (wm_cons (k_isSign_m hTb (by omega)) (wm_cons (k_blame_m hTb (by omega)) (wm_cons (k_rOpensF_m hTb (by omega)) (wm_cons (k_rNext_m hTb (by omega)) (wm_cons (k_rLexA_m hTb (by omega)) wm_nil))))))))
  obtain ⟨hR, hQ⟩ := h
  obtain ⟨hG, mp, ht⟩ := hR
  change mcP t n st ((k, ph, bg, pr, w) :: fs) 0 (o) (c) (p) at mp
  change tk t n p 1 7170414 e ∧ tk t n e kk v2 e1 ∧ (¬ (kk = 3 ∧ v2 = 40) ∨ 7 ≤ o) at ht
  obtain ⟨mf, mo, mn, mpp, mrd, mq, mbd, mz1, mz2, mz3⟩ := mp
  rw [List.length_cons] at mz3
  have mq0 := mq
  obtain ⟨mfr, mwb, mcd⟩ := mq
  have mt := FR_top mfr
  have mb := FR_bnd _ _ _ mwb mfr
  rw [List.length_cons] at mb
  have ml := WB_hd mwb
  have mcl := mcd.1
  have mlw := FR_len mb.2.1 mfr
  have tf := r_wrd mrd (by rw [mpp]; exact ht.1)
  have g1 := g_codes hG
  have g2 := g_in hG
  have g3 := g_isClever hG
  have g4 := g_deep hG
  have g5 := g_open hG
  have g6 := g_opMany hG
  have g7 := g_signAt hG
  have g8 := g_signEnd hG
  have g9 := g_faultKind hG
  have g10 := g_size hG
  have g11 := g_sign hG
  have g12 := g_lexAt hG
  have g13 := g_value hG
  have g14 := g_word hG
  have g15 := g_operand hG
  refine yr1_ok (Rt := Q) (wc := (wcL [(195, k_isTest), (183, k_isWord), (182, k_isSign), (178, k_blame), (194, k_rOpensF), (149, k_rNext t n), (181, k_rLexA)])) (stp := []) hcm hcl [] 400 ?_
  show (170 = 170 ∧ (rq_rLexA  st ∧ (∀ (s16 : zS), en_rLexA  st s16 → ((s16 170 8 ≤ (0 : Int) → ((-2147483648 ≤ (s16 170 42) - 1 ∧ (s16 170 42) - 1 ≤ 2147483647) ∧ ((0 ≤ (s16 170 42) - 1 ∧ (s16 170 42) - 1 < 20) ∧ (∀ (r17 : Int), en_isTest (s16 192 ((s16 170 42) - 1 : Int).toNat) s16 r17 → ((r17 = (0 : Int) → (((0 : Int) = (0 : Int) → ((0 ≤ (s16 170 42) - 1 ∧ (s16 170 42) - 1 < 20) ∧ ((0 = (0 : Int) ∨ 0 = (1 : Int)) ∧ (((0 : Int) = (0 : Int) → (((0 : Int) = (0 : Int) → (170 = 170 ∧ (∀ (r18 : Int), en_isSign (40) (zup s16 194 ((s16 170 42) - 1 : Int).toNat 0) r18 → ((r18 = (0 : Int) → (170 = 170 ∧ (∀ (r19 : Int), en_isWord (7170414) (zup s16 194 ((s16 170 42) - 1 : Int).toNat 0) r19 → ((¬ r19 = (0 : Int) → (170 = 170 ∧ (∀ (r20 : Int), en_isWord (7170414) (zup s16 194 ((s16 170 42) - 1 : Int).toNat 0) r20 → ((r20 = (0 : Int) → _) ∧ (¬ (r20 = (0 : Int)) → (170 = 170 ∧ (rq_rNext t n  (zup s16 194 ((s16 170 42) - 1 : Int).toNat 0) ∧ (∀ (s21 : zS), en_rNext t n  (zup s16 194 ((s16 170 42) - 1 : Int).toNat 0) s21 → (170 = 170 ∧ (rq_rLexA  s21 ∧ (∀ (s22 : zS), en_rLexA  s21 s22 → (170 = 170 ∧ (∀ (r23 : Int), en_isSign (40) s22 r23 → ((¬ r23 = (0 : Int) → ((¬ (36 : Int) = (44 : Int) → (170 = 170 ∧ (rq_rOpensF (3) s22 ∧ (∀ (s24 : zS), en_rOpensF (3) s22 s24 → ((¬ s24 170 8 = (0 : Int) → ((0 = (0 : Int) ∨ 0 = (1 : Int)) ∧ Q (some (.inl 0)) s24)) ∧ (¬ (¬ s24 170 8 = (0 : Int)) → _)))))) ∧ (¬ (¬ (36 : Int) = (44 : Int)) → _))) ∧ (¬ (¬ r23 = (0 : Int)) → (170 = 170 ∧ (rq_blame (1) (s22 170 4) s22 ∧ (∀ (s25 : zS), en_blame (1) (s22 170 4) s22 s25 → ((¬ (36 : Int) = (44 : Int) → (170 = 170 ∧ (rq_rOpensF (3) s25 ∧ (∀ (s26 : zS), en_rOpensF (3) s25 s26 → ((¬ s26 170 8 = (0 : Int) → ((0 = (0 : Int) ∨ 0 = (1 : Int)) ∧ Q (some (.inl 0)) s26)) ∧ (¬ (¬ s26 170 8 = (0 : Int)) → _)))))) ∧ (¬ (¬ (36 : Int) = (44 : Int)) → _)))))))))))))))))))) ∧ (¬ (¬ r19 = (0 : Int)) → _))))) ∧ (¬ (r18 = (0 : Int)) → _))))) ∧ (¬ ((0 : Int) = (0 : Int)) → _))) ∧ (¬ ((0 : Int) = (0 : Int)) → _))))) ∧ (¬ ((0 : Int) = (0 : Int)) → _))) ∧ (¬ (r17 = (0 : Int)) → ((0 ≤ (s16 170 42) - 1 ∧ (s16 170 42) - 1 < 20) ∧ ((s16 194 ((s16 170 42) - 1 : Int).toNat = (0 : Int) → (((0 : Int) = (0 : Int) → ((0 ≤ (s16 170 42) - 1 ∧ (s16 170 42) - 1 < 20) ∧ ((0 = (0 : Int) ∨ 0 = (1 : Int)) ∧ (((0 : Int) = (0 : Int) → (((0 : Int) = (0 : Int) → (170 = 170 ∧ (∀ (r27 : Int), en_isSign (40) (zup s16 194 ((s16 170 42) - 1 : Int).toNat 0) r27 → ((r27 = (0 : Int) → (170 = 170 ∧ (∀ (r28 : Int), en_isWord (7170414) (zup s16 194 ((s16 170 42) - 1 : Int).toNat 0) r28 → ((¬ r28 = (0 : Int) → (170 = 170 ∧ (∀ (r29 : Int), en_isWord (7170414) (zup s16 194 ((s16 170 42) - 1 : Int).toNat 0) r29 → ((r29 = (0 : Int) → _) ∧ (¬ (r29 = (0 : Int)) → (170 = 170 ∧ (rq_rNext t n  (zup s16 194 ((s16 170 42) - 1 : Int).toNat 0) ∧ (∀ (s30 : zS), en_rNext t n  (zup s16 194 ((s16 170 42) - 1 : Int).toNat 0) s30 → (170 = 170 ∧ (rq_rLexA  s30 ∧ (∀ (s31 : zS), en_rLexA  s30 s31 → (170 = 170 ∧ (∀ (r32 : Int), en_isSign (40) s31 r32 → ((¬ r32 = (0 : Int) → ((¬ (36 : Int) = (44 : Int) → (170 = 170 ∧ (rq_rOpensF (3) s31 ∧ (∀ (s33 : zS), en_rOpensF (3) s31 s33 → ((¬ s33 170 8 = (0 : Int) → ((0 = (0 : Int) ∨ 0 = (1 : Int)) ∧ Q (some (.inl 0)) s33)) ∧ (¬ (¬ s33 170 8 = (0 : Int)) → _)))))) ∧ (¬ (¬ (36 : Int) = (44 : Int)) → _))) ∧ (¬ (¬ r32 = (0 : Int)) → (170 = 170 ∧ (rq_blame (1) (s31 170 4) s31 ∧ (∀ (s34 : zS), en_blame (1) (s31 170 4) s31 s34 → ((¬ (36 : Int) = (44 : Int) → (170 = 170 ∧ (rq_rOpensF (3) s34 ∧ (∀ (s35 : zS), en_rOpensF (3) s34 s35 → ((¬ s35 170 8 = (0 : Int) → ((0 = (0 : Int) ∨ 0 = (1 : Int)) ∧ Q (some (.inl 0)) s35)) ∧ (¬ (¬ s35 170 8 = (0 : Int)) → _)))))) ∧ (¬ (¬ (36 : Int) = (44 : Int)) → _)))))))))))))))))))) ∧ (¬ (¬ r28 = (0 : Int)) → _))))) ∧ (¬ (r27 = (0 : Int)) → _))))) ∧ (¬ ((0 : Int) = (0 : Int)) → _))) ∧ (¬ ((0 : Int) = (0 : Int)) → _))))) ∧ (¬ ((0 : Int) = (0 : Int)) → _))) ∧ (¬ (s16 194 ((s16 170 42) - 1 : Int).toNat = (0 : Int)) → (((1 : Int) = (0 : Int) → _) ∧ (¬ ((1 : Int) = (0 : Int)) → (170 = 170 ∧ (∀ (r36 : Int), en_isWord (7237492) s16 r36 → ((r36 = (0 : Int) → ((0 ≤ (s16 170 42) - 1 ∧ (s16 170 42) - 1 < 20) ∧ ((0 = (0 : Int) ∨ 0 = (1 : Int)) ∧ (((1 : Int) = (0 : Int) → _) ∧ (¬ ((1 : Int) = (0 : Int)) → (170 = 170 ∧ (∀ (r37 : Int), en_isSign (91) (zup s16 194 ((s16 170 42) - 1 : Int).toNat 0) r37 → ((r37 = (0 : Int) → (((1 : Int) = (0 : Int) → _) ∧ (¬ ((1 : Int) = (0 : Int)) → (170 = 170 ∧ (∀ (r38 : Int), en_isWord (6384748) (zup s16 194 ((s16 170 42) - 1 : Int).toNat 0) r38 → ((r38 = (0 : Int) → (170 = 170 ∧ (∀ (r39 : Int), en_isSign (40) (zup s16 194 ((s16 170 42) - 1 : Int).toNat 0) r39 → ((r39 = (0 : Int) → (170 = 170 ∧ (∀ (r40 : Int), en_isWord (7170414) (zup s16 194 ((s16 170 42) - 1 : Int).toNat 0) r40 → ((¬ r40 = (0 : Int) → (170 = 170 ∧ (∀ (r41 : Int), en_isWord (7170414) (zup s16 194 ((s16 170 42) - 1 : Int).toNat 0) r41 → ((r41 = (0 : Int) → _) ∧ (¬ (r41 = (0 : Int)) → (170 = 170 ∧ (rq_rNext t n  (zup s16 194 ((s16 170 42) - 1 : Int).toNat 0) ∧ (∀ (s42 : zS), en_rNext t n  (zup s16 194 ((s16 170 42) - 1 : Int).toNat 0) s42 → (170 = 170 ∧ (rq_rLexA  s42 ∧ (∀ (s43 : zS), en_rLexA  s42 s43 → (170 = 170 ∧ (∀ (r44 : Int), en_isSign (40) s43 r44 → ((¬ r44 = (0 : Int) → ((¬ (36 : Int) = (44 : Int) → (170 = 170 ∧ (rq_rOpensF (3) s43 ∧ (∀ (s45 : zS), en_rOpensF (3) s43 s45 → ((¬ s45 170 8 = (0 : Int) → ((0 = (0 : Int) ∨ 0 = (1 : Int)) ∧ Q (some (.inl 0)) s45)) ∧ (¬ (¬ s45 170 8 = (0 : Int)) → _)))))) ∧ (¬ (¬ (36 : Int) = (44 : Int)) → _))) ∧ (¬ (¬ r44 = (0 : Int)) → (170 = 170 ∧ (rq_blame (1) (s43 170 4) s43 ∧ (∀ (s46 : zS), en_blame (1) (s43 170 4) s43 s46 → ((¬ (36 : Int) = (44 : Int) → (170 = 170 ∧ (rq_rOpensF (3) s46 ∧ (∀ (s47 : zS), en_rOpensF (3) s46 s47 → ((¬ s47 170 8 = (0 : Int) → ((0 = (0 : Int) ∨ 0 = (1 : Int)) ∧ Q (some (.inl 0)) s47)) ∧ (¬ (¬ s47 170 8 = (0 : Int)) → _)))))) ∧ (¬ (¬ (36 : Int) = (44 : Int)) → _)))))))))))))))))))) ∧ (¬ (¬ r40 = (0 : Int)) → _))))) ∧ (¬ (r39 = (0 : Int)) → _))))) ∧ (¬ (r38 = (0 : Int)) → _))))))) ∧ (¬ (r37 = (0 : Int)) → _))))))))) ∧ (¬ (r36 = (0 : Int)) → _))))))))))))))) ∧ (¬ (s16 170 8 ≤ (0 : Int)) → _)))))
  refine ⟨rfl, hG, fun s16 q16 => ?_⟩
  obtain ⟨gs16, fs16, x16⟩ := q16
  change (st 170 12 = -1 → s16 170 8 = st 170 8) ∧ (¬ st 170 12 = -1 → 0 < s16 170 8) ∧ (0 < st 170 8 → 0 < s16 170 8) at x16
  have g48 := g_faultKind gs16
  have e49 : s16 170 3 = st 170 3 := fs16 170 3 rfl rfl
  have e50 : s16 170 6 = st 170 6 := fs16 170 6 rfl rfl
  have e51 : s16 170 7 = st 170 7 := fs16 170 7 rfl rfl
  have e52 : s16 170 12 = st 170 12 := fs16 170 12 rfl rfl
  have e53 : s16 170 4 = st 170 4 := fs16 170 4 rfl rfl
  have e54 : s16 170 43 = st 170 43 := fs16 170 43 rfl rfl
  have e55 : s16 170 42 = st 170 42 := fs16 170 42 rfl rfl
  have e56 : s16 170 45 = st 170 45 := fs16 170 45 rfl rfl
  have e57 : s16 170 5 = st 170 5 := fs16 170 5 rfl rfl
  refine ⟨fun h58 => ?_, fun h58 => (by exfalso; omega)⟩
  refine ⟨by omega, ?_⟩
  have g60 := g_frame hG ((st 170 42) - 1 : Int).toNat
  have e59 : s16 192 ((s16 170 42) - 1 : Int).toNat = st 192 ((st 170 42) - 1 : Int).toNat := (fs16 192 ((s16 170 42) - 1 : Int).toNat rfl rfl).trans (by rw [e55] <;> rfl)
  refine ⟨by omega, ?_⟩
  refine fun r17 q17 => ?_
  have b17 := q17
  change (r17 = 0 ∨ r17 = 1) ∧ (r17 = 1 ↔ (s16 192 ((s16 170 42) - 1 : Int).toNat) = 1 ∨ (s16 192 ((s16 170 42) - 1 : Int).toNat) = 5 ∨ (s16 192 ((s16 170 42) - 1 : Int).toNat) = 6) at b17
  refine ⟨fun h61 => ?_, fun h61 => ?_⟩
  · refine ⟨fun h62 => ?_, fun h62 => absurd (by decide) h62⟩
    refine ⟨by omega, ?_⟩
    refine ⟨by omega, ?_⟩
    refine ⟨fun h63 => ?_, fun h63 => absurd (by decide) h63⟩
    refine ⟨fun h64 => ?_, fun h64 => absurd (by decide) h64⟩
    refine ⟨rfl, fun r18 q18 => ?_⟩
    have b18 := q18
    change (r18 = 0 ∨ r18 = 1) ∧ (r18 = 1 ↔ s16 170 3 = 3 ∧ s16 170 6 = (40)) at b18
    refine ⟨fun h65 => ?_, fun h65 => (by exfalso; clear hQ; omega)⟩
    clear h65 b18
    refine ⟨rfl, fun r19 q19 => ?_⟩
    have b19 := q19
    change (r19 = 0 ∨ r19 = 1) ∧ (r19 = 1 ↔ s16 170 3 = 1 ∧ s16 170 7 = (7170414)) at b19
    refine ⟨fun h66 => ?_, fun h66 => (by exfalso; clear hQ; omega)⟩
    clear h66 b19
    refine ⟨rfl, fun r20 q20 => ?_⟩
    have b20 := q20
    change (r20 = 0 ∨ r20 = 1) ∧ (r20 = 1 ↔ s16 170 3 = 1 ∧ s16 170 7 = (7170414)) at b20
    refine ⟨fun h67 => (by exfalso; clear hQ; omega), fun h67 => ?_⟩
    clear h67 b20
    refine ⟨rfl, ⟨(gInv_up gs16 (p_begins (by omega))), (show RDr (zup s16 194 ((s16 170 42) - 1 : Int).toNat 0) t n from (show RDr (zup s16 194 ((s16 170 42) - 1 : Int).toNat 0) t n from (RDr_of (fs16 170 2 rfl rfl) (fun i => fs16 171 i rfl rfl) (fs16 170 3 rfl rfl) (fs16 170 4 rfl rfl) (fs16 170 5 rfl rfl) (fs16 170 6 rfl rfl) (fs16 170 7 rfl rfl) (fs16 170 12 rfl rfl) mrd))), (show s16 170 12 = -1 from by omega)⟩, fun s21 q21 => ?_⟩
    obtain ⟨gs21, fs21, rd21, nx21⟩ := q21
    change RDr s21 t n at rd21
    change NXr (zup s16 194 ((s16 170 42) - 1 : Int).toNat 0) s21 t n at nx21
    have hp1 : s21 170 4 = e := NXr_e (st := (zup s16 194 ((s16 170 42) - 1 : Int).toNat 0)) (show NXr (zup s16 194 ((s16 170 42) - 1 : Int).toNat 0) s21 t n from nx21) (show tk t n ((zup s16 194 ((s16 170 42) - 1 : Int).toNat 0) 170 4) _ _ e from by rw [show (zup s16 194 ((s16 170 42) - 1 : Int).toNat 0) 170 4 = p from (show s16 170 4 = p from by omega)]; exact ht.1) (by omega)
    have tf2 := RDr_rv rd21 (by rw [hp1]; exact ht.2.1)
    unfold RV at tf2
    have g68 := g_sign gs21
    have g69 := g_value gs21
    have g70 := g_word gs21
    have g71 := g_lexAt gs21
    have e72 : s21 170 8 = s16 170 8 := fs21 170 8 rfl rfl
    have g73 := g_signAt gs21
    have e74 : s21 170 43 = s16 170 43 := fs21 170 43 rfl rfl
    have e75 : s21 170 42 = s16 170 42 := fs21 170 42 rfl rfl
    have e76 : s21 170 45 = s16 170 45 := fs21 170 45 rfl rfl
    have g77 := g_signEnd gs21
    refine ⟨rfl, gs21, fun s22 q22 => ?_⟩
    obtain ⟨gs22, fs22, x22⟩ := q22
    change (s21 170 12 = -1 → s22 170 8 = s21 170 8) ∧ (¬ s21 170 12 = -1 → 0 < s22 170 8) ∧ (0 < s21 170 8 → 0 < s22 170 8) at x22
    have g78 := g_faultKind gs22
    have e79 : s22 170 3 = s21 170 3 := fs22 170 3 rfl rfl
    have e80 : s22 170 6 = s21 170 6 := fs22 170 6 rfl rfl
    have e81 : s22 170 7 = s21 170 7 := fs22 170 7 rfl rfl
    have e82 : s22 170 12 = s21 170 12 := fs22 170 12 rfl rfl
    have e83 : s22 170 4 = s21 170 4 := fs22 170 4 rfl rfl
    have e84 : s22 170 43 = s21 170 43 := fs22 170 43 rfl rfl
    have e85 : s22 170 42 = s21 170 42 := fs22 170 42 rfl rfl
    have e86 : s22 170 45 = s21 170 45 := fs22 170 45 rfl rfl
    have e87 : s22 170 5 = s21 170 5 := fs22 170 5 rfl rfl
    refine ⟨rfl, fun r23 q23 => ?_⟩
    have b23 := q23
    change (r23 = 0 ∨ r23 = 1) ∧ (r23 = 1 ↔ s22 170 3 = 3 ∧ s22 170 6 = (40)) at b23
    refine ⟨fun h88 => ?_, fun h88 => ?_⟩
    · refine ⟨fun h89 => ?_, fun h89 => absurd (by decide) h89⟩
      refine ⟨rfl, ⟨gs22, (show s22 170 43 = 7 ∨ 0 < s22 170 8 from by omega)⟩, fun s24 q24 => ?_⟩
      obtain ⟨gs24, fs24, x24⟩ := q24
      change 0 < s24 170 8 at x24
      have g90 := g_faultKind gs24
      refine ⟨fun h91 => ?_, fun h91 => (by exfalso; omega)⟩
      refine ⟨by omega, ?_⟩
      exact hQ _ _ ⟨gs24, (fr_tr (fr_tr (fr_tr (fr_a (fr_tr (fr_rf _ _) fs16 rfl) rfl) fs21 rfl) fs22 rfl) fs24 rfl), (Z9_tr (Z9_tr (Z9_tr (Z9_up (Z9_fr fs16 (fun _ => rfl) rfl) (by decide)) ((show aFr m_rOpF536 st (zup s16 194 ((s16 170 42) - 1 : Int).toNat 0) from (fr_a (fr_tr (fr_rf _ _) fs16 rfl) rfl)) 170 35 rfl rfl) (Z9_fr fs21 (fun _ => rfl) rfl)) ((show aFr m_rOpF536 st s21 from (fr_tr (fr_a (fr_tr (fr_rf _ _) fs16 rfl) rfl) fs21 rfl)) 170 35 rfl rfl) (Z9_fr fs22 (fun _ => rfl) rfl)) ((show aFr m_rOpF536 st s22 from (fr_tr (fr_tr (fr_a (fr_tr (fr_rf _ _) fs16 rfl) rfl) fs21 rfl) fs22 rfl)) 170 35 rfl rfl) (Z9_fr fs24 (fun _ => rfl) rfl)), (show 0 < s24 170 8 ∧ ((0 : Int) = 0 ∨ (0 : Int) = 1) from by omega)⟩
    · refine ⟨rfl, ⟨gs22, (show 1 ≤ (1) ∧ (1) ≤ 6 from by omega), (show -2147483648 ≤ (s22 170 4) ∧ (s22 170 4) ≤ 2147483647 from by omega)⟩, fun s25 q25 => ?_⟩
      obtain ⟨gs25, fs25, p25⟩ := q25
      change (s22 170 8 = 0 → s25 170 8 = (1)) ∧ (0 < s22 170 8 → s25 170 8 = s22 170 8) at p25
      have g92 := g_faultKind gs25
      refine ⟨fun h93 => ?_, fun h93 => absurd (by decide) h93⟩
      have e94 : s25 170 43 = s22 170 43 := fs25 170 43 rfl rfl
      refine ⟨rfl, ⟨gs25, (show s25 170 43 = 7 ∨ 0 < s25 170 8 from by omega)⟩, fun s26 q26 => ?_⟩
      obtain ⟨gs26, fs26, x26⟩ := q26
      change 0 < s26 170 8 at x26
      have g95 := g_faultKind gs26
      refine ⟨fun h96 => ?_, fun h96 => (by exfalso; omega)⟩
      refine ⟨by omega, ?_⟩
      exact hQ _ _ ⟨gs26, (fr_tr (fr_tr (fr_tr (fr_tr (fr_a (fr_tr (fr_rf _ _) fs16 rfl) rfl) fs21 rfl) fs22 rfl) fs25 rfl) fs26 rfl), (Z9_tr (Z9_tr (Z9_tr (Z9_tr (Z9_up (Z9_fr fs16 (fun _ => rfl) rfl) (by decide)) ((show aFr m_rOpF536 st (zup s16 194 ((s16 170 42) - 1 : Int).toNat 0) from (fr_a (fr_tr (fr_rf _ _) fs16 rfl) rfl)) 170 35 rfl rfl) (Z9_fr fs21 (fun _ => rfl) rfl)) ((show aFr m_rOpF536 st s21 from (fr_tr (fr_a (fr_tr (fr_rf _ _) fs16 rfl) rfl) fs21 rfl)) 170 35 rfl rfl) (Z9_fr fs22 (fun _ => rfl) rfl)) ((show aFr m_rOpF536 st s22 from (fr_tr (fr_tr (fr_a (fr_tr (fr_rf _ _) fs16 rfl) rfl) fs21 rfl) fs22 rfl)) 170 35 rfl rfl) (Z9_fr fs25 (fun _ => rfl) rfl)) ((show aFr m_rOpF536 st s25 from (fr_tr (fr_tr (fr_tr (fr_a (fr_tr (fr_rf _ _) fs16 rfl) rfl) fs21 rfl) fs22 rfl) fs25 rfl)) 170 35 rfl rfl) (Z9_fr fs26 (fun _ => rfl) rfl)), (show 0 < s26 170 8 ∧ ((0 : Int) = 0 ∨ (0 : Int) = 1) from by omega)⟩
  · have g98 := g_begins hG ((st 170 42) - 1 : Int).toNat
    have e97 : s16 194 ((s16 170 42) - 1 : Int).toNat = st 194 ((st 170 42) - 1 : Int).toNat := (fs16 194 ((s16 170 42) - 1 : Int).toNat rfl rfl).trans (by rw [e55] <;> rfl)
    refine ⟨by omega, ?_⟩
    refine ⟨fun h99 => ?_, fun h99 => ?_⟩
    · refine ⟨fun h100 => ?_, fun h100 => absurd (by decide) h100⟩
      refine ⟨by omega, ?_⟩
      refine ⟨by omega, ?_⟩
      refine ⟨fun h101 => ?_, fun h101 => absurd (by decide) h101⟩
      refine ⟨fun h102 => ?_, fun h102 => absurd (by decide) h102⟩
      refine ⟨rfl, fun r27 q27 => ?_⟩
      have b27 := q27
      change (r27 = 0 ∨ r27 = 1) ∧ (r27 = 1 ↔ s16 170 3 = 3 ∧ s16 170 6 = (40)) at b27
      refine ⟨fun h103 => ?_, fun h103 => (by exfalso; clear hQ; omega)⟩
      clear h103 b27
      refine ⟨rfl, fun r28 q28 => ?_⟩
      have b28 := q28
      change (r28 = 0 ∨ r28 = 1) ∧ (r28 = 1 ↔ s16 170 3 = 1 ∧ s16 170 7 = (7170414)) at b28
      refine ⟨fun h104 => ?_, fun h104 => (by exfalso; clear hQ; omega)⟩
      clear h104 b28
      refine ⟨rfl, fun r29 q29 => ?_⟩
      have b29 := q29
      change (r29 = 0 ∨ r29 = 1) ∧ (r29 = 1 ↔ s16 170 3 = 1 ∧ s16 170 7 = (7170414)) at b29
      refine ⟨fun h105 => (by exfalso; clear hQ; omega), fun h105 => ?_⟩
      clear h105 b29
      refine ⟨rfl, ⟨(gInv_up gs16 (p_begins (by omega))), (show RDr (zup s16 194 ((s16 170 42) - 1 : Int).toNat 0) t n from (show RDr (zup s16 194 ((s16 170 42) - 1 : Int).toNat 0) t n from (RDr_of (fs16 170 2 rfl rfl) (fun i => fs16 171 i rfl rfl) (fs16 170 3 rfl rfl) (fs16 170 4 rfl rfl) (fs16 170 5 rfl rfl) (fs16 170 6 rfl rfl) (fs16 170 7 rfl rfl) (fs16 170 12 rfl rfl) mrd))), (show s16 170 12 = -1 from by omega)⟩, fun s30 q30 => ?_⟩
      obtain ⟨gs30, fs30, rd30, nx30⟩ := q30
      change RDr s30 t n at rd30
      change NXr (zup s16 194 ((s16 170 42) - 1 : Int).toNat 0) s30 t n at nx30
      have hp1 : s30 170 4 = e := NXr_e (st := (zup s16 194 ((s16 170 42) - 1 : Int).toNat 0)) (show NXr (zup s16 194 ((s16 170 42) - 1 : Int).toNat 0) s30 t n from nx30) (show tk t n ((zup s16 194 ((s16 170 42) - 1 : Int).toNat 0) 170 4) _ _ e from by rw [show (zup s16 194 ((s16 170 42) - 1 : Int).toNat 0) 170 4 = p from (show s16 170 4 = p from by omega)]; exact ht.1) (by omega)
      have tf2 := RDr_rv rd30 (by rw [hp1]; exact ht.2.1)
      unfold RV at tf2
      have g106 := g_sign gs30
      have g107 := g_value gs30
      have g108 := g_word gs30
      have g109 := g_lexAt gs30
      have e110 : s30 170 8 = s16 170 8 := fs30 170 8 rfl rfl
      have g111 := g_signAt gs30
      have e112 : s30 170 43 = s16 170 43 := fs30 170 43 rfl rfl
      have e113 : s30 170 42 = s16 170 42 := fs30 170 42 rfl rfl
      have e114 : s30 170 45 = s16 170 45 := fs30 170 45 rfl rfl
      have g115 := g_signEnd gs30
      refine ⟨rfl, gs30, fun s31 q31 => ?_⟩
      obtain ⟨gs31, fs31, x31⟩ := q31
      change (s30 170 12 = -1 → s31 170 8 = s30 170 8) ∧ (¬ s30 170 12 = -1 → 0 < s31 170 8) ∧ (0 < s30 170 8 → 0 < s31 170 8) at x31
      have g116 := g_faultKind gs31
      have e117 : s31 170 3 = s30 170 3 := fs31 170 3 rfl rfl
      have e118 : s31 170 6 = s30 170 6 := fs31 170 6 rfl rfl
      have e119 : s31 170 7 = s30 170 7 := fs31 170 7 rfl rfl
      have e120 : s31 170 12 = s30 170 12 := fs31 170 12 rfl rfl
      have e121 : s31 170 4 = s30 170 4 := fs31 170 4 rfl rfl
      have e122 : s31 170 43 = s30 170 43 := fs31 170 43 rfl rfl
      have e123 : s31 170 42 = s30 170 42 := fs31 170 42 rfl rfl
      have e124 : s31 170 45 = s30 170 45 := fs31 170 45 rfl rfl
      have e125 : s31 170 5 = s30 170 5 := fs31 170 5 rfl rfl
      refine ⟨rfl, fun r32 q32 => ?_⟩
      have b32 := q32
      change (r32 = 0 ∨ r32 = 1) ∧ (r32 = 1 ↔ s31 170 3 = 3 ∧ s31 170 6 = (40)) at b32
      refine ⟨fun h126 => ?_, fun h126 => ?_⟩
      · refine ⟨fun h127 => ?_, fun h127 => absurd (by decide) h127⟩
        refine ⟨rfl, ⟨gs31, (show s31 170 43 = 7 ∨ 0 < s31 170 8 from by omega)⟩, fun s33 q33 => ?_⟩
        obtain ⟨gs33, fs33, x33⟩ := q33
        change 0 < s33 170 8 at x33
        have g128 := g_faultKind gs33
        refine ⟨fun h129 => ?_, fun h129 => (by exfalso; omega)⟩
        refine ⟨by omega, ?_⟩
        exact hQ _ _ ⟨gs33, (fr_tr (fr_tr (fr_tr (fr_a (fr_tr (fr_rf _ _) fs16 rfl) rfl) fs30 rfl) fs31 rfl) fs33 rfl), (Z9_tr (Z9_tr (Z9_tr (Z9_up (Z9_fr fs16 (fun _ => rfl) rfl) (by decide)) ((show aFr m_rOpF536 st (zup s16 194 ((s16 170 42) - 1 : Int).toNat 0) from (fr_a (fr_tr (fr_rf _ _) fs16 rfl) rfl)) 170 35 rfl rfl) (Z9_fr fs30 (fun _ => rfl) rfl)) ((show aFr m_rOpF536 st s30 from (fr_tr (fr_a (fr_tr (fr_rf _ _) fs16 rfl) rfl) fs30 rfl)) 170 35 rfl rfl) (Z9_fr fs31 (fun _ => rfl) rfl)) ((show aFr m_rOpF536 st s31 from (fr_tr (fr_tr (fr_a (fr_tr (fr_rf _ _) fs16 rfl) rfl) fs30 rfl) fs31 rfl)) 170 35 rfl rfl) (Z9_fr fs33 (fun _ => rfl) rfl)), (show 0 < s33 170 8 ∧ ((0 : Int) = 0 ∨ (0 : Int) = 1) from by omega)⟩
      · refine ⟨rfl, ⟨gs31, (show 1 ≤ (1) ∧ (1) ≤ 6 from by omega), (show -2147483648 ≤ (s31 170 4) ∧ (s31 170 4) ≤ 2147483647 from by omega)⟩, fun s34 q34 => ?_⟩
        obtain ⟨gs34, fs34, p34⟩ := q34
        change (s31 170 8 = 0 → s34 170 8 = (1)) ∧ (0 < s31 170 8 → s34 170 8 = s31 170 8) at p34
        have g130 := g_faultKind gs34
        refine ⟨fun h131 => ?_, fun h131 => absurd (by decide) h131⟩
        have e132 : s34 170 43 = s31 170 43 := fs34 170 43 rfl rfl
        refine ⟨rfl, ⟨gs34, (show s34 170 43 = 7 ∨ 0 < s34 170 8 from by omega)⟩, fun s35 q35 => ?_⟩
        obtain ⟨gs35, fs35, x35⟩ := q35
        change 0 < s35 170 8 at x35
        have g133 := g_faultKind gs35
        refine ⟨fun h134 => ?_, fun h134 => (by exfalso; omega)⟩
        refine ⟨by omega, ?_⟩
        exact hQ _ _ ⟨gs35, (fr_tr (fr_tr (fr_tr (fr_tr (fr_a (fr_tr (fr_rf _ _) fs16 rfl) rfl) fs30 rfl) fs31 rfl) fs34 rfl) fs35 rfl), (Z9_tr (Z9_tr (Z9_tr (Z9_tr (Z9_up (Z9_fr fs16 (fun _ => rfl) rfl) (by decide)) ((show aFr m_rOpF536 st (zup s16 194 ((s16 170 42) - 1 : Int).toNat 0) from (fr_a (fr_tr (fr_rf _ _) fs16 rfl) rfl)) 170 35 rfl rfl) (Z9_fr fs30 (fun _ => rfl) rfl)) ((show aFr m_rOpF536 st s30 from (fr_tr (fr_a (fr_tr (fr_rf _ _) fs16 rfl) rfl) fs30 rfl)) 170 35 rfl rfl) (Z9_fr fs31 (fun _ => rfl) rfl)) ((show aFr m_rOpF536 st s31 from (fr_tr (fr_tr (fr_a (fr_tr (fr_rf _ _) fs16 rfl) rfl) fs30 rfl) fs31 rfl)) 170 35 rfl rfl) (Z9_fr fs34 (fun _ => rfl) rfl)) ((show aFr m_rOpF536 st s34 from (fr_tr (fr_tr (fr_tr (fr_a (fr_tr (fr_rf _ _) fs16 rfl) rfl) fs30 rfl) fs31 rfl) fs34 rfl)) 170 35 rfl rfl) (Z9_fr fs35 (fun _ => rfl) rfl)), (show 0 < s35 170 8 ∧ ((0 : Int) = 0 ∨ (0 : Int) = 1) from by omega)⟩
    · refine ⟨fun h135 => absurd h135 (by decide), fun h135 => ?_⟩
      refine ⟨rfl, fun r36 q36 => ?_⟩
      have b36 := q36
      change (r36 = 0 ∨ r36 = 1) ∧ (r36 = 1 ↔ s16 170 3 = 1 ∧ s16 170 7 = (7237492)) at b36
      refine ⟨fun h136 => ?_, fun h136 => (by exfalso; clear hQ; omega)⟩
      clear h136 b36
      refine ⟨by omega, ?_⟩
      refine ⟨by omega, ?_⟩
      refine ⟨fun h137 => absurd h137 (by decide), fun h137 => ?_⟩
      refine ⟨rfl, fun r37 q37 => ?_⟩
      have b37 := q37
      change (r37 = 0 ∨ r37 = 1) ∧ (r37 = 1 ↔ s16 170 3 = 3 ∧ s16 170 6 = (91)) at b37
      refine ⟨fun h138 => ?_, fun h138 => (by exfalso; clear hQ; omega)⟩
      clear h138 b37
      refine ⟨fun h139 => absurd h139 (by decide), fun h139 => ?_⟩
      refine ⟨rfl, fun r38 q38 => ?_⟩
      have b38 := q38
      change (r38 = 0 ∨ r38 = 1) ∧ (r38 = 1 ↔ s16 170 3 = 1 ∧ s16 170 7 = (6384748)) at b38
      refine ⟨fun h140 => ?_, fun h140 => (by exfalso; clear hQ; omega)⟩
      clear h140 b38
      refine ⟨rfl, fun r39 q39 => ?_⟩
      have b39 := q39
      change (r39 = 0 ∨ r39 = 1) ∧ (r39 = 1 ↔ s16 170 3 = 3 ∧ s16 170 6 = (40)) at b39
      refine ⟨fun h141 => ?_, fun h141 => (by exfalso; clear hQ; omega)⟩
      clear h141 b39
      refine ⟨rfl, fun r40 q40 => ?_⟩
      have b40 := q40
      change (r40 = 0 ∨ r40 = 1) ∧ (r40 = 1 ↔ s16 170 3 = 1 ∧ s16 170 7 = (7170414)) at b40
      refine ⟨fun h142 => ?_, fun h142 => (by exfalso; clear hQ; omega)⟩
      clear h142 b40
      refine ⟨rfl, fun r41 q41 => ?_⟩
      have b41 := q41
      change (r41 = 0 ∨ r41 = 1) ∧ (r41 = 1 ↔ s16 170 3 = 1 ∧ s16 170 7 = (7170414)) at b41
      refine ⟨fun h143 => (by exfalso; clear hQ; omega), fun h143 => ?_⟩
      clear h143 b41
      refine ⟨rfl, ⟨(gInv_up gs16 (p_begins (by omega))), (show RDr (zup s16 194 ((s16 170 42) - 1 : Int).toNat 0) t n from (show RDr (zup s16 194 ((s16 170 42) - 1 : Int).toNat 0) t n from (RDr_of (fs16 170 2 rfl rfl) (fun i => fs16 171 i rfl rfl) (fs16 170 3 rfl rfl) (fs16 170 4 rfl rfl) (fs16 170 5 rfl rfl) (fs16 170 6 rfl rfl) (fs16 170 7 rfl rfl) (fs16 170 12 rfl rfl) mrd))), (show s16 170 12 = -1 from by omega)⟩, fun s42 q42 => ?_⟩
      obtain ⟨gs42, fs42, rd42, nx42⟩ := q42
      change RDr s42 t n at rd42
      change NXr (zup s16 194 ((s16 170 42) - 1 : Int).toNat 0) s42 t n at nx42
      have hp1 : s42 170 4 = e := NXr_e (st := (zup s16 194 ((s16 170 42) - 1 : Int).toNat 0)) (show NXr (zup s16 194 ((s16 170 42) - 1 : Int).toNat 0) s42 t n from nx42) (show tk t n ((zup s16 194 ((s16 170 42) - 1 : Int).toNat 0) 170 4) _ _ e from by rw [show (zup s16 194 ((s16 170 42) - 1 : Int).toNat 0) 170 4 = p from (show s16 170 4 = p from by omega)]; exact ht.1) (by omega)
      have tf2 := RDr_rv rd42 (by rw [hp1]; exact ht.2.1)
      unfold RV at tf2
      have g144 := g_sign gs42
      have g145 := g_value gs42
      have g146 := g_word gs42
      have g147 := g_lexAt gs42
      have e148 : s42 170 8 = s16 170 8 := fs42 170 8 rfl rfl
      have g149 := g_signAt gs42
      have e150 : s42 170 43 = s16 170 43 := fs42 170 43 rfl rfl
      have e151 : s42 170 42 = s16 170 42 := fs42 170 42 rfl rfl
      have e152 : s42 170 45 = s16 170 45 := fs42 170 45 rfl rfl
      have g153 := g_signEnd gs42
      refine ⟨rfl, gs42, fun s43 q43 => ?_⟩
      obtain ⟨gs43, fs43, x43⟩ := q43
      change (s42 170 12 = -1 → s43 170 8 = s42 170 8) ∧ (¬ s42 170 12 = -1 → 0 < s43 170 8) ∧ (0 < s42 170 8 → 0 < s43 170 8) at x43
      have g154 := g_faultKind gs43
      have e155 : s43 170 3 = s42 170 3 := fs43 170 3 rfl rfl
      have e156 : s43 170 6 = s42 170 6 := fs43 170 6 rfl rfl
      have e157 : s43 170 7 = s42 170 7 := fs43 170 7 rfl rfl
      have e158 : s43 170 12 = s42 170 12 := fs43 170 12 rfl rfl
      have e159 : s43 170 4 = s42 170 4 := fs43 170 4 rfl rfl
      have e160 : s43 170 43 = s42 170 43 := fs43 170 43 rfl rfl
      have e161 : s43 170 42 = s42 170 42 := fs43 170 42 rfl rfl
      have e162 : s43 170 45 = s42 170 45 := fs43 170 45 rfl rfl
      have e163 : s43 170 5 = s42 170 5 := fs43 170 5 rfl rfl
      refine ⟨rfl, fun r44 q44 => ?_⟩
      have b44 := q44
      change (r44 = 0 ∨ r44 = 1) ∧ (r44 = 1 ↔ s43 170 3 = 3 ∧ s43 170 6 = (40)) at b44
      refine ⟨fun h164 => ?_, fun h164 => ?_⟩
      · refine ⟨fun h165 => ?_, fun h165 => absurd (by decide) h165⟩
        refine ⟨rfl, ⟨gs43, (show s43 170 43 = 7 ∨ 0 < s43 170 8 from by omega)⟩, fun s45 q45 => ?_⟩
        obtain ⟨gs45, fs45, x45⟩ := q45
        change 0 < s45 170 8 at x45
        have g166 := g_faultKind gs45
        refine ⟨fun h167 => ?_, fun h167 => (by exfalso; omega)⟩
        refine ⟨by omega, ?_⟩
        exact hQ _ _ ⟨gs45, (fr_tr (fr_tr (fr_tr (fr_a (fr_tr (fr_rf _ _) fs16 rfl) rfl) fs42 rfl) fs43 rfl) fs45 rfl), (Z9_tr (Z9_tr (Z9_tr (Z9_up (Z9_fr fs16 (fun _ => rfl) rfl) (by decide)) ((show aFr m_rOpF536 st (zup s16 194 ((s16 170 42) - 1 : Int).toNat 0) from (fr_a (fr_tr (fr_rf _ _) fs16 rfl) rfl)) 170 35 rfl rfl) (Z9_fr fs42 (fun _ => rfl) rfl)) ((show aFr m_rOpF536 st s42 from (fr_tr (fr_a (fr_tr (fr_rf _ _) fs16 rfl) rfl) fs42 rfl)) 170 35 rfl rfl) (Z9_fr fs43 (fun _ => rfl) rfl)) ((show aFr m_rOpF536 st s43 from (fr_tr (fr_tr (fr_a (fr_tr (fr_rf _ _) fs16 rfl) rfl) fs42 rfl) fs43 rfl)) 170 35 rfl rfl) (Z9_fr fs45 (fun _ => rfl) rfl)), (show 0 < s45 170 8 ∧ ((0 : Int) = 0 ∨ (0 : Int) = 1) from by omega)⟩
      · refine ⟨rfl, ⟨gs43, (show 1 ≤ (1) ∧ (1) ≤ 6 from by omega), (show -2147483648 ≤ (s43 170 4) ∧ (s43 170 4) ≤ 2147483647 from by omega)⟩, fun s46 q46 => ?_⟩
        obtain ⟨gs46, fs46, p46⟩ := q46
        change (s43 170 8 = 0 → s46 170 8 = (1)) ∧ (0 < s43 170 8 → s46 170 8 = s43 170 8) at p46
        have g168 := g_faultKind gs46
        refine ⟨fun h169 => ?_, fun h169 => absurd (by decide) h169⟩
        have e170 : s46 170 43 = s43 170 43 := fs46 170 43 rfl rfl
        refine ⟨rfl, ⟨gs46, (show s46 170 43 = 7 ∨ 0 < s46 170 8 from by omega)⟩, fun s47 q47 => ?_⟩
        obtain ⟨gs47, fs47, x47⟩ := q47
        change 0 < s47 170 8 at x47
        have g171 := g_faultKind gs47
        refine ⟨fun h172 => ?_, fun h172 => (by exfalso; omega)⟩
        refine ⟨by omega, ?_⟩
        exact hQ _ _ ⟨gs47, (fr_tr (fr_tr (fr_tr (fr_tr (fr_a (fr_tr (fr_rf _ _) fs16 rfl) rfl) fs42 rfl) fs43 rfl) fs46 rfl) fs47 rfl), (Z9_tr (Z9_tr (Z9_tr (Z9_tr (Z9_up (Z9_fr fs16 (fun _ => rfl) rfl) (by decide)) ((show aFr m_rOpF536 st (zup s16 194 ((s16 170 42) - 1 : Int).toNat 0) from (fr_a (fr_tr (fr_rf _ _) fs16 rfl) rfl)) 170 35 rfl rfl) (Z9_fr fs42 (fun _ => rfl) rfl)) ((show aFr m_rOpF536 st s42 from (fr_tr (fr_a (fr_tr (fr_rf _ _) fs16 rfl) rfl) fs42 rfl)) 170 35 rfl rfl) (Z9_fr fs43 (fun _ => rfl) rfl)) ((show aFr m_rOpF536 st s43 from (fr_tr (fr_tr (fr_a (fr_tr (fr_rf _ _) fs16 rfl) rfl) fs42 rfl) fs43 rfl)) 170 35 rfl rfl) (Z9_fr fs46 (fun _ => rfl) rfl)) ((show aFr m_rOpF536 st s46 from (fr_tr (fr_tr (fr_tr (fr_a (fr_tr (fr_rf _ _) fs16 rfl) rfl) fs42 rfl) fs43 rfl) fs46 rfl)) 170 35 rfl rfl) (Z9_fr fs47 (fun _ => rfl) rfl)), (show 0 < s47 170 8 ∧ ((0 : Int) = 0 ∨ (0 : Int) = 1) from by omega)⟩
theorem k_rOpF536_m (hTb : aTb zSh rx_tb cl) {t : Int → Int} {n k ph bg pr o p e : Int} {w c : List Int} {fs : List mFr} {kk v2 e1 : Int} {D : Nat} (hD : 3 ≤ D) : ∀ as st (Q Q' : zQ), (∀ r st', Q r st' → Q' r st') → (k_rOpF536 t n k ph bg pr o p e w c fs kk v2 e1) 196 as st Q → cl D 196 as st Q' := by
  intro as st Q Q' hQ h
  unfold k_rOpF536 at h
  split at h
  · obtain ⟨rfl, h⟩ := h
    exact c_rOpF536 hTb hD (ct_rOpF536_m hQ h)
  · exact h.elim
set_option maxHeartbeats 4000000 in
set_option maxRecDepth 100000 in
theorem c_rOpF537 (hTb : aTb zSh rx_tb cl) {t : Int → Int} {n k ph bg pr o p e : Int} {w c : List Int} {fs : List mFr} {kk v2 e1 : Int} {D : Nat} (hD : 3 ≤ D) {st : zS} {Q : zQ} (h : ct_rOpF537 t n k ph bg pr o p e w c fs kk v2 e1 st Q) : cl D 196 [.inr (.inr (.inl 170))] st Q := by
  obtain ⟨d, rfl⟩ : ∃ d, D = d + 1 := ⟨D - 1, by omega⟩
  refine hTb d 196 (rx_m196, 4, 0, 0, 2) rfl _ _ _ (Nat.le_of_ble_eq_true rfl) (fun K hcl hsf hsl => ?_)
  have hcm : zmo (wcL [(195, k_isTest), (183, k_isWord), (182, k_isSign), (178, k_blame), (194, k_rOpensF), (149, k_rNext t n), (181, k_rLexA)]) (cl d) := (wcL_m (wm_cons (k_isTest_m hTb (by omega)) (wm_cons (k_isWord_m hTb (by omega)) (wm_cons (k_isSign_m hTb (by omega)) (wm_cons (k_blame_m hTb (by omega)) (wm_cons (k_rOpensF_m hTb (by omega)) (wm_cons (k_rNext_m hTb (by omega)) (wm_cons (k_rLexA_m hTb (by omega)) wm_nil))))))))
  obtain ⟨hR, hQ⟩ := h
  obtain ⟨hG, mp, ht⟩ := hR
  change mcP t n st ((k, ph, bg, pr, w) :: fs) 0 (o) (c) (p) at mp
  change tk t n p 1 7168376 e ∧ tk t n e kk v2 e1 ∧ (¬ (kk = 3 ∧ v2 = 40) ∨ 7 ≤ o) at ht
  obtain ⟨mf, mo, mn, mpp, mrd, mq, mbd, mz1, mz2, mz3⟩ := mp
  rw [List.length_cons] at mz3
  have mq0 := mq
  obtain ⟨mfr, mwb, mcd⟩ := mq
  have mt := FR_top mfr
  have mb := FR_bnd _ _ _ mwb mfr
  rw [List.length_cons] at mb
  have ml := WB_hd mwb
  have mcl := mcd.1
  have mlw := FR_len mb.2.1 mfr
  have tf := r_wrd mrd (by rw [mpp]; exact ht.1)
  have g1 := g_codes hG
  have g2 := g_in hG
  have g3 := g_isClever hG
  have g4 := g_deep hG
  have g5 := g_open hG
  have g6 := g_opMany hG
  have g7 := g_signAt hG
  have g8 := g_signEnd hG
  have g9 := g_faultKind hG
  have g10 := g_size hG
  have g11 := g_sign hG
  have g12 := g_lexAt hG
  have g13 := g_value hG
  have g14 := g_word hG
  have g15 := g_operand hG
  refine yr1_ok (Rt := Q) (wc := (wcL [(195, k_isTest), (183, k_isWord), (182, k_isSign), (178, k_blame), (194, k_rOpensF), (149, k_rNext t n), (181, k_rLexA)])) (stp := []) hcm hcl [] 400 ?_
  show (170 = 170 ∧ (rq_rLexA  st ∧ (∀ (s16 : zS), en_rLexA  st s16 → ((s16 170 8 ≤ (0 : Int) → ((-2147483648 ≤ (s16 170 42) - 1 ∧ (s16 170 42) - 1 ≤ 2147483647) ∧ ((0 ≤ (s16 170 42) - 1 ∧ (s16 170 42) - 1 < 20) ∧ (∀ (r17 : Int), en_isTest (s16 192 ((s16 170 42) - 1 : Int).toNat) s16 r17 → ((r17 = (0 : Int) → (((0 : Int) = (0 : Int) → ((0 ≤ (s16 170 42) - 1 ∧ (s16 170 42) - 1 < 20) ∧ ((0 = (0 : Int) ∨ 0 = (1 : Int)) ∧ (((0 : Int) = (0 : Int) → (((0 : Int) = (0 : Int) → (170 = 170 ∧ (∀ (r18 : Int), en_isSign (40) (zup s16 194 ((s16 170 42) - 1 : Int).toNat 0) r18 → ((r18 = (0 : Int) → (170 = 170 ∧ (∀ (r19 : Int), en_isWord (7170414) (zup s16 194 ((s16 170 42) - 1 : Int).toNat 0) r19 → ((¬ r19 = (0 : Int) → _) ∧ (¬ (¬ r19 = (0 : Int)) → (170 = 170 ∧ (∀ (r20 : Int), en_isWord (7168376) (zup s16 194 ((s16 170 42) - 1 : Int).toNat 0) r20 → ((¬ r20 = (0 : Int) → (170 = 170 ∧ (∀ (r21 : Int), en_isWord (7170414) (zup s16 194 ((s16 170 42) - 1 : Int).toNat 0) r21 → ((r21 = (0 : Int) → (170 = 170 ∧ (∀ (r22 : Int), en_isWord (7168376) (zup s16 194 ((s16 170 42) - 1 : Int).toNat 0) r22 → ((r22 = (0 : Int) → _) ∧ (¬ (r22 = (0 : Int)) → (170 = 170 ∧ (rq_rNext t n  (zup s16 194 ((s16 170 42) - 1 : Int).toNat 0) ∧ (∀ (s23 : zS), en_rNext t n  (zup s16 194 ((s16 170 42) - 1 : Int).toNat 0) s23 → (170 = 170 ∧ (rq_rLexA  s23 ∧ (∀ (s24 : zS), en_rLexA  s23 s24 → (170 = 170 ∧ (∀ (r25 : Int), en_isSign (40) s24 r25 → ((¬ r25 = (0 : Int) → ((¬ (37 : Int) = (44 : Int) → (170 = 170 ∧ (rq_rOpensF (3) s24 ∧ (∀ (s26 : zS), en_rOpensF (3) s24 s26 → ((¬ s26 170 8 = (0 : Int) → ((0 = (0 : Int) ∨ 0 = (1 : Int)) ∧ Q (some (.inl 0)) s26)) ∧ (¬ (¬ s26 170 8 = (0 : Int)) → _)))))) ∧ (¬ (¬ (37 : Int) = (44 : Int)) → _))) ∧ (¬ (¬ r25 = (0 : Int)) → (170 = 170 ∧ (rq_blame (1) (s24 170 4) s24 ∧ (∀ (s27 : zS), en_blame (1) (s24 170 4) s24 s27 → ((¬ (37 : Int) = (44 : Int) → (170 = 170 ∧ (rq_rOpensF (3) s27 ∧ (∀ (s28 : zS), en_rOpensF (3) s27 s28 → ((¬ s28 170 8 = (0 : Int) → ((0 = (0 : Int) ∨ 0 = (1 : Int)) ∧ Q (some (.inl 0)) s28)) ∧ (¬ (¬ s28 170 8 = (0 : Int)) → _)))))) ∧ (¬ (¬ (37 : Int) = (44 : Int)) → _)))))))))))))))))))) ∧ (¬ (r21 = (0 : Int)) → _))))) ∧ (¬ (¬ r20 = (0 : Int)) → _))))))))) ∧ (¬ (r18 = (0 : Int)) → _))))) ∧ (¬ ((0 : Int) = (0 : Int)) → _))) ∧ (¬ ((0 : Int) = (0 : Int)) → _))))) ∧ (¬ ((0 : Int) = (0 : Int)) → _))) ∧ (¬ (r17 = (0 : Int)) → ((0 ≤ (s16 170 42) - 1 ∧ (s16 170 42) - 1 < 20) ∧ ((s16 194 ((s16 170 42) - 1 : Int).toNat = (0 : Int) → (((0 : Int) = (0 : Int) → ((0 ≤ (s16 170 42) - 1 ∧ (s16 170 42) - 1 < 20) ∧ ((0 = (0 : Int) ∨ 0 = (1 : Int)) ∧ (((0 : Int) = (0 : Int) → (((0 : Int) = (0 : Int) → (170 = 170 ∧ (∀ (r29 : Int), en_isSign (40) (zup s16 194 ((s16 170 42) - 1 : Int).toNat 0) r29 → ((r29 = (0 : Int) → (170 = 170 ∧ (∀ (r30 : Int), en_isWord (7170414) (zup s16 194 ((s16 170 42) - 1 : Int).toNat 0) r30 → ((¬ r30 = (0 : Int) → _) ∧ (¬ (¬ r30 = (0 : Int)) → (170 = 170 ∧ (∀ (r31 : Int), en_isWord (7168376) (zup s16 194 ((s16 170 42) - 1 : Int).toNat 0) r31 → ((¬ r31 = (0 : Int) → (170 = 170 ∧ (∀ (r32 : Int), en_isWord (7170414) (zup s16 194 ((s16 170 42) - 1 : Int).toNat 0) r32 → ((r32 = (0 : Int) → (170 = 170 ∧ (∀ (r33 : Int), en_isWord (7168376) (zup s16 194 ((s16 170 42) - 1 : Int).toNat 0) r33 → ((r33 = (0 : Int) → _) ∧ (¬ (r33 = (0 : Int)) → (170 = 170 ∧ (rq_rNext t n  (zup s16 194 ((s16 170 42) - 1 : Int).toNat 0) ∧ (∀ (s34 : zS), en_rNext t n  (zup s16 194 ((s16 170 42) - 1 : Int).toNat 0) s34 → (170 = 170 ∧ (rq_rLexA  s34 ∧ (∀ (s35 : zS), en_rLexA  s34 s35 → (170 = 170 ∧ (∀ (r36 : Int), en_isSign (40) s35 r36 → ((¬ r36 = (0 : Int) → ((¬ (37 : Int) = (44 : Int) → (170 = 170 ∧ (rq_rOpensF (3) s35 ∧ (∀ (s37 : zS), en_rOpensF (3) s35 s37 → ((¬ s37 170 8 = (0 : Int) → ((0 = (0 : Int) ∨ 0 = (1 : Int)) ∧ Q (some (.inl 0)) s37)) ∧ (¬ (¬ s37 170 8 = (0 : Int)) → _)))))) ∧ (¬ (¬ (37 : Int) = (44 : Int)) → _))) ∧ (¬ (¬ r36 = (0 : Int)) → (170 = 170 ∧ (rq_blame (1) (s35 170 4) s35 ∧ (∀ (s38 : zS), en_blame (1) (s35 170 4) s35 s38 → ((¬ (37 : Int) = (44 : Int) → (170 = 170 ∧ (rq_rOpensF (3) s38 ∧ (∀ (s39 : zS), en_rOpensF (3) s38 s39 → ((¬ s39 170 8 = (0 : Int) → ((0 = (0 : Int) ∨ 0 = (1 : Int)) ∧ Q (some (.inl 0)) s39)) ∧ (¬ (¬ s39 170 8 = (0 : Int)) → _)))))) ∧ (¬ (¬ (37 : Int) = (44 : Int)) → _)))))))))))))))))))) ∧ (¬ (r32 = (0 : Int)) → _))))) ∧ (¬ (¬ r31 = (0 : Int)) → _))))))))) ∧ (¬ (r29 = (0 : Int)) → _))))) ∧ (¬ ((0 : Int) = (0 : Int)) → _))) ∧ (¬ ((0 : Int) = (0 : Int)) → _))))) ∧ (¬ ((0 : Int) = (0 : Int)) → _))) ∧ (¬ (s16 194 ((s16 170 42) - 1 : Int).toNat = (0 : Int)) → (((1 : Int) = (0 : Int) → _) ∧ (¬ ((1 : Int) = (0 : Int)) → (170 = 170 ∧ (∀ (r40 : Int), en_isWord (7237492) s16 r40 → ((r40 = (0 : Int) → ((0 ≤ (s16 170 42) - 1 ∧ (s16 170 42) - 1 < 20) ∧ ((0 = (0 : Int) ∨ 0 = (1 : Int)) ∧ (((1 : Int) = (0 : Int) → _) ∧ (¬ ((1 : Int) = (0 : Int)) → (170 = 170 ∧ (∀ (r41 : Int), en_isSign (91) (zup s16 194 ((s16 170 42) - 1 : Int).toNat 0) r41 → ((r41 = (0 : Int) → (((1 : Int) = (0 : Int) → _) ∧ (¬ ((1 : Int) = (0 : Int)) → (170 = 170 ∧ (∀ (r42 : Int), en_isWord (6384748) (zup s16 194 ((s16 170 42) - 1 : Int).toNat 0) r42 → ((r42 = (0 : Int) → (170 = 170 ∧ (∀ (r43 : Int), en_isSign (40) (zup s16 194 ((s16 170 42) - 1 : Int).toNat 0) r43 → ((r43 = (0 : Int) → (170 = 170 ∧ (∀ (r44 : Int), en_isWord (7170414) (zup s16 194 ((s16 170 42) - 1 : Int).toNat 0) r44 → ((¬ r44 = (0 : Int) → _) ∧ (¬ (¬ r44 = (0 : Int)) → (170 = 170 ∧ (∀ (r45 : Int), en_isWord (7168376) (zup s16 194 ((s16 170 42) - 1 : Int).toNat 0) r45 → ((¬ r45 = (0 : Int) → (170 = 170 ∧ (∀ (r46 : Int), en_isWord (7170414) (zup s16 194 ((s16 170 42) - 1 : Int).toNat 0) r46 → ((r46 = (0 : Int) → (170 = 170 ∧ (∀ (r47 : Int), en_isWord (7168376) (zup s16 194 ((s16 170 42) - 1 : Int).toNat 0) r47 → ((r47 = (0 : Int) → _) ∧ (¬ (r47 = (0 : Int)) → (170 = 170 ∧ (rq_rNext t n  (zup s16 194 ((s16 170 42) - 1 : Int).toNat 0) ∧ (∀ (s48 : zS), en_rNext t n  (zup s16 194 ((s16 170 42) - 1 : Int).toNat 0) s48 → (170 = 170 ∧ (rq_rLexA  s48 ∧ (∀ (s49 : zS), en_rLexA  s48 s49 → (170 = 170 ∧ (∀ (r50 : Int), en_isSign (40) s49 r50 → ((¬ r50 = (0 : Int) → ((¬ (37 : Int) = (44 : Int) → (170 = 170 ∧ (rq_rOpensF (3) s49 ∧ (∀ (s51 : zS), en_rOpensF (3) s49 s51 → ((¬ s51 170 8 = (0 : Int) → ((0 = (0 : Int) ∨ 0 = (1 : Int)) ∧ Q (some (.inl 0)) s51)) ∧ (¬ (¬ s51 170 8 = (0 : Int)) → _)))))) ∧ (¬ (¬ (37 : Int) = (44 : Int)) → _))) ∧ (¬ (¬ r50 = (0 : Int)) → (170 = 170 ∧ (rq_blame (1) (s49 170 4) s49 ∧ (∀ (s52 : zS), en_blame (1) (s49 170 4) s49 s52 → ((¬ (37 : Int) = (44 : Int) → (170 = 170 ∧ (rq_rOpensF (3) s52 ∧ (∀ (s53 : zS), en_rOpensF (3) s52 s53 → ((¬ s53 170 8 = (0 : Int) → ((0 = (0 : Int) ∨ 0 = (1 : Int)) ∧ Q (some (.inl 0)) s53)) ∧ (¬ (¬ s53 170 8 = (0 : Int)) → _)))))) ∧ (¬ (¬ (37 : Int) = (44 : Int)) → _)))))))))))))))))))) ∧ (¬ (r46 = (0 : Int)) → _))))) ∧ (¬ (¬ r45 = (0 : Int)) → _))))))))) ∧ (¬ (r43 = (0 : Int)) → _))))) ∧ (¬ (r42 = (0 : Int)) → _))))))) ∧ (¬ (r41 = (0 : Int)) → _))))))))) ∧ (¬ (r40 = (0 : Int)) → _))))))))))))))) ∧ (¬ (s16 170 8 ≤ (0 : Int)) → _)))))
  refine ⟨rfl, hG, fun s16 q16 => ?_⟩
  obtain ⟨gs16, fs16, x16⟩ := q16
  change (st 170 12 = -1 → s16 170 8 = st 170 8) ∧ (¬ st 170 12 = -1 → 0 < s16 170 8) ∧ (0 < st 170 8 → 0 < s16 170 8) at x16
  have g54 := g_faultKind gs16
  have e55 : s16 170 3 = st 170 3 := fs16 170 3 rfl rfl
  have e56 : s16 170 6 = st 170 6 := fs16 170 6 rfl rfl
  have e57 : s16 170 7 = st 170 7 := fs16 170 7 rfl rfl
  have e58 : s16 170 12 = st 170 12 := fs16 170 12 rfl rfl
  have e59 : s16 170 4 = st 170 4 := fs16 170 4 rfl rfl
  have e60 : s16 170 43 = st 170 43 := fs16 170 43 rfl rfl
  have e61 : s16 170 42 = st 170 42 := fs16 170 42 rfl rfl
  have e62 : s16 170 45 = st 170 45 := fs16 170 45 rfl rfl
  have e63 : s16 170 5 = st 170 5 := fs16 170 5 rfl rfl
  refine ⟨fun h64 => ?_, fun h64 => (by exfalso; omega)⟩
  refine ⟨by omega, ?_⟩
  have g66 := g_frame hG ((st 170 42) - 1 : Int).toNat
  have e65 : s16 192 ((s16 170 42) - 1 : Int).toNat = st 192 ((st 170 42) - 1 : Int).toNat := (fs16 192 ((s16 170 42) - 1 : Int).toNat rfl rfl).trans (by rw [e61] <;> rfl)
  refine ⟨by omega, ?_⟩
  refine fun r17 q17 => ?_
  have b17 := q17
  change (r17 = 0 ∨ r17 = 1) ∧ (r17 = 1 ↔ (s16 192 ((s16 170 42) - 1 : Int).toNat) = 1 ∨ (s16 192 ((s16 170 42) - 1 : Int).toNat) = 5 ∨ (s16 192 ((s16 170 42) - 1 : Int).toNat) = 6) at b17
  refine ⟨fun h67 => ?_, fun h67 => ?_⟩
  · refine ⟨fun h68 => ?_, fun h68 => absurd (by decide) h68⟩
    refine ⟨by omega, ?_⟩
    refine ⟨by omega, ?_⟩
    refine ⟨fun h69 => ?_, fun h69 => absurd (by decide) h69⟩
    refine ⟨fun h70 => ?_, fun h70 => absurd (by decide) h70⟩
    refine ⟨rfl, fun r18 q18 => ?_⟩
    have b18 := q18
    change (r18 = 0 ∨ r18 = 1) ∧ (r18 = 1 ↔ s16 170 3 = 3 ∧ s16 170 6 = (40)) at b18
    refine ⟨fun h71 => ?_, fun h71 => (by exfalso; clear hQ; omega)⟩
    clear h71 b18
    refine ⟨rfl, fun r19 q19 => ?_⟩
    have b19 := q19
    change (r19 = 0 ∨ r19 = 1) ∧ (r19 = 1 ↔ s16 170 3 = 1 ∧ s16 170 7 = (7170414)) at b19
    refine ⟨fun h72 => (by exfalso; clear hQ; omega), fun h72 => ?_⟩
    clear h72 b19
    refine ⟨rfl, fun r20 q20 => ?_⟩
    have b20 := q20
    change (r20 = 0 ∨ r20 = 1) ∧ (r20 = 1 ↔ s16 170 3 = 1 ∧ s16 170 7 = (7168376)) at b20
    refine ⟨fun h73 => ?_, fun h73 => (by exfalso; clear hQ; omega)⟩
    clear h73 b20
    refine ⟨rfl, fun r21 q21 => ?_⟩
    have b21 := q21
    change (r21 = 0 ∨ r21 = 1) ∧ (r21 = 1 ↔ s16 170 3 = 1 ∧ s16 170 7 = (7170414)) at b21
    refine ⟨fun h74 => ?_, fun h74 => (by exfalso; clear hQ; omega)⟩
    clear h74 b21
    refine ⟨rfl, fun r22 q22 => ?_⟩
    have b22 := q22
    change (r22 = 0 ∨ r22 = 1) ∧ (r22 = 1 ↔ s16 170 3 = 1 ∧ s16 170 7 = (7168376)) at b22
    refine ⟨fun h75 => (by exfalso; clear hQ; omega), fun h75 => ?_⟩
    clear h75 b22
    refine ⟨rfl, ⟨(gInv_up gs16 (p_begins (by omega))), (show RDr (zup s16 194 ((s16 170 42) - 1 : Int).toNat 0) t n from (show RDr (zup s16 194 ((s16 170 42) - 1 : Int).toNat 0) t n from (RDr_of (fs16 170 2 rfl rfl) (fun i => fs16 171 i rfl rfl) (fs16 170 3 rfl rfl) (fs16 170 4 rfl rfl) (fs16 170 5 rfl rfl) (fs16 170 6 rfl rfl) (fs16 170 7 rfl rfl) (fs16 170 12 rfl rfl) mrd))), (show s16 170 12 = -1 from by omega)⟩, fun s23 q23 => ?_⟩
    obtain ⟨gs23, fs23, rd23, nx23⟩ := q23
    change RDr s23 t n at rd23
    change NXr (zup s16 194 ((s16 170 42) - 1 : Int).toNat 0) s23 t n at nx23
    have hp1 : s23 170 4 = e := NXr_e (st := (zup s16 194 ((s16 170 42) - 1 : Int).toNat 0)) (show NXr (zup s16 194 ((s16 170 42) - 1 : Int).toNat 0) s23 t n from nx23) (show tk t n ((zup s16 194 ((s16 170 42) - 1 : Int).toNat 0) 170 4) _ _ e from by rw [show (zup s16 194 ((s16 170 42) - 1 : Int).toNat 0) 170 4 = p from (show s16 170 4 = p from by omega)]; exact ht.1) (by omega)
    have tf2 := RDr_rv rd23 (by rw [hp1]; exact ht.2.1)
    unfold RV at tf2
    have g76 := g_sign gs23
    have g77 := g_value gs23
    have g78 := g_word gs23
    have g79 := g_lexAt gs23
    have e80 : s23 170 8 = s16 170 8 := fs23 170 8 rfl rfl
    have g81 := g_signAt gs23
    have e82 : s23 170 43 = s16 170 43 := fs23 170 43 rfl rfl
    have e83 : s23 170 42 = s16 170 42 := fs23 170 42 rfl rfl
    have e84 : s23 170 45 = s16 170 45 := fs23 170 45 rfl rfl
    have g85 := g_signEnd gs23
    refine ⟨rfl, gs23, fun s24 q24 => ?_⟩
    obtain ⟨gs24, fs24, x24⟩ := q24
    change (s23 170 12 = -1 → s24 170 8 = s23 170 8) ∧ (¬ s23 170 12 = -1 → 0 < s24 170 8) ∧ (0 < s23 170 8 → 0 < s24 170 8) at x24
    have g86 := g_faultKind gs24
    have e87 : s24 170 3 = s23 170 3 := fs24 170 3 rfl rfl
    have e88 : s24 170 6 = s23 170 6 := fs24 170 6 rfl rfl
    have e89 : s24 170 7 = s23 170 7 := fs24 170 7 rfl rfl
    have e90 : s24 170 12 = s23 170 12 := fs24 170 12 rfl rfl
    have e91 : s24 170 4 = s23 170 4 := fs24 170 4 rfl rfl
    have e92 : s24 170 43 = s23 170 43 := fs24 170 43 rfl rfl
    have e93 : s24 170 42 = s23 170 42 := fs24 170 42 rfl rfl
    have e94 : s24 170 45 = s23 170 45 := fs24 170 45 rfl rfl
    have e95 : s24 170 5 = s23 170 5 := fs24 170 5 rfl rfl
    refine ⟨rfl, fun r25 q25 => ?_⟩
    have b25 := q25
    change (r25 = 0 ∨ r25 = 1) ∧ (r25 = 1 ↔ s24 170 3 = 3 ∧ s24 170 6 = (40)) at b25
    refine ⟨fun h96 => ?_, fun h96 => ?_⟩
    · refine ⟨fun h97 => ?_, fun h97 => absurd (by decide) h97⟩
      refine ⟨rfl, ⟨gs24, (show s24 170 43 = 7 ∨ 0 < s24 170 8 from by omega)⟩, fun s26 q26 => ?_⟩
      obtain ⟨gs26, fs26, x26⟩ := q26
      change 0 < s26 170 8 at x26
      have g98 := g_faultKind gs26
      refine ⟨fun h99 => ?_, fun h99 => (by exfalso; omega)⟩
      refine ⟨by omega, ?_⟩
      exact hQ _ _ ⟨gs26, (fr_tr (fr_tr (fr_tr (fr_a (fr_tr (fr_rf _ _) fs16 rfl) rfl) fs23 rfl) fs24 rfl) fs26 rfl), (Z9_tr (Z9_tr (Z9_tr (Z9_up (Z9_fr fs16 (fun _ => rfl) rfl) (by decide)) ((show aFr m_rOpF537 st (zup s16 194 ((s16 170 42) - 1 : Int).toNat 0) from (fr_a (fr_tr (fr_rf _ _) fs16 rfl) rfl)) 170 35 rfl rfl) (Z9_fr fs23 (fun _ => rfl) rfl)) ((show aFr m_rOpF537 st s23 from (fr_tr (fr_a (fr_tr (fr_rf _ _) fs16 rfl) rfl) fs23 rfl)) 170 35 rfl rfl) (Z9_fr fs24 (fun _ => rfl) rfl)) ((show aFr m_rOpF537 st s24 from (fr_tr (fr_tr (fr_a (fr_tr (fr_rf _ _) fs16 rfl) rfl) fs23 rfl) fs24 rfl)) 170 35 rfl rfl) (Z9_fr fs26 (fun _ => rfl) rfl)), (show 0 < s26 170 8 ∧ ((0 : Int) = 0 ∨ (0 : Int) = 1) from by omega)⟩
    · refine ⟨rfl, ⟨gs24, (show 1 ≤ (1) ∧ (1) ≤ 6 from by omega), (show -2147483648 ≤ (s24 170 4) ∧ (s24 170 4) ≤ 2147483647 from by omega)⟩, fun s27 q27 => ?_⟩
      obtain ⟨gs27, fs27, p27⟩ := q27
      change (s24 170 8 = 0 → s27 170 8 = (1)) ∧ (0 < s24 170 8 → s27 170 8 = s24 170 8) at p27
      have g100 := g_faultKind gs27
      refine ⟨fun h101 => ?_, fun h101 => absurd (by decide) h101⟩
      have e102 : s27 170 43 = s24 170 43 := fs27 170 43 rfl rfl
      refine ⟨rfl, ⟨gs27, (show s27 170 43 = 7 ∨ 0 < s27 170 8 from by omega)⟩, fun s28 q28 => ?_⟩
      obtain ⟨gs28, fs28, x28⟩ := q28
      change 0 < s28 170 8 at x28
      have g103 := g_faultKind gs28
      refine ⟨fun h104 => ?_, fun h104 => (by exfalso; omega)⟩
      refine ⟨by omega, ?_⟩
      exact hQ _ _ ⟨gs28, (fr_tr (fr_tr (fr_tr (fr_tr (fr_a (fr_tr (fr_rf _ _) fs16 rfl) rfl) fs23 rfl) fs24 rfl) fs27 rfl) fs28 rfl), (Z9_tr (Z9_tr (Z9_tr (Z9_tr (Z9_up (Z9_fr fs16 (fun _ => rfl) rfl) (by decide)) ((show aFr m_rOpF537 st (zup s16 194 ((s16 170 42) - 1 : Int).toNat 0) from (fr_a (fr_tr (fr_rf _ _) fs16 rfl) rfl)) 170 35 rfl rfl) (Z9_fr fs23 (fun _ => rfl) rfl)) ((show aFr m_rOpF537 st s23 from (fr_tr (fr_a (fr_tr (fr_rf _ _) fs16 rfl) rfl) fs23 rfl)) 170 35 rfl rfl) (Z9_fr fs24 (fun _ => rfl) rfl)) ((show aFr m_rOpF537 st s24 from (fr_tr (fr_tr (fr_a (fr_tr (fr_rf _ _) fs16 rfl) rfl) fs23 rfl) fs24 rfl)) 170 35 rfl rfl) (Z9_fr fs27 (fun _ => rfl) rfl)) ((show aFr m_rOpF537 st s27 from (fr_tr (fr_tr (fr_tr (fr_a (fr_tr (fr_rf _ _) fs16 rfl) rfl) fs23 rfl) fs24 rfl) fs27 rfl)) 170 35 rfl rfl) (Z9_fr fs28 (fun _ => rfl) rfl)), (show 0 < s28 170 8 ∧ ((0 : Int) = 0 ∨ (0 : Int) = 1) from by omega)⟩
  · have g106 := g_begins hG ((st 170 42) - 1 : Int).toNat
    have e105 : s16 194 ((s16 170 42) - 1 : Int).toNat = st 194 ((st 170 42) - 1 : Int).toNat := (fs16 194 ((s16 170 42) - 1 : Int).toNat rfl rfl).trans (by rw [e61] <;> rfl)
    refine ⟨by omega, ?_⟩
    refine ⟨fun h107 => ?_, fun h107 => ?_⟩
    · refine ⟨fun h108 => ?_, fun h108 => absurd (by decide) h108⟩
      refine ⟨by omega, ?_⟩
      refine ⟨by omega, ?_⟩
      refine ⟨fun h109 => ?_, fun h109 => absurd (by decide) h109⟩
      refine ⟨fun h110 => ?_, fun h110 => absurd (by decide) h110⟩
      refine ⟨rfl, fun r29 q29 => ?_⟩
      have b29 := q29
      change (r29 = 0 ∨ r29 = 1) ∧ (r29 = 1 ↔ s16 170 3 = 3 ∧ s16 170 6 = (40)) at b29
      refine ⟨fun h111 => ?_, fun h111 => (by exfalso; clear hQ; omega)⟩
      clear h111 b29
      refine ⟨rfl, fun r30 q30 => ?_⟩
      have b30 := q30
      change (r30 = 0 ∨ r30 = 1) ∧ (r30 = 1 ↔ s16 170 3 = 1 ∧ s16 170 7 = (7170414)) at b30
      refine ⟨fun h112 => (by exfalso; clear hQ; omega), fun h112 => ?_⟩
      clear h112 b30
      refine ⟨rfl, fun r31 q31 => ?_⟩
      have b31 := q31
      change (r31 = 0 ∨ r31 = 1) ∧ (r31 = 1 ↔ s16 170 3 = 1 ∧ s16 170 7 = (7168376)) at b31
      refine ⟨fun h113 => ?_, fun h113 => (by exfalso; clear hQ; omega)⟩
      clear h113 b31
      refine ⟨rfl, fun r32 q32 => ?_⟩
      have b32 := q32
      change (r32 = 0 ∨ r32 = 1) ∧ (r32 = 1 ↔ s16 170 3 = 1 ∧ s16 170 7 = (7170414)) at b32
      refine ⟨fun h114 => ?_, fun h114 => (by exfalso; clear hQ; omega)⟩
      clear h114 b32
      refine ⟨rfl, fun r33 q33 => ?_⟩
      have b33 := q33
      change (r33 = 0 ∨ r33 = 1) ∧ (r33 = 1 ↔ s16 170 3 = 1 ∧ s16 170 7 = (7168376)) at b33
      refine ⟨fun h115 => (by exfalso; clear hQ; omega), fun h115 => ?_⟩
      clear h115 b33
      refine ⟨rfl, ⟨(gInv_up gs16 (p_begins (by omega))), (show RDr (zup s16 194 ((s16 170 42) - 1 : Int).toNat 0) t n from (show RDr (zup s16 194 ((s16 170 42) - 1 : Int).toNat 0) t n from (RDr_of (fs16 170 2 rfl rfl) (fun i => fs16 171 i rfl rfl) (fs16 170 3 rfl rfl) (fs16 170 4 rfl rfl) (fs16 170 5 rfl rfl) (fs16 170 6 rfl rfl) (fs16 170 7 rfl rfl) (fs16 170 12 rfl rfl) mrd))), (show s16 170 12 = -1 from by omega)⟩, fun s34 q34 => ?_⟩
      obtain ⟨gs34, fs34, rd34, nx34⟩ := q34
      change RDr s34 t n at rd34
      change NXr (zup s16 194 ((s16 170 42) - 1 : Int).toNat 0) s34 t n at nx34
      have hp1 : s34 170 4 = e := NXr_e (st := (zup s16 194 ((s16 170 42) - 1 : Int).toNat 0)) (show NXr (zup s16 194 ((s16 170 42) - 1 : Int).toNat 0) s34 t n from nx34) (show tk t n ((zup s16 194 ((s16 170 42) - 1 : Int).toNat 0) 170 4) _ _ e from by rw [show (zup s16 194 ((s16 170 42) - 1 : Int).toNat 0) 170 4 = p from (show s16 170 4 = p from by omega)]; exact ht.1) (by omega)
      have tf2 := RDr_rv rd34 (by rw [hp1]; exact ht.2.1)
      unfold RV at tf2
      have g116 := g_sign gs34
      have g117 := g_value gs34
      have g118 := g_word gs34
      have g119 := g_lexAt gs34
      have e120 : s34 170 8 = s16 170 8 := fs34 170 8 rfl rfl
      have g121 := g_signAt gs34
      have e122 : s34 170 43 = s16 170 43 := fs34 170 43 rfl rfl
      have e123 : s34 170 42 = s16 170 42 := fs34 170 42 rfl rfl
      have e124 : s34 170 45 = s16 170 45 := fs34 170 45 rfl rfl
      have g125 := g_signEnd gs34
      refine ⟨rfl, gs34, fun s35 q35 => ?_⟩
      obtain ⟨gs35, fs35, x35⟩ := q35
      change (s34 170 12 = -1 → s35 170 8 = s34 170 8) ∧ (¬ s34 170 12 = -1 → 0 < s35 170 8) ∧ (0 < s34 170 8 → 0 < s35 170 8) at x35
      have g126 := g_faultKind gs35
      have e127 : s35 170 3 = s34 170 3 := fs35 170 3 rfl rfl
      have e128 : s35 170 6 = s34 170 6 := fs35 170 6 rfl rfl
      have e129 : s35 170 7 = s34 170 7 := fs35 170 7 rfl rfl
      have e130 : s35 170 12 = s34 170 12 := fs35 170 12 rfl rfl
      have e131 : s35 170 4 = s34 170 4 := fs35 170 4 rfl rfl
      have e132 : s35 170 43 = s34 170 43 := fs35 170 43 rfl rfl
      have e133 : s35 170 42 = s34 170 42 := fs35 170 42 rfl rfl
      have e134 : s35 170 45 = s34 170 45 := fs35 170 45 rfl rfl
      have e135 : s35 170 5 = s34 170 5 := fs35 170 5 rfl rfl
      refine ⟨rfl, fun r36 q36 => ?_⟩
      have b36 := q36
      change (r36 = 0 ∨ r36 = 1) ∧ (r36 = 1 ↔ s35 170 3 = 3 ∧ s35 170 6 = (40)) at b36
      refine ⟨fun h136 => ?_, fun h136 => ?_⟩
      · refine ⟨fun h137 => ?_, fun h137 => absurd (by decide) h137⟩
        refine ⟨rfl, ⟨gs35, (show s35 170 43 = 7 ∨ 0 < s35 170 8 from by omega)⟩, fun s37 q37 => ?_⟩
        obtain ⟨gs37, fs37, x37⟩ := q37
        change 0 < s37 170 8 at x37
        have g138 := g_faultKind gs37
        refine ⟨fun h139 => ?_, fun h139 => (by exfalso; omega)⟩
        refine ⟨by omega, ?_⟩
        exact hQ _ _ ⟨gs37, (fr_tr (fr_tr (fr_tr (fr_a (fr_tr (fr_rf _ _) fs16 rfl) rfl) fs34 rfl) fs35 rfl) fs37 rfl), (Z9_tr (Z9_tr (Z9_tr (Z9_up (Z9_fr fs16 (fun _ => rfl) rfl) (by decide)) ((show aFr m_rOpF537 st (zup s16 194 ((s16 170 42) - 1 : Int).toNat 0) from (fr_a (fr_tr (fr_rf _ _) fs16 rfl) rfl)) 170 35 rfl rfl) (Z9_fr fs34 (fun _ => rfl) rfl)) ((show aFr m_rOpF537 st s34 from (fr_tr (fr_a (fr_tr (fr_rf _ _) fs16 rfl) rfl) fs34 rfl)) 170 35 rfl rfl) (Z9_fr fs35 (fun _ => rfl) rfl)) ((show aFr m_rOpF537 st s35 from (fr_tr (fr_tr (fr_a (fr_tr (fr_rf _ _) fs16 rfl) rfl) fs34 rfl) fs35 rfl)) 170 35 rfl rfl) (Z9_fr fs37 (fun _ => rfl) rfl)), (show 0 < s37 170 8 ∧ ((0 : Int) = 0 ∨ (0 : Int) = 1) from by omega)⟩
      · refine ⟨rfl, ⟨gs35, (show 1 ≤ (1) ∧ (1) ≤ 6 from by omega), (show -2147483648 ≤ (s35 170 4) ∧ (s35 170 4) ≤ 2147483647 from by omega)⟩, fun s38 q38 => ?_⟩
        obtain ⟨gs38, fs38, p38⟩ := q38
        change (s35 170 8 = 0 → s38 170 8 = (1)) ∧ (0 < s35 170 8 → s38 170 8 = s35 170 8) at p38
        have g140 := g_faultKind gs38
        refine ⟨fun h141 => ?_, fun h141 => absurd (by decide) h141⟩
        have e142 : s38 170 43 = s35 170 43 := fs38 170 43 rfl rfl
        refine ⟨rfl, ⟨gs38, (show s38 170 43 = 7 ∨ 0 < s38 170 8 from by omega)⟩, fun s39 q39 => ?_⟩
        obtain ⟨gs39, fs39, x39⟩ := q39
        change 0 < s39 170 8 at x39
        have g143 := g_faultKind gs39
        refine ⟨fun h144 => ?_, fun h144 => (by exfalso; omega)⟩
        refine ⟨by omega, ?_⟩
        exact hQ _ _ ⟨gs39, (fr_tr (fr_tr (fr_tr (fr_tr (fr_a (fr_tr (fr_rf _ _) fs16 rfl) rfl) fs34 rfl) fs35 rfl) fs38 rfl) fs39 rfl), (Z9_tr (Z9_tr (Z9_tr (Z9_tr (Z9_up (Z9_fr fs16 (fun _ => rfl) rfl) (by decide)) ((show aFr m_rOpF537 st (zup s16 194 ((s16 170 42) - 1 : Int).toNat 0) from (fr_a (fr_tr (fr_rf _ _) fs16 rfl) rfl)) 170 35 rfl rfl) (Z9_fr fs34 (fun _ => rfl) rfl)) ((show aFr m_rOpF537 st s34 from (fr_tr (fr_a (fr_tr (fr_rf _ _) fs16 rfl) rfl) fs34 rfl)) 170 35 rfl rfl) (Z9_fr fs35 (fun _ => rfl) rfl)) ((show aFr m_rOpF537 st s35 from (fr_tr (fr_tr (fr_a (fr_tr (fr_rf _ _) fs16 rfl) rfl) fs34 rfl) fs35 rfl)) 170 35 rfl rfl) (Z9_fr fs38 (fun _ => rfl) rfl)) ((show aFr m_rOpF537 st s38 from (fr_tr (fr_tr (fr_tr (fr_a (fr_tr (fr_rf _ _) fs16 rfl) rfl) fs34 rfl) fs35 rfl) fs38 rfl)) 170 35 rfl rfl) (Z9_fr fs39 (fun _ => rfl) rfl)), (show 0 < s39 170 8 ∧ ((0 : Int) = 0 ∨ (0 : Int) = 1) from by omega)⟩
    · refine ⟨fun h145 => absurd h145 (by decide), fun h145 => ?_⟩
      refine ⟨rfl, fun r40 q40 => ?_⟩
      have b40 := q40
      change (r40 = 0 ∨ r40 = 1) ∧ (r40 = 1 ↔ s16 170 3 = 1 ∧ s16 170 7 = (7237492)) at b40
      refine ⟨fun h146 => ?_, fun h146 => (by exfalso; clear hQ; omega)⟩
      clear h146 b40
      refine ⟨by omega, ?_⟩
      refine ⟨by omega, ?_⟩
      refine ⟨fun h147 => absurd h147 (by decide), fun h147 => ?_⟩
      refine ⟨rfl, fun r41 q41 => ?_⟩
      have b41 := q41
      change (r41 = 0 ∨ r41 = 1) ∧ (r41 = 1 ↔ s16 170 3 = 3 ∧ s16 170 6 = (91)) at b41
      refine ⟨fun h148 => ?_, fun h148 => (by exfalso; clear hQ; omega)⟩
      clear h148 b41
      refine ⟨fun h149 => absurd h149 (by decide), fun h149 => ?_⟩
      refine ⟨rfl, fun r42 q42 => ?_⟩
      have b42 := q42
      change (r42 = 0 ∨ r42 = 1) ∧ (r42 = 1 ↔ s16 170 3 = 1 ∧ s16 170 7 = (6384748)) at b42
      refine ⟨fun h150 => ?_, fun h150 => (by exfalso; clear hQ; omega)⟩
      clear h150 b42
      refine ⟨rfl, fun r43 q43 => ?_⟩
      have b43 := q43
      change (r43 = 0 ∨ r43 = 1) ∧ (r43 = 1 ↔ s16 170 3 = 3 ∧ s16 170 6 = (40)) at b43
      refine ⟨fun h151 => ?_, fun h151 => (by exfalso; clear hQ; omega)⟩
      clear h151 b43
      refine ⟨rfl, fun r44 q44 => ?_⟩
      have b44 := q44
      change (r44 = 0 ∨ r44 = 1) ∧ (r44 = 1 ↔ s16 170 3 = 1 ∧ s16 170 7 = (7170414)) at b44
      refine ⟨fun h152 => (by exfalso; clear hQ; omega), fun h152 => ?_⟩
      clear h152 b44
      refine ⟨rfl, fun r45 q45 => ?_⟩
      have b45 := q45
      change (r45 = 0 ∨ r45 = 1) ∧ (r45 = 1 ↔ s16 170 3 = 1 ∧ s16 170 7 = (7168376)) at b45
      refine ⟨fun h153 => ?_, fun h153 => (by exfalso; clear hQ; omega)⟩
      clear h153 b45
      refine ⟨rfl, fun r46 q46 => ?_⟩
      have b46 := q46
      change (r46 = 0 ∨ r46 = 1) ∧ (r46 = 1 ↔ s16 170 3 = 1 ∧ s16 170 7 = (7170414)) at b46
      refine ⟨fun h154 => ?_, fun h154 => (by exfalso; clear hQ; omega)⟩
      clear h154 b46
      refine ⟨rfl, fun r47 q47 => ?_⟩
      have b47 := q47
      change (r47 = 0 ∨ r47 = 1) ∧ (r47 = 1 ↔ s16 170 3 = 1 ∧ s16 170 7 = (7168376)) at b47
      refine ⟨fun h155 => (by exfalso; clear hQ; omega), fun h155 => ?_⟩
      clear h155 b47
      refine ⟨rfl, ⟨(gInv_up gs16 (p_begins (by omega))), (show RDr (zup s16 194 ((s16 170 42) - 1 : Int).toNat 0) t n from (show RDr (zup s16 194 ((s16 170 42) - 1 : Int).toNat 0) t n from (RDr_of (fs16 170 2 rfl rfl) (fun i => fs16 171 i rfl rfl) (fs16 170 3 rfl rfl) (fs16 170 4 rfl rfl) (fs16 170 5 rfl rfl) (fs16 170 6 rfl rfl) (fs16 170 7 rfl rfl) (fs16 170 12 rfl rfl) mrd))), (show s16 170 12 = -1 from by omega)⟩, fun s48 q48 => ?_⟩
      obtain ⟨gs48, fs48, rd48, nx48⟩ := q48
      change RDr s48 t n at rd48
      change NXr (zup s16 194 ((s16 170 42) - 1 : Int).toNat 0) s48 t n at nx48
      have hp1 : s48 170 4 = e := NXr_e (st := (zup s16 194 ((s16 170 42) - 1 : Int).toNat 0)) (show NXr (zup s16 194 ((s16 170 42) - 1 : Int).toNat 0) s48 t n from nx48) (show tk t n ((zup s16 194 ((s16 170 42) - 1 : Int).toNat 0) 170 4) _ _ e from by rw [show (zup s16 194 ((s16 170 42) - 1 : Int).toNat 0) 170 4 = p from (show s16 170 4 = p from by omega)]; exact ht.1) (by omega)
      have tf2 := RDr_rv rd48 (by rw [hp1]; exact ht.2.1)
      unfold RV at tf2
      have g156 := g_sign gs48
      have g157 := g_value gs48
      have g158 := g_word gs48
      have g159 := g_lexAt gs48
      have e160 : s48 170 8 = s16 170 8 := fs48 170 8 rfl rfl
      have g161 := g_signAt gs48
      have e162 : s48 170 43 = s16 170 43 := fs48 170 43 rfl rfl
      have e163 : s48 170 42 = s16 170 42 := fs48 170 42 rfl rfl
      have e164 : s48 170 45 = s16 170 45 := fs48 170 45 rfl rfl
      have g165 := g_signEnd gs48
      refine ⟨rfl, gs48, fun s49 q49 => ?_⟩
      obtain ⟨gs49, fs49, x49⟩ := q49
      change (s48 170 12 = -1 → s49 170 8 = s48 170 8) ∧ (¬ s48 170 12 = -1 → 0 < s49 170 8) ∧ (0 < s48 170 8 → 0 < s49 170 8) at x49
      have g166 := g_faultKind gs49
      have e167 : s49 170 3 = s48 170 3 := fs49 170 3 rfl rfl
      have e168 : s49 170 6 = s48 170 6 := fs49 170 6 rfl rfl
      have e169 : s49 170 7 = s48 170 7 := fs49 170 7 rfl rfl
      have e170 : s49 170 12 = s48 170 12 := fs49 170 12 rfl rfl
      have e171 : s49 170 4 = s48 170 4 := fs49 170 4 rfl rfl
      have e172 : s49 170 43 = s48 170 43 := fs49 170 43 rfl rfl
      have e173 : s49 170 42 = s48 170 42 := fs49 170 42 rfl rfl
      have e174 : s49 170 45 = s48 170 45 := fs49 170 45 rfl rfl
      have e175 : s49 170 5 = s48 170 5 := fs49 170 5 rfl rfl
      refine ⟨rfl, fun r50 q50 => ?_⟩
      have b50 := q50
      change (r50 = 0 ∨ r50 = 1) ∧ (r50 = 1 ↔ s49 170 3 = 3 ∧ s49 170 6 = (40)) at b50
      refine ⟨fun h176 => ?_, fun h176 => ?_⟩
      · refine ⟨fun h177 => ?_, fun h177 => absurd (by decide) h177⟩
        refine ⟨rfl, ⟨gs49, (show s49 170 43 = 7 ∨ 0 < s49 170 8 from by omega)⟩, fun s51 q51 => ?_⟩
        obtain ⟨gs51, fs51, x51⟩ := q51
        change 0 < s51 170 8 at x51
        have g178 := g_faultKind gs51
        refine ⟨fun h179 => ?_, fun h179 => (by exfalso; omega)⟩
        refine ⟨by omega, ?_⟩
        exact hQ _ _ ⟨gs51, (fr_tr (fr_tr (fr_tr (fr_a (fr_tr (fr_rf _ _) fs16 rfl) rfl) fs48 rfl) fs49 rfl) fs51 rfl), (Z9_tr (Z9_tr (Z9_tr (Z9_up (Z9_fr fs16 (fun _ => rfl) rfl) (by decide)) ((show aFr m_rOpF537 st (zup s16 194 ((s16 170 42) - 1 : Int).toNat 0) from (fr_a (fr_tr (fr_rf _ _) fs16 rfl) rfl)) 170 35 rfl rfl) (Z9_fr fs48 (fun _ => rfl) rfl)) ((show aFr m_rOpF537 st s48 from (fr_tr (fr_a (fr_tr (fr_rf _ _) fs16 rfl) rfl) fs48 rfl)) 170 35 rfl rfl) (Z9_fr fs49 (fun _ => rfl) rfl)) ((show aFr m_rOpF537 st s49 from (fr_tr (fr_tr (fr_a (fr_tr (fr_rf _ _) fs16 rfl) rfl) fs48 rfl) fs49 rfl)) 170 35 rfl rfl) (Z9_fr fs51 (fun _ => rfl) rfl)), (show 0 < s51 170 8 ∧ ((0 : Int) = 0 ∨ (0 : Int) = 1) from by omega)⟩
      · refine ⟨rfl, ⟨gs49, (show 1 ≤ (1) ∧ (1) ≤ 6 from by omega), (show -2147483648 ≤ (s49 170 4) ∧ (s49 170 4) ≤ 2147483647 from by omega)⟩, fun s52 q52 => ?_⟩
        obtain ⟨gs52, fs52, p52⟩ := q52
        change (s49 170 8 = 0 → s52 170 8 = (1)) ∧ (0 < s49 170 8 → s52 170 8 = s49 170 8) at p52
        have g180 := g_faultKind gs52
        refine ⟨fun h181 => ?_, fun h181 => absurd (by decide) h181⟩
        have e182 : s52 170 43 = s49 170 43 := fs52 170 43 rfl rfl
        refine ⟨rfl, ⟨gs52, (show s52 170 43 = 7 ∨ 0 < s52 170 8 from by omega)⟩, fun s53 q53 => ?_⟩
        obtain ⟨gs53, fs53, x53⟩ := q53
        change 0 < s53 170 8 at x53
        have g183 := g_faultKind gs53
        refine ⟨fun h184 => ?_, fun h184 => (by exfalso; omega)⟩
        refine ⟨by omega, ?_⟩
        exact hQ _ _ ⟨gs53, (fr_tr (fr_tr (fr_tr (fr_tr (fr_a (fr_tr (fr_rf _ _) fs16 rfl) rfl) fs48 rfl) fs49 rfl) fs52 rfl) fs53 rfl), (Z9_tr (Z9_tr (Z9_tr (Z9_tr (Z9_up (Z9_fr fs16 (fun _ => rfl) rfl) (by decide)) ((show aFr m_rOpF537 st (zup s16 194 ((s16 170 42) - 1 : Int).toNat 0) from (fr_a (fr_tr (fr_rf _ _) fs16 rfl) rfl)) 170 35 rfl rfl) (Z9_fr fs48 (fun _ => rfl) rfl)) ((show aFr m_rOpF537 st s48 from (fr_tr (fr_a (fr_tr (fr_rf _ _) fs16 rfl) rfl) fs48 rfl)) 170 35 rfl rfl) (Z9_fr fs49 (fun _ => rfl) rfl)) ((show aFr m_rOpF537 st s49 from (fr_tr (fr_tr (fr_a (fr_tr (fr_rf _ _) fs16 rfl) rfl) fs48 rfl) fs49 rfl)) 170 35 rfl rfl) (Z9_fr fs52 (fun _ => rfl) rfl)) ((show aFr m_rOpF537 st s52 from (fr_tr (fr_tr (fr_tr (fr_a (fr_tr (fr_rf _ _) fs16 rfl) rfl) fs48 rfl) fs49 rfl) fs52 rfl)) 170 35 rfl rfl) (Z9_fr fs53 (fun _ => rfl) rfl)), (show 0 < s53 170 8 ∧ ((0 : Int) = 0 ∨ (0 : Int) = 1) from by omega)⟩
theorem k_rOpF537_m (hTb : aTb zSh rx_tb cl) {t : Int → Int} {n k ph bg pr o p e : Int} {w c : List Int} {fs : List mFr} {kk v2 e1 : Int} {D : Nat} (hD : 3 ≤ D) : ∀ as st (Q Q' : zQ), (∀ r st', Q r st' → Q' r st') → (k_rOpF537 t n k ph bg pr o p e w c fs kk v2 e1) 196 as st Q → cl D 196 as st Q' := by
  intro as st Q Q' hQ h
  unfold k_rOpF537 at h
  split at h
  · obtain ⟨rfl, h⟩ := h
    exact c_rOpF537 hTb hD (ct_rOpF537_m hQ h)
  · exact h.elim
set_option maxHeartbeats 4000000 in
set_option maxRecDepth 100000 in
theorem c_rOpF544 (hTb : aTb zSh rx_tb cl) {t : Int → Int} {n k ph bg pr o p e : Int} {w c : List Int} {fs : List mFr} {kk v2 e1 : Int} {D : Nat} (hD : 3 ≤ D) {st : zS} {Q : zQ} (h : ct_rOpF544 t n k ph bg pr o p e w c fs kk v2 e1 st Q) : cl D 196 [.inr (.inr (.inl 170))] st Q := by
  obtain ⟨d, rfl⟩ : ∃ d, D = d + 1 := ⟨D - 1, by omega⟩
  refine hTb d 196 (rx_m196, 4, 0, 0, 2) rfl _ _ _ (Nat.le_of_ble_eq_true rfl) (fun K hcl hsf hsl => ?_)
  have hcm : zmo (wcL [(195, k_isTest), (183, k_isWord), (182, k_isSign), (178, k_blame), (194, k_rOpensF), (149, k_rNext t n), (181, k_rLexA)]) (cl d) := (wcL_m (wm_cons (k_isTest_m hTb (by omega)) (wm_cons (k_isWord_m hTb (by omega)) (wm_cons (k_isSign_m hTb (by omega)) (wm_cons (k_blame_m hTb (by omega)) (wm_cons (k_rOpensF_m hTb (by omega)) (wm_cons (k_rNext_m hTb (by omega)) (wm_cons (k_rLexA_m hTb (by omega)) wm_nil))))))))
  obtain ⟨hR, hQ⟩ := h
  obtain ⟨hG, mp, ht⟩ := hR
  change mcP t n st ((k, ph, bg, pr, w) :: fs) 0 (o) (c) (p) at mp
  change tk t n p 1 26982 e ∧ tk t n e kk v2 e1 ∧ (¬ (kk = 3 ∧ v2 = 40) ∨ 7 ≤ o) at ht
  obtain ⟨mf, mo, mn, mpp, mrd, mq, mbd, mz1, mz2, mz3⟩ := mp
  rw [List.length_cons] at mz3
  have mq0 := mq
  obtain ⟨mfr, mwb, mcd⟩ := mq
  have mt := FR_top mfr
  have mb := FR_bnd _ _ _ mwb mfr
  rw [List.length_cons] at mb
  have ml := WB_hd mwb
  have mcl := mcd.1
  have mlw := FR_len mb.2.1 mfr
  have tf := r_wrd mrd (by rw [mpp]; exact ht.1)
  have g1 := g_codes hG
  have g2 := g_in hG
  have g3 := g_isClever hG
  have g4 := g_deep hG
  have g5 := g_open hG
  have g6 := g_opMany hG
  have g7 := g_signAt hG
  have g8 := g_signEnd hG
  have g9 := g_faultKind hG
  have g10 := g_size hG
  have g11 := g_sign hG
  have g12 := g_lexAt hG
  have g13 := g_value hG
  have g14 := g_word hG
  have g15 := g_operand hG
  refine yr1_ok (Rt := Q) (wc := (wcL [(195, k_isTest), (183, k_isWord), (182, k_isSign), (178, k_blame), (194, k_rOpensF), (149, k_rNext t n), (181, k_rLexA)])) (stp := []) hcm hcl [] 400 ?_
  show (170 = 170 ∧ (rq_rLexA  st ∧ (∀ (s16 : zS), en_rLexA  st s16 → ((s16 170 8 ≤ (0 : Int) → ((-2147483648 ≤ (s16 170 42) - 1 ∧ (s16 170 42) - 1 ≤ 2147483647) ∧ ((0 ≤ (s16 170 42) - 1 ∧ (s16 170 42) - 1 < 20) ∧ (∀ (r17 : Int), en_isTest (s16 192 ((s16 170 42) - 1 : Int).toNat) s16 r17 → ((r17 = (0 : Int) → (((0 : Int) = (0 : Int) → ((0 ≤ (s16 170 42) - 1 ∧ (s16 170 42) - 1 < 20) ∧ ((0 = (0 : Int) ∨ 0 = (1 : Int)) ∧ (((0 : Int) = (0 : Int) → (((0 : Int) = (0 : Int) → (170 = 170 ∧ (∀ (r18 : Int), en_isSign (40) (zup s16 194 ((s16 170 42) - 1 : Int).toNat 0) r18 → ((r18 = (0 : Int) → (170 = 170 ∧ (∀ (r19 : Int), en_isWord (7170414) (zup s16 194 ((s16 170 42) - 1 : Int).toNat 0) r19 → ((¬ r19 = (0 : Int) → _) ∧ (¬ (¬ r19 = (0 : Int)) → (170 = 170 ∧ (∀ (r20 : Int), en_isWord (7168376) (zup s16 194 ((s16 170 42) - 1 : Int).toNat 0) r20 → ((¬ r20 = (0 : Int) → _) ∧ (¬ (¬ r20 = (0 : Int)) → (170 = 170 ∧ (∀ (r21 : Int), en_isWord (26982) (zup s16 194 ((s16 170 42) - 1 : Int).toNat 0) r21 → ((r21 = (0 : Int) → _) ∧ (¬ (r21 = (0 : Int)) → (170 = 170 ∧ (∀ (r22 : Int), en_isWord (7170414) (zup s16 194 ((s16 170 42) - 1 : Int).toNat 0) r22 → ((r22 = (0 : Int) → (170 = 170 ∧ (∀ (r23 : Int), en_isWord (7168376) (zup s16 194 ((s16 170 42) - 1 : Int).toNat 0) r23 → ((r23 = (0 : Int) → (170 = 170 ∧ (rq_rNext t n  (zup s16 194 ((s16 170 42) - 1 : Int).toNat 0) ∧ (∀ (s24 : zS), en_rNext t n  (zup s16 194 ((s16 170 42) - 1 : Int).toNat 0) s24 → (170 = 170 ∧ (rq_rLexA  s24 ∧ (∀ (s25 : zS), en_rLexA  s24 s25 → (170 = 170 ∧ (∀ (r26 : Int), en_isSign (40) s25 r26 → ((¬ r26 = (0 : Int) → ((¬ (44 : Int) = (44 : Int) → _) ∧ (¬ (¬ (44 : Int) = (44 : Int)) → (170 = 170 ∧ (rq_rOpensF (6) s25 ∧ (∀ (s27 : zS), en_rOpensF (6) s25 s27 → ((¬ s27 170 8 = (0 : Int) → ((0 = (0 : Int) ∨ 0 = (1 : Int)) ∧ Q (some (.inl 0)) s27)) ∧ (¬ (¬ s27 170 8 = (0 : Int)) → _)))))))) ∧ (¬ (¬ r26 = (0 : Int)) → (170 = 170 ∧ (rq_blame (1) (s25 170 4) s25 ∧ (∀ (s28 : zS), en_blame (1) (s25 170 4) s25 s28 → ((¬ (44 : Int) = (44 : Int) → _) ∧ (¬ (¬ (44 : Int) = (44 : Int)) → (170 = 170 ∧ (rq_rOpensF (6) s28 ∧ (∀ (s29 : zS), en_rOpensF (6) s28 s29 → ((¬ s29 170 8 = (0 : Int) → ((0 = (0 : Int) ∨ 0 = (1 : Int)) ∧ Q (some (.inl 0)) s29)) ∧ (¬ (¬ s29 170 8 = (0 : Int)) → _))))))))))))))))))))) ∧ (¬ (r23 = (0 : Int)) → _))))) ∧ (¬ (r22 = (0 : Int)) → _))))))))))))))))) ∧ (¬ (r18 = (0 : Int)) → _))))) ∧ (¬ ((0 : Int) = (0 : Int)) → _))) ∧ (¬ ((0 : Int) = (0 : Int)) → _))))) ∧ (¬ ((0 : Int) = (0 : Int)) → _))) ∧ (¬ (r17 = (0 : Int)) → ((0 ≤ (s16 170 42) - 1 ∧ (s16 170 42) - 1 < 20) ∧ ((s16 194 ((s16 170 42) - 1 : Int).toNat = (0 : Int) → (((0 : Int) = (0 : Int) → ((0 ≤ (s16 170 42) - 1 ∧ (s16 170 42) - 1 < 20) ∧ ((0 = (0 : Int) ∨ 0 = (1 : Int)) ∧ (((0 : Int) = (0 : Int) → (((0 : Int) = (0 : Int) → (170 = 170 ∧ (∀ (r30 : Int), en_isSign (40) (zup s16 194 ((s16 170 42) - 1 : Int).toNat 0) r30 → ((r30 = (0 : Int) → (170 = 170 ∧ (∀ (r31 : Int), en_isWord (7170414) (zup s16 194 ((s16 170 42) - 1 : Int).toNat 0) r31 → ((¬ r31 = (0 : Int) → _) ∧ (¬ (¬ r31 = (0 : Int)) → (170 = 170 ∧ (∀ (r32 : Int), en_isWord (7168376) (zup s16 194 ((s16 170 42) - 1 : Int).toNat 0) r32 → ((¬ r32 = (0 : Int) → _) ∧ (¬ (¬ r32 = (0 : Int)) → (170 = 170 ∧ (∀ (r33 : Int), en_isWord (26982) (zup s16 194 ((s16 170 42) - 1 : Int).toNat 0) r33 → ((r33 = (0 : Int) → _) ∧ (¬ (r33 = (0 : Int)) → (170 = 170 ∧ (∀ (r34 : Int), en_isWord (7170414) (zup s16 194 ((s16 170 42) - 1 : Int).toNat 0) r34 → ((r34 = (0 : Int) → (170 = 170 ∧ (∀ (r35 : Int), en_isWord (7168376) (zup s16 194 ((s16 170 42) - 1 : Int).toNat 0) r35 → ((r35 = (0 : Int) → (170 = 170 ∧ (rq_rNext t n  (zup s16 194 ((s16 170 42) - 1 : Int).toNat 0) ∧ (∀ (s36 : zS), en_rNext t n  (zup s16 194 ((s16 170 42) - 1 : Int).toNat 0) s36 → (170 = 170 ∧ (rq_rLexA  s36 ∧ (∀ (s37 : zS), en_rLexA  s36 s37 → (170 = 170 ∧ (∀ (r38 : Int), en_isSign (40) s37 r38 → ((¬ r38 = (0 : Int) → ((¬ (44 : Int) = (44 : Int) → _) ∧ (¬ (¬ (44 : Int) = (44 : Int)) → (170 = 170 ∧ (rq_rOpensF (6) s37 ∧ (∀ (s39 : zS), en_rOpensF (6) s37 s39 → ((¬ s39 170 8 = (0 : Int) → ((0 = (0 : Int) ∨ 0 = (1 : Int)) ∧ Q (some (.inl 0)) s39)) ∧ (¬ (¬ s39 170 8 = (0 : Int)) → _)))))))) ∧ (¬ (¬ r38 = (0 : Int)) → (170 = 170 ∧ (rq_blame (1) (s37 170 4) s37 ∧ (∀ (s40 : zS), en_blame (1) (s37 170 4) s37 s40 → ((¬ (44 : Int) = (44 : Int) → _) ∧ (¬ (¬ (44 : Int) = (44 : Int)) → (170 = 170 ∧ (rq_rOpensF (6) s40 ∧ (∀ (s41 : zS), en_rOpensF (6) s40 s41 → ((¬ s41 170 8 = (0 : Int) → ((0 = (0 : Int) ∨ 0 = (1 : Int)) ∧ Q (some (.inl 0)) s41)) ∧ (¬ (¬ s41 170 8 = (0 : Int)) → _))))))))))))))))))))) ∧ (¬ (r35 = (0 : Int)) → _))))) ∧ (¬ (r34 = (0 : Int)) → _))))))))))))))))) ∧ (¬ (r30 = (0 : Int)) → _))))) ∧ (¬ ((0 : Int) = (0 : Int)) → _))) ∧ (¬ ((0 : Int) = (0 : Int)) → _))))) ∧ (¬ ((0 : Int) = (0 : Int)) → _))) ∧ (¬ (s16 194 ((s16 170 42) - 1 : Int).toNat = (0 : Int)) → (((1 : Int) = (0 : Int) → _) ∧ (¬ ((1 : Int) = (0 : Int)) → (170 = 170 ∧ (∀ (r42 : Int), en_isWord (7237492) s16 r42 → ((r42 = (0 : Int) → ((0 ≤ (s16 170 42) - 1 ∧ (s16 170 42) - 1 < 20) ∧ ((0 = (0 : Int) ∨ 0 = (1 : Int)) ∧ (((1 : Int) = (0 : Int) → _) ∧ (¬ ((1 : Int) = (0 : Int)) → (170 = 170 ∧ (∀ (r43 : Int), en_isSign (91) (zup s16 194 ((s16 170 42) - 1 : Int).toNat 0) r43 → ((r43 = (0 : Int) → (((1 : Int) = (0 : Int) → _) ∧ (¬ ((1 : Int) = (0 : Int)) → (170 = 170 ∧ (∀ (r44 : Int), en_isWord (6384748) (zup s16 194 ((s16 170 42) - 1 : Int).toNat 0) r44 → ((r44 = (0 : Int) → (170 = 170 ∧ (∀ (r45 : Int), en_isSign (40) (zup s16 194 ((s16 170 42) - 1 : Int).toNat 0) r45 → ((r45 = (0 : Int) → (170 = 170 ∧ (∀ (r46 : Int), en_isWord (7170414) (zup s16 194 ((s16 170 42) - 1 : Int).toNat 0) r46 → ((¬ r46 = (0 : Int) → _) ∧ (¬ (¬ r46 = (0 : Int)) → (170 = 170 ∧ (∀ (r47 : Int), en_isWord (7168376) (zup s16 194 ((s16 170 42) - 1 : Int).toNat 0) r47 → ((¬ r47 = (0 : Int) → _) ∧ (¬ (¬ r47 = (0 : Int)) → (170 = 170 ∧ (∀ (r48 : Int), en_isWord (26982) (zup s16 194 ((s16 170 42) - 1 : Int).toNat 0) r48 → ((r48 = (0 : Int) → _) ∧ (¬ (r48 = (0 : Int)) → (170 = 170 ∧ (∀ (r49 : Int), en_isWord (7170414) (zup s16 194 ((s16 170 42) - 1 : Int).toNat 0) r49 → ((r49 = (0 : Int) → (170 = 170 ∧ (∀ (r50 : Int), en_isWord (7168376) (zup s16 194 ((s16 170 42) - 1 : Int).toNat 0) r50 → ((r50 = (0 : Int) → (170 = 170 ∧ (rq_rNext t n  (zup s16 194 ((s16 170 42) - 1 : Int).toNat 0) ∧ (∀ (s51 : zS), en_rNext t n  (zup s16 194 ((s16 170 42) - 1 : Int).toNat 0) s51 → (170 = 170 ∧ (rq_rLexA  s51 ∧ (∀ (s52 : zS), en_rLexA  s51 s52 → (170 = 170 ∧ (∀ (r53 : Int), en_isSign (40) s52 r53 → ((¬ r53 = (0 : Int) → ((¬ (44 : Int) = (44 : Int) → _) ∧ (¬ (¬ (44 : Int) = (44 : Int)) → (170 = 170 ∧ (rq_rOpensF (6) s52 ∧ (∀ (s54 : zS), en_rOpensF (6) s52 s54 → ((¬ s54 170 8 = (0 : Int) → ((0 = (0 : Int) ∨ 0 = (1 : Int)) ∧ Q (some (.inl 0)) s54)) ∧ (¬ (¬ s54 170 8 = (0 : Int)) → _)))))))) ∧ (¬ (¬ r53 = (0 : Int)) → (170 = 170 ∧ (rq_blame (1) (s52 170 4) s52 ∧ (∀ (s55 : zS), en_blame (1) (s52 170 4) s52 s55 → ((¬ (44 : Int) = (44 : Int) → _) ∧ (¬ (¬ (44 : Int) = (44 : Int)) → (170 = 170 ∧ (rq_rOpensF (6) s55 ∧ (∀ (s56 : zS), en_rOpensF (6) s55 s56 → ((¬ s56 170 8 = (0 : Int) → ((0 = (0 : Int) ∨ 0 = (1 : Int)) ∧ Q (some (.inl 0)) s56)) ∧ (¬ (¬ s56 170 8 = (0 : Int)) → _))))))))))))))))))))) ∧ (¬ (r50 = (0 : Int)) → _))))) ∧ (¬ (r49 = (0 : Int)) → _))))))))))))))))) ∧ (¬ (r45 = (0 : Int)) → _))))) ∧ (¬ (r44 = (0 : Int)) → _))))))) ∧ (¬ (r43 = (0 : Int)) → _))))))))) ∧ (¬ (r42 = (0 : Int)) → _))))))))))))))) ∧ (¬ (s16 170 8 ≤ (0 : Int)) → _)))))
  refine ⟨rfl, hG, fun s16 q16 => ?_⟩
  obtain ⟨gs16, fs16, x16⟩ := q16
  change (st 170 12 = -1 → s16 170 8 = st 170 8) ∧ (¬ st 170 12 = -1 → 0 < s16 170 8) ∧ (0 < st 170 8 → 0 < s16 170 8) at x16
  have g57 := g_faultKind gs16
  have e58 : s16 170 3 = st 170 3 := fs16 170 3 rfl rfl
  have e59 : s16 170 6 = st 170 6 := fs16 170 6 rfl rfl
  have e60 : s16 170 7 = st 170 7 := fs16 170 7 rfl rfl
  have e61 : s16 170 12 = st 170 12 := fs16 170 12 rfl rfl
  have e62 : s16 170 4 = st 170 4 := fs16 170 4 rfl rfl
  have e63 : s16 170 43 = st 170 43 := fs16 170 43 rfl rfl
  have e64 : s16 170 42 = st 170 42 := fs16 170 42 rfl rfl
  have e65 : s16 170 45 = st 170 45 := fs16 170 45 rfl rfl
  have e66 : s16 170 5 = st 170 5 := fs16 170 5 rfl rfl
  refine ⟨fun h67 => ?_, fun h67 => (by exfalso; omega)⟩
  refine ⟨by omega, ?_⟩
  have g69 := g_frame hG ((st 170 42) - 1 : Int).toNat
  have e68 : s16 192 ((s16 170 42) - 1 : Int).toNat = st 192 ((st 170 42) - 1 : Int).toNat := (fs16 192 ((s16 170 42) - 1 : Int).toNat rfl rfl).trans (by rw [e64] <;> rfl)
  refine ⟨by omega, ?_⟩
  refine fun r17 q17 => ?_
  have b17 := q17
  change (r17 = 0 ∨ r17 = 1) ∧ (r17 = 1 ↔ (s16 192 ((s16 170 42) - 1 : Int).toNat) = 1 ∨ (s16 192 ((s16 170 42) - 1 : Int).toNat) = 5 ∨ (s16 192 ((s16 170 42) - 1 : Int).toNat) = 6) at b17
  refine ⟨fun h70 => ?_, fun h70 => ?_⟩
  · refine ⟨fun h71 => ?_, fun h71 => absurd (by decide) h71⟩
    refine ⟨by omega, ?_⟩
    refine ⟨by omega, ?_⟩
    refine ⟨fun h72 => ?_, fun h72 => absurd (by decide) h72⟩
    refine ⟨fun h73 => ?_, fun h73 => absurd (by decide) h73⟩
    refine ⟨rfl, fun r18 q18 => ?_⟩
    have b18 := q18
    change (r18 = 0 ∨ r18 = 1) ∧ (r18 = 1 ↔ s16 170 3 = 3 ∧ s16 170 6 = (40)) at b18
    refine ⟨fun h74 => ?_, fun h74 => (by exfalso; clear hQ; omega)⟩
    clear h74 b18
    refine ⟨rfl, fun r19 q19 => ?_⟩
    have b19 := q19
    change (r19 = 0 ∨ r19 = 1) ∧ (r19 = 1 ↔ s16 170 3 = 1 ∧ s16 170 7 = (7170414)) at b19
    refine ⟨fun h75 => (by exfalso; clear hQ; omega), fun h75 => ?_⟩
    clear h75 b19
    refine ⟨rfl, fun r20 q20 => ?_⟩
    have b20 := q20
    change (r20 = 0 ∨ r20 = 1) ∧ (r20 = 1 ↔ s16 170 3 = 1 ∧ s16 170 7 = (7168376)) at b20
    refine ⟨fun h76 => (by exfalso; clear hQ; omega), fun h76 => ?_⟩
    clear h76 b20
    refine ⟨rfl, fun r21 q21 => ?_⟩
    have b21 := q21
    change (r21 = 0 ∨ r21 = 1) ∧ (r21 = 1 ↔ s16 170 3 = 1 ∧ s16 170 7 = (26982)) at b21
    refine ⟨fun h77 => (by exfalso; clear hQ; omega), fun h77 => ?_⟩
    clear h77 b21
    refine ⟨rfl, fun r22 q22 => ?_⟩
    have b22 := q22
    change (r22 = 0 ∨ r22 = 1) ∧ (r22 = 1 ↔ s16 170 3 = 1 ∧ s16 170 7 = (7170414)) at b22
    refine ⟨fun h78 => ?_, fun h78 => (by exfalso; clear hQ; omega)⟩
    clear h78 b22
    refine ⟨rfl, fun r23 q23 => ?_⟩
    have b23 := q23
    change (r23 = 0 ∨ r23 = 1) ∧ (r23 = 1 ↔ s16 170 3 = 1 ∧ s16 170 7 = (7168376)) at b23
    refine ⟨fun h79 => ?_, fun h79 => (by exfalso; clear hQ; omega)⟩
    clear h79 b23
    refine ⟨rfl, ⟨(gInv_up gs16 (p_begins (by omega))), (show RDr (zup s16 194 ((s16 170 42) - 1 : Int).toNat 0) t n from (show RDr (zup s16 194 ((s16 170 42) - 1 : Int).toNat 0) t n from (RDr_of (fs16 170 2 rfl rfl) (fun i => fs16 171 i rfl rfl) (fs16 170 3 rfl rfl) (fs16 170 4 rfl rfl) (fs16 170 5 rfl rfl) (fs16 170 6 rfl rfl) (fs16 170 7 rfl rfl) (fs16 170 12 rfl rfl) mrd))), (show s16 170 12 = -1 from by omega)⟩, fun s24 q24 => ?_⟩
    obtain ⟨gs24, fs24, rd24, nx24⟩ := q24
    change RDr s24 t n at rd24
    change NXr (zup s16 194 ((s16 170 42) - 1 : Int).toNat 0) s24 t n at nx24
    have hp1 : s24 170 4 = e := NXr_e (st := (zup s16 194 ((s16 170 42) - 1 : Int).toNat 0)) (show NXr (zup s16 194 ((s16 170 42) - 1 : Int).toNat 0) s24 t n from nx24) (show tk t n ((zup s16 194 ((s16 170 42) - 1 : Int).toNat 0) 170 4) _ _ e from by rw [show (zup s16 194 ((s16 170 42) - 1 : Int).toNat 0) 170 4 = p from (show s16 170 4 = p from by omega)]; exact ht.1) (by omega)
    have tf2 := RDr_rv rd24 (by rw [hp1]; exact ht.2.1)
    unfold RV at tf2
    have g80 := g_sign gs24
    have g81 := g_value gs24
    have g82 := g_word gs24
    have g83 := g_lexAt gs24
    have e84 : s24 170 8 = s16 170 8 := fs24 170 8 rfl rfl
    have g85 := g_signAt gs24
    have e86 : s24 170 43 = s16 170 43 := fs24 170 43 rfl rfl
    have e87 : s24 170 42 = s16 170 42 := fs24 170 42 rfl rfl
    have e88 : s24 170 45 = s16 170 45 := fs24 170 45 rfl rfl
    have g89 := g_signEnd gs24
    refine ⟨rfl, gs24, fun s25 q25 => ?_⟩
    obtain ⟨gs25, fs25, x25⟩ := q25
    change (s24 170 12 = -1 → s25 170 8 = s24 170 8) ∧ (¬ s24 170 12 = -1 → 0 < s25 170 8) ∧ (0 < s24 170 8 → 0 < s25 170 8) at x25
    have g90 := g_faultKind gs25
    have e91 : s25 170 3 = s24 170 3 := fs25 170 3 rfl rfl
    have e92 : s25 170 6 = s24 170 6 := fs25 170 6 rfl rfl
    have e93 : s25 170 7 = s24 170 7 := fs25 170 7 rfl rfl
    have e94 : s25 170 12 = s24 170 12 := fs25 170 12 rfl rfl
    have e95 : s25 170 4 = s24 170 4 := fs25 170 4 rfl rfl
    have e96 : s25 170 43 = s24 170 43 := fs25 170 43 rfl rfl
    have e97 : s25 170 42 = s24 170 42 := fs25 170 42 rfl rfl
    have e98 : s25 170 45 = s24 170 45 := fs25 170 45 rfl rfl
    have e99 : s25 170 5 = s24 170 5 := fs25 170 5 rfl rfl
    refine ⟨rfl, fun r26 q26 => ?_⟩
    have b26 := q26
    change (r26 = 0 ∨ r26 = 1) ∧ (r26 = 1 ↔ s25 170 3 = 3 ∧ s25 170 6 = (40)) at b26
    refine ⟨fun h100 => ?_, fun h100 => ?_⟩
    · refine ⟨fun h101 => absurd h101 (by decide), fun h101 => ?_⟩
      refine ⟨rfl, ⟨gs25, (show s25 170 43 = 7 ∨ 0 < s25 170 8 from by omega)⟩, fun s27 q27 => ?_⟩
      obtain ⟨gs27, fs27, x27⟩ := q27
      change 0 < s27 170 8 at x27
      have g102 := g_faultKind gs27
      refine ⟨fun h103 => ?_, fun h103 => (by exfalso; omega)⟩
      refine ⟨by omega, ?_⟩
      exact hQ _ _ ⟨gs27, (fr_tr (fr_tr (fr_tr (fr_a (fr_tr (fr_rf _ _) fs16 rfl) rfl) fs24 rfl) fs25 rfl) fs27 rfl), (Z9_tr (Z9_tr (Z9_tr (Z9_up (Z9_fr fs16 (fun _ => rfl) rfl) (by decide)) ((show aFr m_rOpF544 st (zup s16 194 ((s16 170 42) - 1 : Int).toNat 0) from (fr_a (fr_tr (fr_rf _ _) fs16 rfl) rfl)) 170 35 rfl rfl) (Z9_fr fs24 (fun _ => rfl) rfl)) ((show aFr m_rOpF544 st s24 from (fr_tr (fr_a (fr_tr (fr_rf _ _) fs16 rfl) rfl) fs24 rfl)) 170 35 rfl rfl) (Z9_fr fs25 (fun _ => rfl) rfl)) ((show aFr m_rOpF544 st s25 from (fr_tr (fr_tr (fr_a (fr_tr (fr_rf _ _) fs16 rfl) rfl) fs24 rfl) fs25 rfl)) 170 35 rfl rfl) (Z9_fr fs27 (fun _ => rfl) rfl)), (show 0 < s27 170 8 ∧ ((0 : Int) = 0 ∨ (0 : Int) = 1) from by omega)⟩
    · refine ⟨rfl, ⟨gs25, (show 1 ≤ (1) ∧ (1) ≤ 6 from by omega), (show -2147483648 ≤ (s25 170 4) ∧ (s25 170 4) ≤ 2147483647 from by omega)⟩, fun s28 q28 => ?_⟩
      obtain ⟨gs28, fs28, p28⟩ := q28
      change (s25 170 8 = 0 → s28 170 8 = (1)) ∧ (0 < s25 170 8 → s28 170 8 = s25 170 8) at p28
      have g104 := g_faultKind gs28
      refine ⟨fun h105 => absurd h105 (by decide), fun h105 => ?_⟩
      have e106 : s28 170 43 = s25 170 43 := fs28 170 43 rfl rfl
      refine ⟨rfl, ⟨gs28, (show s28 170 43 = 7 ∨ 0 < s28 170 8 from by omega)⟩, fun s29 q29 => ?_⟩
      obtain ⟨gs29, fs29, x29⟩ := q29
      change 0 < s29 170 8 at x29
      have g107 := g_faultKind gs29
      refine ⟨fun h108 => ?_, fun h108 => (by exfalso; omega)⟩
      refine ⟨by omega, ?_⟩
      exact hQ _ _ ⟨gs29, (fr_tr (fr_tr (fr_tr (fr_tr (fr_a (fr_tr (fr_rf _ _) fs16 rfl) rfl) fs24 rfl) fs25 rfl) fs28 rfl) fs29 rfl), (Z9_tr (Z9_tr (Z9_tr (Z9_tr (Z9_up (Z9_fr fs16 (fun _ => rfl) rfl) (by decide)) ((show aFr m_rOpF544 st (zup s16 194 ((s16 170 42) - 1 : Int).toNat 0) from (fr_a (fr_tr (fr_rf _ _) fs16 rfl) rfl)) 170 35 rfl rfl) (Z9_fr fs24 (fun _ => rfl) rfl)) ((show aFr m_rOpF544 st s24 from (fr_tr (fr_a (fr_tr (fr_rf _ _) fs16 rfl) rfl) fs24 rfl)) 170 35 rfl rfl) (Z9_fr fs25 (fun _ => rfl) rfl)) ((show aFr m_rOpF544 st s25 from (fr_tr (fr_tr (fr_a (fr_tr (fr_rf _ _) fs16 rfl) rfl) fs24 rfl) fs25 rfl)) 170 35 rfl rfl) (Z9_fr fs28 (fun _ => rfl) rfl)) ((show aFr m_rOpF544 st s28 from (fr_tr (fr_tr (fr_tr (fr_a (fr_tr (fr_rf _ _) fs16 rfl) rfl) fs24 rfl) fs25 rfl) fs28 rfl)) 170 35 rfl rfl) (Z9_fr fs29 (fun _ => rfl) rfl)), (show 0 < s29 170 8 ∧ ((0 : Int) = 0 ∨ (0 : Int) = 1) from by omega)⟩
  · have g110 := g_begins hG ((st 170 42) - 1 : Int).toNat
    have e109 : s16 194 ((s16 170 42) - 1 : Int).toNat = st 194 ((st 170 42) - 1 : Int).toNat := (fs16 194 ((s16 170 42) - 1 : Int).toNat rfl rfl).trans (by rw [e64] <;> rfl)
    refine ⟨by omega, ?_⟩
    refine ⟨fun h111 => ?_, fun h111 => ?_⟩
    · refine ⟨fun h112 => ?_, fun h112 => absurd (by decide) h112⟩
      refine ⟨by omega, ?_⟩
      refine ⟨by omega, ?_⟩
      refine ⟨fun h113 => ?_, fun h113 => absurd (by decide) h113⟩
      refine ⟨fun h114 => ?_, fun h114 => absurd (by decide) h114⟩
      refine ⟨rfl, fun r30 q30 => ?_⟩
      have b30 := q30
      change (r30 = 0 ∨ r30 = 1) ∧ (r30 = 1 ↔ s16 170 3 = 3 ∧ s16 170 6 = (40)) at b30
      refine ⟨fun h115 => ?_, fun h115 => (by exfalso; clear hQ; omega)⟩
      clear h115 b30
      refine ⟨rfl, fun r31 q31 => ?_⟩
      have b31 := q31
      change (r31 = 0 ∨ r31 = 1) ∧ (r31 = 1 ↔ s16 170 3 = 1 ∧ s16 170 7 = (7170414)) at b31
      refine ⟨fun h116 => (by exfalso; clear hQ; omega), fun h116 => ?_⟩
      clear h116 b31
      refine ⟨rfl, fun r32 q32 => ?_⟩
      have b32 := q32
      change (r32 = 0 ∨ r32 = 1) ∧ (r32 = 1 ↔ s16 170 3 = 1 ∧ s16 170 7 = (7168376)) at b32
      refine ⟨fun h117 => (by exfalso; clear hQ; omega), fun h117 => ?_⟩
      clear h117 b32
      refine ⟨rfl, fun r33 q33 => ?_⟩
      have b33 := q33
      change (r33 = 0 ∨ r33 = 1) ∧ (r33 = 1 ↔ s16 170 3 = 1 ∧ s16 170 7 = (26982)) at b33
      refine ⟨fun h118 => (by exfalso; clear hQ; omega), fun h118 => ?_⟩
      clear h118 b33
      refine ⟨rfl, fun r34 q34 => ?_⟩
      have b34 := q34
      change (r34 = 0 ∨ r34 = 1) ∧ (r34 = 1 ↔ s16 170 3 = 1 ∧ s16 170 7 = (7170414)) at b34
      refine ⟨fun h119 => ?_, fun h119 => (by exfalso; clear hQ; omega)⟩
      clear h119 b34
      refine ⟨rfl, fun r35 q35 => ?_⟩
      have b35 := q35
      change (r35 = 0 ∨ r35 = 1) ∧ (r35 = 1 ↔ s16 170 3 = 1 ∧ s16 170 7 = (7168376)) at b35
      refine ⟨fun h120 => ?_, fun h120 => (by exfalso; clear hQ; omega)⟩
      clear h120 b35
      refine ⟨rfl, ⟨(gInv_up gs16 (p_begins (by omega))), (show RDr (zup s16 194 ((s16 170 42) - 1 : Int).toNat 0) t n from (show RDr (zup s16 194 ((s16 170 42) - 1 : Int).toNat 0) t n from (RDr_of (fs16 170 2 rfl rfl) (fun i => fs16 171 i rfl rfl) (fs16 170 3 rfl rfl) (fs16 170 4 rfl rfl) (fs16 170 5 rfl rfl) (fs16 170 6 rfl rfl) (fs16 170 7 rfl rfl) (fs16 170 12 rfl rfl) mrd))), (show s16 170 12 = -1 from by omega)⟩, fun s36 q36 => ?_⟩
      obtain ⟨gs36, fs36, rd36, nx36⟩ := q36
      change RDr s36 t n at rd36
      change NXr (zup s16 194 ((s16 170 42) - 1 : Int).toNat 0) s36 t n at nx36
      have hp1 : s36 170 4 = e := NXr_e (st := (zup s16 194 ((s16 170 42) - 1 : Int).toNat 0)) (show NXr (zup s16 194 ((s16 170 42) - 1 : Int).toNat 0) s36 t n from nx36) (show tk t n ((zup s16 194 ((s16 170 42) - 1 : Int).toNat 0) 170 4) _ _ e from by rw [show (zup s16 194 ((s16 170 42) - 1 : Int).toNat 0) 170 4 = p from (show s16 170 4 = p from by omega)]; exact ht.1) (by omega)
      have tf2 := RDr_rv rd36 (by rw [hp1]; exact ht.2.1)
      unfold RV at tf2
      have g121 := g_sign gs36
      have g122 := g_value gs36
      have g123 := g_word gs36
      have g124 := g_lexAt gs36
      have e125 : s36 170 8 = s16 170 8 := fs36 170 8 rfl rfl
      have g126 := g_signAt gs36
      have e127 : s36 170 43 = s16 170 43 := fs36 170 43 rfl rfl
      have e128 : s36 170 42 = s16 170 42 := fs36 170 42 rfl rfl
      have e129 : s36 170 45 = s16 170 45 := fs36 170 45 rfl rfl
      have g130 := g_signEnd gs36
      refine ⟨rfl, gs36, fun s37 q37 => ?_⟩
      obtain ⟨gs37, fs37, x37⟩ := q37
      change (s36 170 12 = -1 → s37 170 8 = s36 170 8) ∧ (¬ s36 170 12 = -1 → 0 < s37 170 8) ∧ (0 < s36 170 8 → 0 < s37 170 8) at x37
      have g131 := g_faultKind gs37
      have e132 : s37 170 3 = s36 170 3 := fs37 170 3 rfl rfl
      have e133 : s37 170 6 = s36 170 6 := fs37 170 6 rfl rfl
      have e134 : s37 170 7 = s36 170 7 := fs37 170 7 rfl rfl
      have e135 : s37 170 12 = s36 170 12 := fs37 170 12 rfl rfl
      have e136 : s37 170 4 = s36 170 4 := fs37 170 4 rfl rfl
      have e137 : s37 170 43 = s36 170 43 := fs37 170 43 rfl rfl
      have e138 : s37 170 42 = s36 170 42 := fs37 170 42 rfl rfl
      have e139 : s37 170 45 = s36 170 45 := fs37 170 45 rfl rfl
      have e140 : s37 170 5 = s36 170 5 := fs37 170 5 rfl rfl
      refine ⟨rfl, fun r38 q38 => ?_⟩
      have b38 := q38
      change (r38 = 0 ∨ r38 = 1) ∧ (r38 = 1 ↔ s37 170 3 = 3 ∧ s37 170 6 = (40)) at b38
      refine ⟨fun h141 => ?_, fun h141 => ?_⟩
      · refine ⟨fun h142 => absurd h142 (by decide), fun h142 => ?_⟩
        refine ⟨rfl, ⟨gs37, (show s37 170 43 = 7 ∨ 0 < s37 170 8 from by omega)⟩, fun s39 q39 => ?_⟩
        obtain ⟨gs39, fs39, x39⟩ := q39
        change 0 < s39 170 8 at x39
        have g143 := g_faultKind gs39
        refine ⟨fun h144 => ?_, fun h144 => (by exfalso; omega)⟩
        refine ⟨by omega, ?_⟩
        exact hQ _ _ ⟨gs39, (fr_tr (fr_tr (fr_tr (fr_a (fr_tr (fr_rf _ _) fs16 rfl) rfl) fs36 rfl) fs37 rfl) fs39 rfl), (Z9_tr (Z9_tr (Z9_tr (Z9_up (Z9_fr fs16 (fun _ => rfl) rfl) (by decide)) ((show aFr m_rOpF544 st (zup s16 194 ((s16 170 42) - 1 : Int).toNat 0) from (fr_a (fr_tr (fr_rf _ _) fs16 rfl) rfl)) 170 35 rfl rfl) (Z9_fr fs36 (fun _ => rfl) rfl)) ((show aFr m_rOpF544 st s36 from (fr_tr (fr_a (fr_tr (fr_rf _ _) fs16 rfl) rfl) fs36 rfl)) 170 35 rfl rfl) (Z9_fr fs37 (fun _ => rfl) rfl)) ((show aFr m_rOpF544 st s37 from (fr_tr (fr_tr (fr_a (fr_tr (fr_rf _ _) fs16 rfl) rfl) fs36 rfl) fs37 rfl)) 170 35 rfl rfl) (Z9_fr fs39 (fun _ => rfl) rfl)), (show 0 < s39 170 8 ∧ ((0 : Int) = 0 ∨ (0 : Int) = 1) from by omega)⟩
      · refine ⟨rfl, ⟨gs37, (show 1 ≤ (1) ∧ (1) ≤ 6 from by omega), (show -2147483648 ≤ (s37 170 4) ∧ (s37 170 4) ≤ 2147483647 from by omega)⟩, fun s40 q40 => ?_⟩
        obtain ⟨gs40, fs40, p40⟩ := q40
        change (s37 170 8 = 0 → s40 170 8 = (1)) ∧ (0 < s37 170 8 → s40 170 8 = s37 170 8) at p40
        have g145 := g_faultKind gs40
        refine ⟨fun h146 => absurd h146 (by decide), fun h146 => ?_⟩
        have e147 : s40 170 43 = s37 170 43 := fs40 170 43 rfl rfl
        refine ⟨rfl, ⟨gs40, (show s40 170 43 = 7 ∨ 0 < s40 170 8 from by omega)⟩, fun s41 q41 => ?_⟩
        obtain ⟨gs41, fs41, x41⟩ := q41
        change 0 < s41 170 8 at x41
        have g148 := g_faultKind gs41
        refine ⟨fun h149 => ?_, fun h149 => (by exfalso; omega)⟩
        refine ⟨by omega, ?_⟩
        exact hQ _ _ ⟨gs41, (fr_tr (fr_tr (fr_tr (fr_tr (fr_a (fr_tr (fr_rf _ _) fs16 rfl) rfl) fs36 rfl) fs37 rfl) fs40 rfl) fs41 rfl), (Z9_tr (Z9_tr (Z9_tr (Z9_tr (Z9_up (Z9_fr fs16 (fun _ => rfl) rfl) (by decide)) ((show aFr m_rOpF544 st (zup s16 194 ((s16 170 42) - 1 : Int).toNat 0) from (fr_a (fr_tr (fr_rf _ _) fs16 rfl) rfl)) 170 35 rfl rfl) (Z9_fr fs36 (fun _ => rfl) rfl)) ((show aFr m_rOpF544 st s36 from (fr_tr (fr_a (fr_tr (fr_rf _ _) fs16 rfl) rfl) fs36 rfl)) 170 35 rfl rfl) (Z9_fr fs37 (fun _ => rfl) rfl)) ((show aFr m_rOpF544 st s37 from (fr_tr (fr_tr (fr_a (fr_tr (fr_rf _ _) fs16 rfl) rfl) fs36 rfl) fs37 rfl)) 170 35 rfl rfl) (Z9_fr fs40 (fun _ => rfl) rfl)) ((show aFr m_rOpF544 st s40 from (fr_tr (fr_tr (fr_tr (fr_a (fr_tr (fr_rf _ _) fs16 rfl) rfl) fs36 rfl) fs37 rfl) fs40 rfl)) 170 35 rfl rfl) (Z9_fr fs41 (fun _ => rfl) rfl)), (show 0 < s41 170 8 ∧ ((0 : Int) = 0 ∨ (0 : Int) = 1) from by omega)⟩
    · refine ⟨fun h150 => absurd h150 (by decide), fun h150 => ?_⟩
      refine ⟨rfl, fun r42 q42 => ?_⟩
      have b42 := q42
      change (r42 = 0 ∨ r42 = 1) ∧ (r42 = 1 ↔ s16 170 3 = 1 ∧ s16 170 7 = (7237492)) at b42
      refine ⟨fun h151 => ?_, fun h151 => (by exfalso; clear hQ; omega)⟩
      clear h151 b42
      refine ⟨by omega, ?_⟩
      refine ⟨by omega, ?_⟩
      refine ⟨fun h152 => absurd h152 (by decide), fun h152 => ?_⟩
      refine ⟨rfl, fun r43 q43 => ?_⟩
      have b43 := q43
      change (r43 = 0 ∨ r43 = 1) ∧ (r43 = 1 ↔ s16 170 3 = 3 ∧ s16 170 6 = (91)) at b43
      refine ⟨fun h153 => ?_, fun h153 => (by exfalso; clear hQ; omega)⟩
      clear h153 b43
      refine ⟨fun h154 => absurd h154 (by decide), fun h154 => ?_⟩
      refine ⟨rfl, fun r44 q44 => ?_⟩
      have b44 := q44
      change (r44 = 0 ∨ r44 = 1) ∧ (r44 = 1 ↔ s16 170 3 = 1 ∧ s16 170 7 = (6384748)) at b44
      refine ⟨fun h155 => ?_, fun h155 => (by exfalso; clear hQ; omega)⟩
      clear h155 b44
      refine ⟨rfl, fun r45 q45 => ?_⟩
      have b45 := q45
      change (r45 = 0 ∨ r45 = 1) ∧ (r45 = 1 ↔ s16 170 3 = 3 ∧ s16 170 6 = (40)) at b45
      refine ⟨fun h156 => ?_, fun h156 => (by exfalso; clear hQ; omega)⟩
      clear h156 b45
      refine ⟨rfl, fun r46 q46 => ?_⟩
      have b46 := q46
      change (r46 = 0 ∨ r46 = 1) ∧ (r46 = 1 ↔ s16 170 3 = 1 ∧ s16 170 7 = (7170414)) at b46
      refine ⟨fun h157 => (by exfalso; clear hQ; omega), fun h157 => ?_⟩
      clear h157 b46
      refine ⟨rfl, fun r47 q47 => ?_⟩
      have b47 := q47
      change (r47 = 0 ∨ r47 = 1) ∧ (r47 = 1 ↔ s16 170 3 = 1 ∧ s16 170 7 = (7168376)) at b47
      refine ⟨fun h158 => (by exfalso; clear hQ; omega), fun h158 => ?_⟩
      clear h158 b47
      refine ⟨rfl, fun r48 q48 => ?_⟩
      have b48 := q48
      change (r48 = 0 ∨ r48 = 1) ∧ (r48 = 1 ↔ s16 170 3 = 1 ∧ s16 170 7 = (26982)) at b48
      refine ⟨fun h159 => (by exfalso; clear hQ; omega), fun h159 => ?_⟩
      clear h159 b48
      refine ⟨rfl, fun r49 q49 => ?_⟩
      have b49 := q49
      change (r49 = 0 ∨ r49 = 1) ∧ (r49 = 1 ↔ s16 170 3 = 1 ∧ s16 170 7 = (7170414)) at b49
      refine ⟨fun h160 => ?_, fun h160 => (by exfalso; clear hQ; omega)⟩
      clear h160 b49
      refine ⟨rfl, fun r50 q50 => ?_⟩
      have b50 := q50
      change (r50 = 0 ∨ r50 = 1) ∧ (r50 = 1 ↔ s16 170 3 = 1 ∧ s16 170 7 = (7168376)) at b50
      refine ⟨fun h161 => ?_, fun h161 => (by exfalso; clear hQ; omega)⟩
      clear h161 b50
      refine ⟨rfl, ⟨(gInv_up gs16 (p_begins (by omega))), (show RDr (zup s16 194 ((s16 170 42) - 1 : Int).toNat 0) t n from (show RDr (zup s16 194 ((s16 170 42) - 1 : Int).toNat 0) t n from (RDr_of (fs16 170 2 rfl rfl) (fun i => fs16 171 i rfl rfl) (fs16 170 3 rfl rfl) (fs16 170 4 rfl rfl) (fs16 170 5 rfl rfl) (fs16 170 6 rfl rfl) (fs16 170 7 rfl rfl) (fs16 170 12 rfl rfl) mrd))), (show s16 170 12 = -1 from by omega)⟩, fun s51 q51 => ?_⟩
      obtain ⟨gs51, fs51, rd51, nx51⟩ := q51
      change RDr s51 t n at rd51
      change NXr (zup s16 194 ((s16 170 42) - 1 : Int).toNat 0) s51 t n at nx51
      have hp1 : s51 170 4 = e := NXr_e (st := (zup s16 194 ((s16 170 42) - 1 : Int).toNat 0)) (show NXr (zup s16 194 ((s16 170 42) - 1 : Int).toNat 0) s51 t n from nx51) (show tk t n ((zup s16 194 ((s16 170 42) - 1 : Int).toNat 0) 170 4) _ _ e from by rw [show (zup s16 194 ((s16 170 42) - 1 : Int).toNat 0) 170 4 = p from (show s16 170 4 = p from by omega)]; exact ht.1) (by omega)
      have tf2 := RDr_rv rd51 (by rw [hp1]; exact ht.2.1)
      unfold RV at tf2
      have g162 := g_sign gs51
      have g163 := g_value gs51
      have g164 := g_word gs51
      have g165 := g_lexAt gs51
      have e166 : s51 170 8 = s16 170 8 := fs51 170 8 rfl rfl
      have g167 := g_signAt gs51
      have e168 : s51 170 43 = s16 170 43 := fs51 170 43 rfl rfl
      have e169 : s51 170 42 = s16 170 42 := fs51 170 42 rfl rfl
      have e170 : s51 170 45 = s16 170 45 := fs51 170 45 rfl rfl
      have g171 := g_signEnd gs51
      refine ⟨rfl, gs51, fun s52 q52 => ?_⟩
      obtain ⟨gs52, fs52, x52⟩ := q52
      change (s51 170 12 = -1 → s52 170 8 = s51 170 8) ∧ (¬ s51 170 12 = -1 → 0 < s52 170 8) ∧ (0 < s51 170 8 → 0 < s52 170 8) at x52
      have g172 := g_faultKind gs52
      have e173 : s52 170 3 = s51 170 3 := fs52 170 3 rfl rfl
      have e174 : s52 170 6 = s51 170 6 := fs52 170 6 rfl rfl
      have e175 : s52 170 7 = s51 170 7 := fs52 170 7 rfl rfl
      have e176 : s52 170 12 = s51 170 12 := fs52 170 12 rfl rfl
      have e177 : s52 170 4 = s51 170 4 := fs52 170 4 rfl rfl
      have e178 : s52 170 43 = s51 170 43 := fs52 170 43 rfl rfl
      have e179 : s52 170 42 = s51 170 42 := fs52 170 42 rfl rfl
      have e180 : s52 170 45 = s51 170 45 := fs52 170 45 rfl rfl
      have e181 : s52 170 5 = s51 170 5 := fs52 170 5 rfl rfl
      refine ⟨rfl, fun r53 q53 => ?_⟩
      have b53 := q53
      change (r53 = 0 ∨ r53 = 1) ∧ (r53 = 1 ↔ s52 170 3 = 3 ∧ s52 170 6 = (40)) at b53
      refine ⟨fun h182 => ?_, fun h182 => ?_⟩
      · refine ⟨fun h183 => absurd h183 (by decide), fun h183 => ?_⟩
        refine ⟨rfl, ⟨gs52, (show s52 170 43 = 7 ∨ 0 < s52 170 8 from by omega)⟩, fun s54 q54 => ?_⟩
        obtain ⟨gs54, fs54, x54⟩ := q54
        change 0 < s54 170 8 at x54
        have g184 := g_faultKind gs54
        refine ⟨fun h185 => ?_, fun h185 => (by exfalso; omega)⟩
        refine ⟨by omega, ?_⟩
        exact hQ _ _ ⟨gs54, (fr_tr (fr_tr (fr_tr (fr_a (fr_tr (fr_rf _ _) fs16 rfl) rfl) fs51 rfl) fs52 rfl) fs54 rfl), (Z9_tr (Z9_tr (Z9_tr (Z9_up (Z9_fr fs16 (fun _ => rfl) rfl) (by decide)) ((show aFr m_rOpF544 st (zup s16 194 ((s16 170 42) - 1 : Int).toNat 0) from (fr_a (fr_tr (fr_rf _ _) fs16 rfl) rfl)) 170 35 rfl rfl) (Z9_fr fs51 (fun _ => rfl) rfl)) ((show aFr m_rOpF544 st s51 from (fr_tr (fr_a (fr_tr (fr_rf _ _) fs16 rfl) rfl) fs51 rfl)) 170 35 rfl rfl) (Z9_fr fs52 (fun _ => rfl) rfl)) ((show aFr m_rOpF544 st s52 from (fr_tr (fr_tr (fr_a (fr_tr (fr_rf _ _) fs16 rfl) rfl) fs51 rfl) fs52 rfl)) 170 35 rfl rfl) (Z9_fr fs54 (fun _ => rfl) rfl)), (show 0 < s54 170 8 ∧ ((0 : Int) = 0 ∨ (0 : Int) = 1) from by omega)⟩
      · refine ⟨rfl, ⟨gs52, (show 1 ≤ (1) ∧ (1) ≤ 6 from by omega), (show -2147483648 ≤ (s52 170 4) ∧ (s52 170 4) ≤ 2147483647 from by omega)⟩, fun s55 q55 => ?_⟩
        obtain ⟨gs55, fs55, p55⟩ := q55
        change (s52 170 8 = 0 → s55 170 8 = (1)) ∧ (0 < s52 170 8 → s55 170 8 = s52 170 8) at p55
        have g186 := g_faultKind gs55
        refine ⟨fun h187 => absurd h187 (by decide), fun h187 => ?_⟩
        have e188 : s55 170 43 = s52 170 43 := fs55 170 43 rfl rfl
        refine ⟨rfl, ⟨gs55, (show s55 170 43 = 7 ∨ 0 < s55 170 8 from by omega)⟩, fun s56 q56 => ?_⟩
        obtain ⟨gs56, fs56, x56⟩ := q56
        change 0 < s56 170 8 at x56
        have g189 := g_faultKind gs56
        refine ⟨fun h190 => ?_, fun h190 => (by exfalso; omega)⟩
        refine ⟨by omega, ?_⟩
        exact hQ _ _ ⟨gs56, (fr_tr (fr_tr (fr_tr (fr_tr (fr_a (fr_tr (fr_rf _ _) fs16 rfl) rfl) fs51 rfl) fs52 rfl) fs55 rfl) fs56 rfl), (Z9_tr (Z9_tr (Z9_tr (Z9_tr (Z9_up (Z9_fr fs16 (fun _ => rfl) rfl) (by decide)) ((show aFr m_rOpF544 st (zup s16 194 ((s16 170 42) - 1 : Int).toNat 0) from (fr_a (fr_tr (fr_rf _ _) fs16 rfl) rfl)) 170 35 rfl rfl) (Z9_fr fs51 (fun _ => rfl) rfl)) ((show aFr m_rOpF544 st s51 from (fr_tr (fr_a (fr_tr (fr_rf _ _) fs16 rfl) rfl) fs51 rfl)) 170 35 rfl rfl) (Z9_fr fs52 (fun _ => rfl) rfl)) ((show aFr m_rOpF544 st s52 from (fr_tr (fr_tr (fr_a (fr_tr (fr_rf _ _) fs16 rfl) rfl) fs51 rfl) fs52 rfl)) 170 35 rfl rfl) (Z9_fr fs55 (fun _ => rfl) rfl)) ((show aFr m_rOpF544 st s55 from (fr_tr (fr_tr (fr_tr (fr_a (fr_tr (fr_rf _ _) fs16 rfl) rfl) fs51 rfl) fs52 rfl) fs55 rfl)) 170 35 rfl rfl) (Z9_fr fs56 (fun _ => rfl) rfl)), (show 0 < s56 170 8 ∧ ((0 : Int) = 0 ∨ (0 : Int) = 1) from by omega)⟩
theorem k_rOpF544_m (hTb : aTb zSh rx_tb cl) {t : Int → Int} {n k ph bg pr o p e : Int} {w c : List Int} {fs : List mFr} {kk v2 e1 : Int} {D : Nat} (hD : 3 ≤ D) : ∀ as st (Q Q' : zQ), (∀ r st', Q r st' → Q' r st') → (k_rOpF544 t n k ph bg pr o p e w c fs kk v2 e1) 196 as st Q → cl D 196 as st Q' := by
  intro as st Q Q' hQ h
  unfold k_rOpF544 at h
  split at h
  · obtain ⟨rfl, h⟩ := h
    exact c_rOpF544 hTb hD (ct_rOpF544_m hQ h)
  · exact h.elim
set_option maxHeartbeats 4000000 in
set_option maxRecDepth 100000 in
theorem c_rOpF8a (hTb : aTb zSh rx_tb cl) {t : Int → Int} {n k ph bg pr o p e : Int} {w c : List Int} {fs : List mFr} {kk v : Int} {D : Nat} (hD : 3 ≤ D) {st : zS} {Q : zQ} (h : ct_rOpF8a t n k ph bg pr o p e w c fs kk v st Q) : cl D 196 [.inr (.inr (.inl 170))] st Q := by
  obtain ⟨d, rfl⟩ : ∃ d, D = d + 1 := ⟨D - 1, by omega⟩
  refine hTb d 196 (rx_m196, 4, 0, 0, 2) rfl _ _ _ (Nat.le_of_ble_eq_true rfl) (fun K hcl hsf hsl => ?_)
  have hcm : zmo (wcL [(181, k_rLex), (195, k_isTest), (183, k_isWord), (182, k_isSign), (178, k_blame), (194, k_rOpensF), (189, k_add), (149, k_rNext t n), (192, k_holdsBack)]) (cl d) := (wcL_m (wm_cons (k_rLex_m hTb (by omega)) (wm_cons (k_isTest_m hTb (by omega)) (wm_cons (k_isWord_m hTb (by omega)) (wm_cons (k_isSign_m hTb (by omega)) (wm_cons (k_blame_m hTb (by omega)) (wm_cons (k_rOpensF_m hTb (by omega)) (wm_cons (k_add_m hTb (by omega)) (wm_cons (k_rNext_m hTb (by omega)) (wm_cons (k_holdsBack_m hTb (by omega)) wm_nil))))))))))
  obtain ⟨hR, hQ⟩ := h
  obtain ⟨hG, mp, ht⟩ := hR
  change mcP t n st ((k, ph, bg, pr, w) :: fs) 0 (o) (c) (p) at mp
  change isT k ∧ bg = 1 ∧ tk t n p kk v e ∧ ¬ kk = 5 ∧ ¬ kk = 2 ∧ ¬ (kk = 3 ∧ v = 40) ∧ ¬ (kk = 3 ∧ v = 91) ∧ ¬ (kk = 1 ∧ v = 7170414) ∧ ¬ (kk = 1 ∧ v = 7168376) ∧ ¬ (kk = 1 ∧ v = 26982) ∧ ¬ (kk = 1 ∧ v = 1751474548) ∧ ¬ (kk = 1 ∧ v = 2036687218) ∧ ¬ (kk = 1 ∧ v = 1953459300) ∧ ¬ (kk = 1 ∧ v = 1886743660) ∧ ¬ (kk = 1 ∧ v = 1937007984) ∧ ¬ (kk = 1 ∧ v = 1650812270) ∧ ¬ (kk = 1 ∧ v = 495874044019) ∧ ¬ (kk = 1 ∧ v = 1953066341) ∧ ¬ (kk = 1 ∧ v = 465726042227) ∧ ¬ (kk = 1 ∧ v = 7237492) ∧ ¬ (kk = 1 ∧ v = 6384748) at ht
  obtain ⟨mf, mo, mn, mpp, mrd, mq, mbd, mz1, mz2, mz3⟩ := mp
  rw [List.length_cons] at mz3
  have mq0 := mq
  obtain ⟨mfr, mwb, mcd⟩ := mq
  have mt := FR_top mfr
  have mb := FR_bnd _ _ _ mwb mfr
  rw [List.length_cons] at mb
  have ml := WB_hd mwb
  have mcl := mcd.1
  have mlw := FR_len mb.2.1 mfr
  have tf := RDr_rv mrd (by rw [mpp]; exact ht.2.2.1)
  have n5 := RV_5 tf ht.2.2.2.1
  have n2 := RV_2 tf ht.2.2.2.2.1
  have n8 := ht.2.2.2.2.2
  have cs_40 := RV_s ht.2.2.2.1 tf (show ¬ (kk = 3 ∧ v = 40) from n8.1)
  have cs_91 := RV_s ht.2.2.2.1 tf (show ¬ (kk = 3 ∧ v = 91) from n8.2.1)
  have cw_7170414 := RV_w ht.2.2.2.1 tf (show ¬ (kk = 1 ∧ v = 7170414) from n8.2.2.1)
  have cw_7168376 := RV_w ht.2.2.2.1 tf (show ¬ (kk = 1 ∧ v = 7168376) from n8.2.2.2.1)
  have cw_26982 := RV_w ht.2.2.2.1 tf (show ¬ (kk = 1 ∧ v = 26982) from n8.2.2.2.2.1)
  have cw_1751474548 := RV_w ht.2.2.2.1 tf (show ¬ (kk = 1 ∧ v = 1751474548) from n8.2.2.2.2.2.1)
  have cw_2036687218 := RV_w ht.2.2.2.1 tf (show ¬ (kk = 1 ∧ v = 2036687218) from n8.2.2.2.2.2.2.1)
  have cw_1953459300 := RV_w ht.2.2.2.1 tf (show ¬ (kk = 1 ∧ v = 1953459300) from n8.2.2.2.2.2.2.2.1)
  have cw_1886743660 := RV_w ht.2.2.2.1 tf (show ¬ (kk = 1 ∧ v = 1886743660) from n8.2.2.2.2.2.2.2.2.1)
  have cw_1937007984 := RV_w ht.2.2.2.1 tf (show ¬ (kk = 1 ∧ v = 1937007984) from n8.2.2.2.2.2.2.2.2.2.1)
  have cw_1650812270 := RV_w ht.2.2.2.1 tf (show ¬ (kk = 1 ∧ v = 1650812270) from n8.2.2.2.2.2.2.2.2.2.2.1)
  have cw_495874044019 := RV_w ht.2.2.2.1 tf (show ¬ (kk = 1 ∧ v = 495874044019) from n8.2.2.2.2.2.2.2.2.2.2.2.1)
  have cw_1953066341 := RV_w ht.2.2.2.1 tf (show ¬ (kk = 1 ∧ v = 1953066341) from n8.2.2.2.2.2.2.2.2.2.2.2.2.1)
  have cw_465726042227 := RV_w ht.2.2.2.1 tf (show ¬ (kk = 1 ∧ v = 465726042227) from n8.2.2.2.2.2.2.2.2.2.2.2.2.2.1)
  have cw_7237492 := RV_w ht.2.2.2.1 tf (show ¬ (kk = 1 ∧ v = 7237492) from n8.2.2.2.2.2.2.2.2.2.2.2.2.2.2.1)
  have cw_6384748 := RV_w ht.2.2.2.1 tf (show ¬ (kk = 1 ∧ v = 6384748) from n8.2.2.2.2.2.2.2.2.2.2.2.2.2.2.2)
  have tk8 := ht.1
  have tb8 := ht.2.1
  clear n8 tf ht
  have tkT : k = 1 ∨ k = 5 ∨ k = 6 := tk8
  have g1 := g_codes hG
  have g2 := g_in hG
  have g3 := g_isClever hG
  have g4 := g_deep hG
  have g5 := g_open hG
  have g6 := g_opMany hG
  have g7 := g_signAt hG
  have g8 := g_signEnd hG
  have g9 := g_faultKind hG
  have g10 := g_size hG
  have g11 := g_sign hG
  have g12 := g_lexAt hG
  have g13 := g_value hG
  have g14 := g_word hG
  have g15 := g_operand hG
  refine yr1_ok (Rt := Q) (wc := (wcL [(181, k_rLex), (195, k_isTest), (183, k_isWord), (182, k_isSign), (178, k_blame), (194, k_rOpensF), (189, k_add), (149, k_rNext t n), (192, k_holdsBack)])) (stp := []) hcm hcl [] 400 ?_
  show (170 = 170 ∧ (rq_rLex  st ∧ (((st 170 8 ≤ (0 : Int) → ((-2147483648 ≤ (st 170 42) - 1 ∧ (st 170 42) - 1 ≤ 2147483647) ∧ ((0 ≤ (st 170 42) - 1 ∧ (st 170 42) - 1 < 20) ∧ (∀ (r17 : Int), en_isTest (st 192 ((st 170 42) - 1 : Int).toNat) st r17 → ((r17 = (0 : Int) → _) ∧ (¬ (r17 = (0 : Int)) → ((0 ≤ (st 170 42) - 1 ∧ (st 170 42) - 1 < 20) ∧ ((st 194 ((st 170 42) - 1 : Int).toNat = (0 : Int) → _) ∧ (¬ (st 194 ((st 170 42) - 1 : Int).toNat = (0 : Int)) → (((1 : Int) = (0 : Int) → _) ∧ (¬ ((1 : Int) = (0 : Int)) → (170 = 170 ∧ (∀ (r18 : Int), en_isWord (7237492) st r18 → ((r18 = (0 : Int) → ((0 ≤ (st 170 42) - 1 ∧ (st 170 42) - 1 < 20) ∧ ((0 = (0 : Int) ∨ 0 = (1 : Int)) ∧ (((1 : Int) = (0 : Int) → _) ∧ (¬ ((1 : Int) = (0 : Int)) → (170 = 170 ∧ (∀ (r19 : Int), en_isSign (91) (zup st 194 ((st 170 42) - 1 : Int).toNat 0) r19 → ((r19 = (0 : Int) → (((1 : Int) = (0 : Int) → _) ∧ (¬ ((1 : Int) = (0 : Int)) → (170 = 170 ∧ (∀ (r20 : Int), en_isWord (6384748) (zup st 194 ((st 170 42) - 1 : Int).toNat 0) r20 → ((r20 = (0 : Int) → (170 = 170 ∧ (∀ (r21 : Int), en_isSign (40) (zup st 194 ((st 170 42) - 1 : Int).toNat 0) r21 → ((r21 = (0 : Int) → (170 = 170 ∧ (∀ (r22 : Int), en_isWord (7170414) (zup st 194 ((st 170 42) - 1 : Int).toNat 0) r22 → ((¬ r22 = (0 : Int) → _) ∧ (¬ (¬ r22 = (0 : Int)) → (170 = 170 ∧ (∀ (r23 : Int), en_isWord (7168376) (zup st 194 ((st 170 42) - 1 : Int).toNat 0) r23 → ((¬ r23 = (0 : Int) → _) ∧ (¬ (¬ r23 = (0 : Int)) → (170 = 170 ∧ (∀ (r24 : Int), en_isWord (26982) (zup st 194 ((st 170 42) - 1 : Int).toNat 0) r24 → ((r24 = (0 : Int) → ((¬ st 170 3 = (2 : Int) → (170 = 170 ∧ (∀ (r25 : Int), en_isWord (1751474548) (zup st 194 ((st 170 42) - 1 : Int).toNat 0) r25 → ((r25 = (0 : Int) → (170 = 170 ∧ (∀ (r26 : Int), en_isWord (2036687218) (zup st 194 ((st 170 42) - 1 : Int).toNat 0) r26 → ((r26 = (0 : Int) → (170 = 170 ∧ (∀ (r27 : Int), en_isWord (1953459300) (zup st 194 ((st 170 42) - 1 : Int).toNat 0) r27 → ((r27 = (0 : Int) → (170 = 170 ∧ (∀ (r28 : Int), en_isWord (1886743660) (zup st 194 ((st 170 42) - 1 : Int).toNat 0) r28 → ((r28 = (0 : Int) → (170 = 170 ∧ (∀ (r29 : Int), en_isWord (1937007984) (zup st 194 ((st 170 42) - 1 : Int).toNat 0) r29 → ((r29 = (0 : Int) → (170 = 170 ∧ (∀ (r30 : Int), en_isWord (1650812270) (zup st 194 ((st 170 42) - 1 : Int).toNat 0) r30 → ((r30 = (0 : Int) → (170 = 170 ∧ (∀ (r31 : Int), en_isWord (495874044019) (zup st 194 ((st 170 42) - 1 : Int).toNat 0) r31 → ((r31 = (0 : Int) → (170 = 170 ∧ (∀ (r32 : Int), en_isWord (1953066341) (zup st 194 ((st 170 42) - 1 : Int).toNat 0) r32 → ((r32 = (0 : Int) → (170 = 170 ∧ (∀ (r33 : Int), en_isWord (465726042227) (zup st 194 ((st 170 42) - 1 : Int).toNat 0) r33 → ((r33 = (0 : Int) → ((((-1) : Int) < (3 : Int) → ((¬ ((-1) : Int) = ((-1) : Int) → _) ∧ (¬ (¬ ((-1) : Int) = ((-1) : Int)) → (170 = 170 ∧ (rq_blame (1) (st 170 4) (zup st 194 ((st 170 42) - 1 : Int).toNat 0) ∧ (∀ (s34 : zS), en_blame (1) (st 170 4) (zup st 194 ((st 170 42) - 1 : Int).toNat 0) s34 → ((s34 170 8 ≤ (0 : Int) → _) ∧ (¬ (s34 170 8 ≤ (0 : Int)) → ((1 = (0 : Int) ∨ 1 = (1 : Int)) ∧ Q (some (.inl 1)) s34))))))))) ∧ (¬ (((-1) : Int) < (3 : Int)) → _))) ∧ (¬ (r33 = (0 : Int)) → _))))) ∧ (¬ (r32 = (0 : Int)) → _))))) ∧ (¬ (r31 = (0 : Int)) → _))))) ∧ (¬ (r30 = (0 : Int)) → _))))) ∧ (¬ (r29 = (0 : Int)) → _))))) ∧ (¬ (r28 = (0 : Int)) → _))))) ∧ (¬ (r27 = (0 : Int)) → _))))) ∧ (¬ (r26 = (0 : Int)) → _))))) ∧ (¬ (r25 = (0 : Int)) → _))))) ∧ (¬ (¬ st 170 3 = (2 : Int)) → _))) ∧ (¬ (r24 = (0 : Int)) → _))))))))))))) ∧ (¬ (r21 = (0 : Int)) → _))))) ∧ (¬ (r20 = (0 : Int)) → _))))))) ∧ (¬ (r19 = (0 : Int)) → _))))))))) ∧ (¬ (r18 = (0 : Int)) → _))))))))))))))) ∧ (¬ (st 170 8 ≤ (0 : Int)) → _)))))
  refine ⟨rfl, ⟨hG, (show st 170 12 = -1 from by omega)⟩, ?_⟩
  refine ⟨fun h35 => ?_, fun h35 => (by exfalso; omega)⟩
  refine ⟨by omega, ?_⟩
  have g36 := g_frame hG ((st 170 42) - 1 : Int).toNat
  refine ⟨by omega, ?_⟩
  refine fun r17 q17 => ?_
  have b17 := q17
  change (r17 = 0 ∨ r17 = 1) ∧ (r17 = 1 ↔ (st 192 ((st 170 42) - 1 : Int).toNat) = 1 ∨ (st 192 ((st 170 42) - 1 : Int).toNat) = 5 ∨ (st 192 ((st 170 42) - 1 : Int).toNat) = 6) at b17
  refine ⟨fun h37 => (by exfalso; clear hQ; omega), fun h37 => ?_⟩
  clear h37 b17
  have g38 := g_begins hG ((st 170 42) - 1 : Int).toNat
  refine ⟨by omega, ?_⟩
  refine ⟨fun h39 => (by exfalso; omega), fun h39 => ?_⟩
  refine ⟨fun h40 => absurd h40 (by decide), fun h40 => ?_⟩
  refine ⟨rfl, fun r18 q18 => ?_⟩
  have b18 := q18
  change (r18 = 0 ∨ r18 = 1) ∧ (r18 = 1 ↔ st 170 3 = 1 ∧ st 170 7 = (7237492)) at b18
  refine ⟨fun h41 => ?_, fun h41 => (by exfalso; have cx := cw_7237492; unfold NWq at cx; clear hQ; omega)⟩
  clear h41 b18
  refine ⟨by omega, ?_⟩
  refine ⟨by omega, ?_⟩
  refine ⟨fun h42 => absurd h42 (by decide), fun h42 => ?_⟩
  refine ⟨rfl, fun r19 q19 => ?_⟩
  have b19 := q19
  change (r19 = 0 ∨ r19 = 1) ∧ (r19 = 1 ↔ st 170 3 = 3 ∧ st 170 6 = (91)) at b19
  refine ⟨fun h43 => ?_, fun h43 => (by exfalso; have cx := cs_91; unfold NSq at cx; clear hQ; omega)⟩
  clear h43 b19
  refine ⟨fun h44 => absurd h44 (by decide), fun h44 => ?_⟩
  refine ⟨rfl, fun r20 q20 => ?_⟩
  have b20 := q20
  change (r20 = 0 ∨ r20 = 1) ∧ (r20 = 1 ↔ st 170 3 = 1 ∧ st 170 7 = (6384748)) at b20
  refine ⟨fun h45 => ?_, fun h45 => (by exfalso; have cx := cw_6384748; unfold NWq at cx; clear hQ; omega)⟩
  clear h45 b20
  refine ⟨rfl, fun r21 q21 => ?_⟩
  have b21 := q21
  change (r21 = 0 ∨ r21 = 1) ∧ (r21 = 1 ↔ st 170 3 = 3 ∧ st 170 6 = (40)) at b21
  refine ⟨fun h46 => ?_, fun h46 => (by exfalso; have cx := cs_40; unfold NSq at cx; clear hQ; omega)⟩
  clear h46 b21
  refine ⟨rfl, fun r22 q22 => ?_⟩
  have b22 := q22
  change (r22 = 0 ∨ r22 = 1) ∧ (r22 = 1 ↔ st 170 3 = 1 ∧ st 170 7 = (7170414)) at b22
  refine ⟨fun h47 => (by exfalso; have cx := cw_7170414; unfold NWq at cx; clear hQ; omega), fun h47 => ?_⟩
  clear h47 b22
  refine ⟨rfl, fun r23 q23 => ?_⟩
  have b23 := q23
  change (r23 = 0 ∨ r23 = 1) ∧ (r23 = 1 ↔ st 170 3 = 1 ∧ st 170 7 = (7168376)) at b23
  refine ⟨fun h48 => (by exfalso; have cx := cw_7168376; unfold NWq at cx; clear hQ; omega), fun h48 => ?_⟩
  clear h48 b23
  refine ⟨rfl, fun r24 q24 => ?_⟩
  have b24 := q24
  change (r24 = 0 ∨ r24 = 1) ∧ (r24 = 1 ↔ st 170 3 = 1 ∧ st 170 7 = (26982)) at b24
  refine ⟨fun h49 => ?_, fun h49 => (by exfalso; have cx := cw_26982; unfold NWq at cx; clear hQ; omega)⟩
  clear h49 b24
  refine ⟨fun h50 => ?_, fun h50 => (by exfalso; omega)⟩
  refine ⟨rfl, fun r25 q25 => ?_⟩
  have b25 := q25
  change (r25 = 0 ∨ r25 = 1) ∧ (r25 = 1 ↔ st 170 3 = 1 ∧ st 170 7 = (1751474548)) at b25
  refine ⟨fun h51 => ?_, fun h51 => (by exfalso; have cx := cw_1751474548; unfold NWq at cx; clear hQ; omega)⟩
  clear h51 b25
  refine ⟨rfl, fun r26 q26 => ?_⟩
  have b26 := q26
  change (r26 = 0 ∨ r26 = 1) ∧ (r26 = 1 ↔ st 170 3 = 1 ∧ st 170 7 = (2036687218)) at b26
  refine ⟨fun h52 => ?_, fun h52 => (by exfalso; have cx := cw_2036687218; unfold NWq at cx; clear hQ; omega)⟩
  clear h52 b26
  refine ⟨rfl, fun r27 q27 => ?_⟩
  have b27 := q27
  change (r27 = 0 ∨ r27 = 1) ∧ (r27 = 1 ↔ st 170 3 = 1 ∧ st 170 7 = (1953459300)) at b27
  refine ⟨fun h53 => ?_, fun h53 => (by exfalso; have cx := cw_1953459300; unfold NWq at cx; clear hQ; omega)⟩
  clear h53 b27
  refine ⟨rfl, fun r28 q28 => ?_⟩
  have b28 := q28
  change (r28 = 0 ∨ r28 = 1) ∧ (r28 = 1 ↔ st 170 3 = 1 ∧ st 170 7 = (1886743660)) at b28
  refine ⟨fun h54 => ?_, fun h54 => (by exfalso; have cx := cw_1886743660; unfold NWq at cx; clear hQ; omega)⟩
  clear h54 b28
  refine ⟨rfl, fun r29 q29 => ?_⟩
  have b29 := q29
  change (r29 = 0 ∨ r29 = 1) ∧ (r29 = 1 ↔ st 170 3 = 1 ∧ st 170 7 = (1937007984)) at b29
  refine ⟨fun h55 => ?_, fun h55 => (by exfalso; have cx := cw_1937007984; unfold NWq at cx; clear hQ; omega)⟩
  clear h55 b29
  refine ⟨rfl, fun r30 q30 => ?_⟩
  have b30 := q30
  change (r30 = 0 ∨ r30 = 1) ∧ (r30 = 1 ↔ st 170 3 = 1 ∧ st 170 7 = (1650812270)) at b30
  refine ⟨fun h56 => ?_, fun h56 => (by exfalso; have cx := cw_1650812270; unfold NWq at cx; clear hQ; omega)⟩
  clear h56 b30
  refine ⟨rfl, fun r31 q31 => ?_⟩
  have b31 := q31
  change (r31 = 0 ∨ r31 = 1) ∧ (r31 = 1 ↔ st 170 3 = 1 ∧ st 170 7 = (495874044019)) at b31
  refine ⟨fun h57 => ?_, fun h57 => (by exfalso; have cx := cw_495874044019; unfold NWq at cx; clear hQ; omega)⟩
  clear h57 b31
  refine ⟨rfl, fun r32 q32 => ?_⟩
  have b32 := q32
  change (r32 = 0 ∨ r32 = 1) ∧ (r32 = 1 ↔ st 170 3 = 1 ∧ st 170 7 = (1953066341)) at b32
  refine ⟨fun h58 => ?_, fun h58 => (by exfalso; have cx := cw_1953066341; unfold NWq at cx; clear hQ; omega)⟩
  clear h58 b32
  refine ⟨rfl, fun r33 q33 => ?_⟩
  have b33 := q33
  change (r33 = 0 ∨ r33 = 1) ∧ (r33 = 1 ↔ st 170 3 = 1 ∧ st 170 7 = (465726042227)) at b33
  refine ⟨fun h59 => ?_, fun h59 => (by exfalso; have cx := cw_465726042227; unfold NWq at cx; clear hQ; omega)⟩
  clear h59 b33
  refine ⟨fun h60 => ?_, fun h60 => absurd (by decide) h60⟩
  refine ⟨fun h61 => absurd h61 (by decide), fun h61 => ?_⟩
  refine ⟨rfl, ⟨(gInv_up hG (p_begins (by omega))), (show 1 ≤ (1) ∧ (1) ≤ 6 from by omega), (show -2147483648 ≤ (st 170 4) ∧ (st 170 4) ≤ 2147483647 from by omega)⟩, fun s34 q34 => ?_⟩
  obtain ⟨gs34, fs34, p34⟩ := q34
  change (st 170 8 = 0 → s34 170 8 = (1)) ∧ (0 < st 170 8 → s34 170 8 = st 170 8) at p34
  have g62 := g_faultKind gs34
  refine ⟨fun h63 => (by exfalso; omega), fun h63 => ?_⟩
  refine ⟨by omega, ?_⟩
  exact hQ _ _ ⟨gs34, (fr_tr (fr_a (fr_rf _ _) rfl) fs34 rfl), (Z9_tr (Z9_up (Z9_rf _) (by decide)) ((show aFr m_rOpF8a st (zup st 194 ((st 170 42) - 1 : Int).toNat 0) from (fr_a (fr_rf _ _) rfl)) 170 35 rfl rfl) (Z9_fr fs34 (fun _ => rfl) rfl)), (show 0 < s34 170 8 ∧ ((1 : Int) = 0 ∨ (1 : Int) = 1) from by omega)⟩
theorem k_rOpF8a_m (hTb : aTb zSh rx_tb cl) {t : Int → Int} {n k ph bg pr o p e : Int} {w c : List Int} {fs : List mFr} {kk v : Int} {D : Nat} (hD : 3 ≤ D) : ∀ as st (Q Q' : zQ), (∀ r st', Q r st' → Q' r st') → (k_rOpF8a t n k ph bg pr o p e w c fs kk v) 196 as st Q → cl D 196 as st Q' := by
  intro as st Q Q' hQ h
  unfold k_rOpF8a at h
  split at h
  · obtain ⟨rfl, h⟩ := h
    exact c_rOpF8a hTb hD (ct_rOpF8a_m hQ h)
  · exact h.elim
set_option maxHeartbeats 4000000 in
set_option maxRecDepth 100000 in
theorem c_rOpF8b (hTb : aTb zSh rx_tb cl) {t : Int → Int} {n k ph bg pr o p e : Int} {w c : List Int} {fs : List mFr} {kk v : Int} {D : Nat} (hD : 3 ≤ D) {st : zS} {Q : zQ} (h : ct_rOpF8b t n k ph bg pr o p e w c fs kk v st Q) : cl D 196 [.inr (.inr (.inl 170))] st Q := by
  obtain ⟨d, rfl⟩ : ∃ d, D = d + 1 := ⟨D - 1, by omega⟩
  refine hTb d 196 (rx_m196, 4, 0, 0, 2) rfl _ _ _ (Nat.le_of_ble_eq_true rfl) (fun K hcl hsf hsl => ?_)
  have hcm : zmo (wcL [(181, k_rLex), (195, k_isTest), (183, k_isWord), (182, k_isSign), (178, k_blame), (194, k_rOpensF), (189, k_add), (149, k_rNext t n), (192, k_holdsBack)]) (cl d) := (wcL_m (wm_cons (k_rLex_m hTb (by omega)) (wm_cons (k_isTest_m hTb (by omega)) (wm_cons (k_isWord_m hTb (by omega)) (wm_cons (k_isSign_m hTb (by omega)) (wm_cons (k_blame_m hTb (by omega)) (wm_cons (k_rOpensF_m hTb (by omega)) (wm_cons (k_add_m hTb (by omega)) (wm_cons (k_rNext_m hTb (by omega)) (wm_cons (k_holdsBack_m hTb (by omega)) wm_nil))))))))))
  obtain ⟨hR, hQ⟩ := h
  obtain ⟨hG, mp, ht⟩ := hR
  change mcP t n st ((k, ph, bg, pr, w) :: fs) 0 (o) (c) (p) at mp
  change isT k ∧ ¬ bg = 1 ∧ tk t n p kk v e ∧ ¬ kk = 5 ∧ ¬ kk = 2 ∧ ¬ (kk = 3 ∧ v = 40) ∧ ¬ (kk = 1 ∧ v = 7170414) ∧ ¬ (kk = 1 ∧ v = 7168376) ∧ ¬ (kk = 1 ∧ v = 26982) ∧ ¬ (kk = 1 ∧ v = 1751474548) ∧ ¬ (kk = 1 ∧ v = 2036687218) ∧ ¬ (kk = 1 ∧ v = 1953459300) ∧ ¬ (kk = 1 ∧ v = 1886743660) ∧ ¬ (kk = 1 ∧ v = 1937007984) ∧ ¬ (kk = 1 ∧ v = 1650812270) ∧ ¬ (kk = 1 ∧ v = 495874044019) ∧ ¬ (kk = 1 ∧ v = 1953066341) ∧ ¬ (kk = 1 ∧ v = 465726042227) at ht
  obtain ⟨mf, mo, mn, mpp, mrd, mq, mbd, mz1, mz2, mz3⟩ := mp
  rw [List.length_cons] at mz3
  have mq0 := mq
  obtain ⟨mfr, mwb, mcd⟩ := mq
  have mt := FR_top mfr
  have mb := FR_bnd _ _ _ mwb mfr
  rw [List.length_cons] at mb
  have ml := WB_hd mwb
  have mcl := mcd.1
  have mlw := FR_len mb.2.1 mfr
  have tf := RDr_rv mrd (by rw [mpp]; exact ht.2.2.1)
  have n5 := RV_5 tf ht.2.2.2.1
  have n2 := RV_2 tf ht.2.2.2.2.1
  have n8 := ht.2.2.2.2.2
  have cs_40 := RV_s ht.2.2.2.1 tf (show ¬ (kk = 3 ∧ v = 40) from n8.1)
  have cw_7170414 := RV_w ht.2.2.2.1 tf (show ¬ (kk = 1 ∧ v = 7170414) from n8.2.1)
  have cw_7168376 := RV_w ht.2.2.2.1 tf (show ¬ (kk = 1 ∧ v = 7168376) from n8.2.2.1)
  have cw_26982 := RV_w ht.2.2.2.1 tf (show ¬ (kk = 1 ∧ v = 26982) from n8.2.2.2.1)
  have cw_1751474548 := RV_w ht.2.2.2.1 tf (show ¬ (kk = 1 ∧ v = 1751474548) from n8.2.2.2.2.1)
  have cw_2036687218 := RV_w ht.2.2.2.1 tf (show ¬ (kk = 1 ∧ v = 2036687218) from n8.2.2.2.2.2.1)
  have cw_1953459300 := RV_w ht.2.2.2.1 tf (show ¬ (kk = 1 ∧ v = 1953459300) from n8.2.2.2.2.2.2.1)
  have cw_1886743660 := RV_w ht.2.2.2.1 tf (show ¬ (kk = 1 ∧ v = 1886743660) from n8.2.2.2.2.2.2.2.1)
  have cw_1937007984 := RV_w ht.2.2.2.1 tf (show ¬ (kk = 1 ∧ v = 1937007984) from n8.2.2.2.2.2.2.2.2.1)
  have cw_1650812270 := RV_w ht.2.2.2.1 tf (show ¬ (kk = 1 ∧ v = 1650812270) from n8.2.2.2.2.2.2.2.2.2.1)
  have cw_495874044019 := RV_w ht.2.2.2.1 tf (show ¬ (kk = 1 ∧ v = 495874044019) from n8.2.2.2.2.2.2.2.2.2.2.1)
  have cw_1953066341 := RV_w ht.2.2.2.1 tf (show ¬ (kk = 1 ∧ v = 1953066341) from n8.2.2.2.2.2.2.2.2.2.2.2.1)
  have cw_465726042227 := RV_w ht.2.2.2.1 tf (show ¬ (kk = 1 ∧ v = 465726042227) from n8.2.2.2.2.2.2.2.2.2.2.2.2)
  have tk8 := ht.1
  have tb8 := ht.2.1
  clear n8 tf ht
  have tkT : k = 1 ∨ k = 5 ∨ k = 6 := tk8
  have g1 := g_codes hG
  have g2 := g_in hG
  have g3 := g_isClever hG
  have g4 := g_deep hG
  have g5 := g_open hG
  have g6 := g_opMany hG
  have g7 := g_signAt hG
  have g8 := g_signEnd hG
  have g9 := g_faultKind hG
  have g10 := g_size hG
  have g11 := g_sign hG
  have g12 := g_lexAt hG
  have g13 := g_value hG
  have g14 := g_word hG
  have g15 := g_operand hG
  refine yr1_ok (Rt := Q) (wc := (wcL [(181, k_rLex), (195, k_isTest), (183, k_isWord), (182, k_isSign), (178, k_blame), (194, k_rOpensF), (189, k_add), (149, k_rNext t n), (192, k_holdsBack)])) (stp := []) hcm hcl [] 400 ?_
  show (170 = 170 ∧ (rq_rLex  st ∧ (((st 170 8 ≤ (0 : Int) → ((-2147483648 ≤ (st 170 42) - 1 ∧ (st 170 42) - 1 ≤ 2147483647) ∧ ((0 ≤ (st 170 42) - 1 ∧ (st 170 42) - 1 < 20) ∧ (∀ (r17 : Int), en_isTest (st 192 ((st 170 42) - 1 : Int).toNat) st r17 → ((r17 = (0 : Int) → _) ∧ (¬ (r17 = (0 : Int)) → ((0 ≤ (st 170 42) - 1 ∧ (st 170 42) - 1 < 20) ∧ ((st 194 ((st 170 42) - 1 : Int).toNat = (0 : Int) → (((0 : Int) = (0 : Int) → ((0 ≤ (st 170 42) - 1 ∧ (st 170 42) - 1 < 20) ∧ ((0 = (0 : Int) ∨ 0 = (1 : Int)) ∧ (((0 : Int) = (0 : Int) → (((0 : Int) = (0 : Int) → (170 = 170 ∧ (∀ (r18 : Int), en_isSign (40) (zup st 194 ((st 170 42) - 1 : Int).toNat 0) r18 → ((r18 = (0 : Int) → (170 = 170 ∧ (∀ (r19 : Int), en_isWord (7170414) (zup st 194 ((st 170 42) - 1 : Int).toNat 0) r19 → ((¬ r19 = (0 : Int) → _) ∧ (¬ (¬ r19 = (0 : Int)) → (170 = 170 ∧ (∀ (r20 : Int), en_isWord (7168376) (zup st 194 ((st 170 42) - 1 : Int).toNat 0) r20 → ((¬ r20 = (0 : Int) → _) ∧ (¬ (¬ r20 = (0 : Int)) → (170 = 170 ∧ (∀ (r21 : Int), en_isWord (26982) (zup st 194 ((st 170 42) - 1 : Int).toNat 0) r21 → ((r21 = (0 : Int) → ((¬ st 170 3 = (2 : Int) → (170 = 170 ∧ (∀ (r22 : Int), en_isWord (1751474548) (zup st 194 ((st 170 42) - 1 : Int).toNat 0) r22 → ((r22 = (0 : Int) → (170 = 170 ∧ (∀ (r23 : Int), en_isWord (2036687218) (zup st 194 ((st 170 42) - 1 : Int).toNat 0) r23 → ((r23 = (0 : Int) → (170 = 170 ∧ (∀ (r24 : Int), en_isWord (1953459300) (zup st 194 ((st 170 42) - 1 : Int).toNat 0) r24 → ((r24 = (0 : Int) → (170 = 170 ∧ (∀ (r25 : Int), en_isWord (1886743660) (zup st 194 ((st 170 42) - 1 : Int).toNat 0) r25 → ((r25 = (0 : Int) → (170 = 170 ∧ (∀ (r26 : Int), en_isWord (1937007984) (zup st 194 ((st 170 42) - 1 : Int).toNat 0) r26 → ((r26 = (0 : Int) → (170 = 170 ∧ (∀ (r27 : Int), en_isWord (1650812270) (zup st 194 ((st 170 42) - 1 : Int).toNat 0) r27 → ((r27 = (0 : Int) → (170 = 170 ∧ (∀ (r28 : Int), en_isWord (495874044019) (zup st 194 ((st 170 42) - 1 : Int).toNat 0) r28 → ((r28 = (0 : Int) → (170 = 170 ∧ (∀ (r29 : Int), en_isWord (1953066341) (zup st 194 ((st 170 42) - 1 : Int).toNat 0) r29 → ((r29 = (0 : Int) → (170 = 170 ∧ (∀ (r30 : Int), en_isWord (465726042227) (zup st 194 ((st 170 42) - 1 : Int).toNat 0) r30 → ((r30 = (0 : Int) → ((((-1) : Int) < (3 : Int) → ((¬ ((-1) : Int) = ((-1) : Int) → _) ∧ (¬ (¬ ((-1) : Int) = ((-1) : Int)) → (170 = 170 ∧ (rq_blame (1) (st 170 4) (zup st 194 ((st 170 42) - 1 : Int).toNat 0) ∧ (∀ (s31 : zS), en_blame (1) (st 170 4) (zup st 194 ((st 170 42) - 1 : Int).toNat 0) s31 → ((s31 170 8 ≤ (0 : Int) → _) ∧ (¬ (s31 170 8 ≤ (0 : Int)) → ((1 = (0 : Int) ∨ 1 = (1 : Int)) ∧ Q (some (.inl 1)) s31))))))))) ∧ (¬ (((-1) : Int) < (3 : Int)) → _))) ∧ (¬ (r30 = (0 : Int)) → _))))) ∧ (¬ (r29 = (0 : Int)) → _))))) ∧ (¬ (r28 = (0 : Int)) → _))))) ∧ (¬ (r27 = (0 : Int)) → _))))) ∧ (¬ (r26 = (0 : Int)) → _))))) ∧ (¬ (r25 = (0 : Int)) → _))))) ∧ (¬ (r24 = (0 : Int)) → _))))) ∧ (¬ (r23 = (0 : Int)) → _))))) ∧ (¬ (r22 = (0 : Int)) → _))))) ∧ (¬ (¬ st 170 3 = (2 : Int)) → _))) ∧ (¬ (r21 = (0 : Int)) → _))))))))))))) ∧ (¬ (r18 = (0 : Int)) → _))))) ∧ (¬ ((0 : Int) = (0 : Int)) → _))) ∧ (¬ ((0 : Int) = (0 : Int)) → _))))) ∧ (¬ ((0 : Int) = (0 : Int)) → _))) ∧ (¬ (st 194 ((st 170 42) - 1 : Int).toNat = (0 : Int)) → _))))))))) ∧ (¬ (st 170 8 ≤ (0 : Int)) → _)))))
  refine ⟨rfl, ⟨hG, (show st 170 12 = -1 from by omega)⟩, ?_⟩
  refine ⟨fun h32 => ?_, fun h32 => (by exfalso; omega)⟩
  refine ⟨by omega, ?_⟩
  have g33 := g_frame hG ((st 170 42) - 1 : Int).toNat
  refine ⟨by omega, ?_⟩
  refine fun r17 q17 => ?_
  have b17 := q17
  change (r17 = 0 ∨ r17 = 1) ∧ (r17 = 1 ↔ (st 192 ((st 170 42) - 1 : Int).toNat) = 1 ∨ (st 192 ((st 170 42) - 1 : Int).toNat) = 5 ∨ (st 192 ((st 170 42) - 1 : Int).toNat) = 6) at b17
  refine ⟨fun h34 => (by exfalso; clear hQ; omega), fun h34 => ?_⟩
  clear h34 b17
  have g35 := g_begins hG ((st 170 42) - 1 : Int).toNat
  refine ⟨by omega, ?_⟩
  refine ⟨fun h36 => ?_, fun h36 => (by exfalso; omega)⟩
  refine ⟨fun h37 => ?_, fun h37 => absurd (by decide) h37⟩
  refine ⟨by omega, ?_⟩
  refine ⟨by omega, ?_⟩
  refine ⟨fun h38 => ?_, fun h38 => absurd (by decide) h38⟩
  refine ⟨fun h39 => ?_, fun h39 => absurd (by decide) h39⟩
  refine ⟨rfl, fun r18 q18 => ?_⟩
  have b18 := q18
  change (r18 = 0 ∨ r18 = 1) ∧ (r18 = 1 ↔ st 170 3 = 3 ∧ st 170 6 = (40)) at b18
  refine ⟨fun h40 => ?_, fun h40 => (by exfalso; have cx := cs_40; unfold NSq at cx; clear hQ; omega)⟩
  clear h40 b18
  refine ⟨rfl, fun r19 q19 => ?_⟩
  have b19 := q19
  change (r19 = 0 ∨ r19 = 1) ∧ (r19 = 1 ↔ st 170 3 = 1 ∧ st 170 7 = (7170414)) at b19
  refine ⟨fun h41 => (by exfalso; have cx := cw_7170414; unfold NWq at cx; clear hQ; omega), fun h41 => ?_⟩
  clear h41 b19
  refine ⟨rfl, fun r20 q20 => ?_⟩
  have b20 := q20
  change (r20 = 0 ∨ r20 = 1) ∧ (r20 = 1 ↔ st 170 3 = 1 ∧ st 170 7 = (7168376)) at b20
  refine ⟨fun h42 => (by exfalso; have cx := cw_7168376; unfold NWq at cx; clear hQ; omega), fun h42 => ?_⟩
  clear h42 b20
  refine ⟨rfl, fun r21 q21 => ?_⟩
  have b21 := q21
  change (r21 = 0 ∨ r21 = 1) ∧ (r21 = 1 ↔ st 170 3 = 1 ∧ st 170 7 = (26982)) at b21
  refine ⟨fun h43 => ?_, fun h43 => (by exfalso; have cx := cw_26982; unfold NWq at cx; clear hQ; omega)⟩
  clear h43 b21
  refine ⟨fun h44 => ?_, fun h44 => (by exfalso; omega)⟩
  refine ⟨rfl, fun r22 q22 => ?_⟩
  have b22 := q22
  change (r22 = 0 ∨ r22 = 1) ∧ (r22 = 1 ↔ st 170 3 = 1 ∧ st 170 7 = (1751474548)) at b22
  refine ⟨fun h45 => ?_, fun h45 => (by exfalso; have cx := cw_1751474548; unfold NWq at cx; clear hQ; omega)⟩
  clear h45 b22
  refine ⟨rfl, fun r23 q23 => ?_⟩
  have b23 := q23
  change (r23 = 0 ∨ r23 = 1) ∧ (r23 = 1 ↔ st 170 3 = 1 ∧ st 170 7 = (2036687218)) at b23
  refine ⟨fun h46 => ?_, fun h46 => (by exfalso; have cx := cw_2036687218; unfold NWq at cx; clear hQ; omega)⟩
  clear h46 b23
  refine ⟨rfl, fun r24 q24 => ?_⟩
  have b24 := q24
  change (r24 = 0 ∨ r24 = 1) ∧ (r24 = 1 ↔ st 170 3 = 1 ∧ st 170 7 = (1953459300)) at b24
  refine ⟨fun h47 => ?_, fun h47 => (by exfalso; have cx := cw_1953459300; unfold NWq at cx; clear hQ; omega)⟩
  clear h47 b24
  refine ⟨rfl, fun r25 q25 => ?_⟩
  have b25 := q25
  change (r25 = 0 ∨ r25 = 1) ∧ (r25 = 1 ↔ st 170 3 = 1 ∧ st 170 7 = (1886743660)) at b25
  refine ⟨fun h48 => ?_, fun h48 => (by exfalso; have cx := cw_1886743660; unfold NWq at cx; clear hQ; omega)⟩
  clear h48 b25
  refine ⟨rfl, fun r26 q26 => ?_⟩
  have b26 := q26
  change (r26 = 0 ∨ r26 = 1) ∧ (r26 = 1 ↔ st 170 3 = 1 ∧ st 170 7 = (1937007984)) at b26
  refine ⟨fun h49 => ?_, fun h49 => (by exfalso; have cx := cw_1937007984; unfold NWq at cx; clear hQ; omega)⟩
  clear h49 b26
  refine ⟨rfl, fun r27 q27 => ?_⟩
  have b27 := q27
  change (r27 = 0 ∨ r27 = 1) ∧ (r27 = 1 ↔ st 170 3 = 1 ∧ st 170 7 = (1650812270)) at b27
  refine ⟨fun h50 => ?_, fun h50 => (by exfalso; have cx := cw_1650812270; unfold NWq at cx; clear hQ; omega)⟩
  clear h50 b27
  refine ⟨rfl, fun r28 q28 => ?_⟩
  have b28 := q28
  change (r28 = 0 ∨ r28 = 1) ∧ (r28 = 1 ↔ st 170 3 = 1 ∧ st 170 7 = (495874044019)) at b28
  refine ⟨fun h51 => ?_, fun h51 => (by exfalso; have cx := cw_495874044019; unfold NWq at cx; clear hQ; omega)⟩
  clear h51 b28
  refine ⟨rfl, fun r29 q29 => ?_⟩
  have b29 := q29
  change (r29 = 0 ∨ r29 = 1) ∧ (r29 = 1 ↔ st 170 3 = 1 ∧ st 170 7 = (1953066341)) at b29
  refine ⟨fun h52 => ?_, fun h52 => (by exfalso; have cx := cw_1953066341; unfold NWq at cx; clear hQ; omega)⟩
  clear h52 b29
  refine ⟨rfl, fun r30 q30 => ?_⟩
  have b30 := q30
  change (r30 = 0 ∨ r30 = 1) ∧ (r30 = 1 ↔ st 170 3 = 1 ∧ st 170 7 = (465726042227)) at b30
  refine ⟨fun h53 => ?_, fun h53 => (by exfalso; have cx := cw_465726042227; unfold NWq at cx; clear hQ; omega)⟩
  clear h53 b30
  refine ⟨fun h54 => ?_, fun h54 => absurd (by decide) h54⟩
  refine ⟨fun h55 => absurd h55 (by decide), fun h55 => ?_⟩
  refine ⟨rfl, ⟨(gInv_up hG (p_begins (by omega))), (show 1 ≤ (1) ∧ (1) ≤ 6 from by omega), (show -2147483648 ≤ (st 170 4) ∧ (st 170 4) ≤ 2147483647 from by omega)⟩, fun s31 q31 => ?_⟩
  obtain ⟨gs31, fs31, p31⟩ := q31
  change (st 170 8 = 0 → s31 170 8 = (1)) ∧ (0 < st 170 8 → s31 170 8 = st 170 8) at p31
  have g56 := g_faultKind gs31
  refine ⟨fun h57 => (by exfalso; omega), fun h57 => ?_⟩
  refine ⟨by omega, ?_⟩
  exact hQ _ _ ⟨gs31, (fr_tr (fr_a (fr_rf _ _) rfl) fs31 rfl), (Z9_tr (Z9_up (Z9_rf _) (by decide)) ((show aFr m_rOpF8b st (zup st 194 ((st 170 42) - 1 : Int).toNat 0) from (fr_a (fr_rf _ _) rfl)) 170 35 rfl rfl) (Z9_fr fs31 (fun _ => rfl) rfl)), (show 0 < s31 170 8 ∧ ((1 : Int) = 0 ∨ (1 : Int) = 1) from by omega)⟩
theorem k_rOpF8b_m (hTb : aTb zSh rx_tb cl) {t : Int → Int} {n k ph bg pr o p e : Int} {w c : List Int} {fs : List mFr} {kk v : Int} {D : Nat} (hD : 3 ≤ D) : ∀ as st (Q Q' : zQ), (∀ r st', Q r st' → Q' r st') → (k_rOpF8b t n k ph bg pr o p e w c fs kk v) 196 as st Q → cl D 196 as st Q' := by
  intro as st Q Q' hQ h
  unfold k_rOpF8b at h
  split at h
  · obtain ⟨rfl, h⟩ := h
    exact c_rOpF8b hTb hD (ct_rOpF8b_m hQ h)
  · exact h.elim
set_option maxHeartbeats 4000000 in
set_option maxRecDepth 100000 in
theorem c_rOpF8c (hTb : aTb zSh rx_tb cl) {t : Int → Int} {n k ph bg pr o p e : Int} {w c : List Int} {fs : List mFr} {kk v : Int} {D : Nat} (hD : 3 ≤ D) {st : zS} {Q : zQ} (h : ct_rOpF8c t n k ph bg pr o p e w c fs kk v st Q) : cl D 196 [.inr (.inr (.inl 170))] st Q := by
  obtain ⟨d, rfl⟩ : ∃ d, D = d + 1 := ⟨D - 1, by omega⟩
  refine hTb d 196 (rx_m196, 4, 0, 0, 2) rfl _ _ _ (Nat.le_of_ble_eq_true rfl) (fun K hcl hsf hsl => ?_)
  have hcm : zmo (wcL [(181, k_rLex), (195, k_isTest), (183, k_isWord), (182, k_isSign), (178, k_blame), (194, k_rOpensF), (189, k_add), (149, k_rNext t n), (192, k_holdsBack)]) (cl d) := (wcL_m (wm_cons (k_rLex_m hTb (by omega)) (wm_cons (k_isTest_m hTb (by omega)) (wm_cons (k_isWord_m hTb (by omega)) (wm_cons (k_isSign_m hTb (by omega)) (wm_cons (k_blame_m hTb (by omega)) (wm_cons (k_rOpensF_m hTb (by omega)) (wm_cons (k_add_m hTb (by omega)) (wm_cons (k_rNext_m hTb (by omega)) (wm_cons (k_holdsBack_m hTb (by omega)) wm_nil))))))))))
  obtain ⟨hR, hQ⟩ := h
  obtain ⟨hG, mp, ht⟩ := hR
  change mcP t n st ((k, ph, bg, pr, w) :: fs) 0 (o) (c) (p) at mp
  change ¬ isT k ∧ True ∧ tk t n p kk v e ∧ ¬ kk = 5 ∧ ¬ kk = 2 ∧ ¬ (kk = 3 ∧ v = 40) ∧ ¬ (kk = 1 ∧ v = 7170414) ∧ ¬ (kk = 1 ∧ v = 7168376) ∧ ¬ (kk = 1 ∧ v = 26982) ∧ ¬ (kk = 1 ∧ v = 1751474548) ∧ ¬ (kk = 1 ∧ v = 2036687218) ∧ ¬ (kk = 1 ∧ v = 1953459300) ∧ ¬ (kk = 1 ∧ v = 1886743660) ∧ ¬ (kk = 1 ∧ v = 1937007984) ∧ ¬ (kk = 1 ∧ v = 1650812270) ∧ ¬ (kk = 1 ∧ v = 495874044019) ∧ ¬ (kk = 1 ∧ v = 1953066341) ∧ ¬ (kk = 1 ∧ v = 465726042227) at ht
  obtain ⟨mf, mo, mn, mpp, mrd, mq, mbd, mz1, mz2, mz3⟩ := mp
  rw [List.length_cons] at mz3
  have mq0 := mq
  obtain ⟨mfr, mwb, mcd⟩ := mq
  have mt := FR_top mfr
  have mb := FR_bnd _ _ _ mwb mfr
  rw [List.length_cons] at mb
  have ml := WB_hd mwb
  have mcl := mcd.1
  have mlw := FR_len mb.2.1 mfr
  have tf := RDr_rv mrd (by rw [mpp]; exact ht.2.2.1)
  have n5 := RV_5 tf ht.2.2.2.1
  have n2 := RV_2 tf ht.2.2.2.2.1
  have n8 := ht.2.2.2.2.2
  have cs_40 := RV_s ht.2.2.2.1 tf (show ¬ (kk = 3 ∧ v = 40) from n8.1)
  have cw_7170414 := RV_w ht.2.2.2.1 tf (show ¬ (kk = 1 ∧ v = 7170414) from n8.2.1)
  have cw_7168376 := RV_w ht.2.2.2.1 tf (show ¬ (kk = 1 ∧ v = 7168376) from n8.2.2.1)
  have cw_26982 := RV_w ht.2.2.2.1 tf (show ¬ (kk = 1 ∧ v = 26982) from n8.2.2.2.1)
  have cw_1751474548 := RV_w ht.2.2.2.1 tf (show ¬ (kk = 1 ∧ v = 1751474548) from n8.2.2.2.2.1)
  have cw_2036687218 := RV_w ht.2.2.2.1 tf (show ¬ (kk = 1 ∧ v = 2036687218) from n8.2.2.2.2.2.1)
  have cw_1953459300 := RV_w ht.2.2.2.1 tf (show ¬ (kk = 1 ∧ v = 1953459300) from n8.2.2.2.2.2.2.1)
  have cw_1886743660 := RV_w ht.2.2.2.1 tf (show ¬ (kk = 1 ∧ v = 1886743660) from n8.2.2.2.2.2.2.2.1)
  have cw_1937007984 := RV_w ht.2.2.2.1 tf (show ¬ (kk = 1 ∧ v = 1937007984) from n8.2.2.2.2.2.2.2.2.1)
  have cw_1650812270 := RV_w ht.2.2.2.1 tf (show ¬ (kk = 1 ∧ v = 1650812270) from n8.2.2.2.2.2.2.2.2.2.1)
  have cw_495874044019 := RV_w ht.2.2.2.1 tf (show ¬ (kk = 1 ∧ v = 495874044019) from n8.2.2.2.2.2.2.2.2.2.2.1)
  have cw_1953066341 := RV_w ht.2.2.2.1 tf (show ¬ (kk = 1 ∧ v = 1953066341) from n8.2.2.2.2.2.2.2.2.2.2.2.1)
  have cw_465726042227 := RV_w ht.2.2.2.1 tf (show ¬ (kk = 1 ∧ v = 465726042227) from n8.2.2.2.2.2.2.2.2.2.2.2.2)
  have tk8 := ht.1
  have tb8 := ht.2.1
  clear n8 tf ht
  have tkT : ¬ (k = 1 ∨ k = 5 ∨ k = 6) := tk8
  have g1 := g_codes hG
  have g2 := g_in hG
  have g3 := g_isClever hG
  have g4 := g_deep hG
  have g5 := g_open hG
  have g6 := g_opMany hG
  have g7 := g_signAt hG
  have g8 := g_signEnd hG
  have g9 := g_faultKind hG
  have g10 := g_size hG
  have g11 := g_sign hG
  have g12 := g_lexAt hG
  have g13 := g_value hG
  have g14 := g_word hG
  have g15 := g_operand hG
  refine yr1_ok (Rt := Q) (wc := (wcL [(181, k_rLex), (195, k_isTest), (183, k_isWord), (182, k_isSign), (178, k_blame), (194, k_rOpensF), (189, k_add), (149, k_rNext t n), (192, k_holdsBack)])) (stp := []) hcm hcl [] 400 ?_
  show (170 = 170 ∧ (rq_rLex  st ∧ (((st 170 8 ≤ (0 : Int) → ((-2147483648 ≤ (st 170 42) - 1 ∧ (st 170 42) - 1 ≤ 2147483647) ∧ ((0 ≤ (st 170 42) - 1 ∧ (st 170 42) - 1 < 20) ∧ (∀ (r17 : Int), en_isTest (st 192 ((st 170 42) - 1 : Int).toNat) st r17 → ((r17 = (0 : Int) → (((0 : Int) = (0 : Int) → ((0 ≤ (st 170 42) - 1 ∧ (st 170 42) - 1 < 20) ∧ ((0 = (0 : Int) ∨ 0 = (1 : Int)) ∧ (((0 : Int) = (0 : Int) → (((0 : Int) = (0 : Int) → (170 = 170 ∧ (∀ (r18 : Int), en_isSign (40) (zup st 194 ((st 170 42) - 1 : Int).toNat 0) r18 → ((r18 = (0 : Int) → (170 = 170 ∧ (∀ (r19 : Int), en_isWord (7170414) (zup st 194 ((st 170 42) - 1 : Int).toNat 0) r19 → ((¬ r19 = (0 : Int) → _) ∧ (¬ (¬ r19 = (0 : Int)) → (170 = 170 ∧ (∀ (r20 : Int), en_isWord (7168376) (zup st 194 ((st 170 42) - 1 : Int).toNat 0) r20 → ((¬ r20 = (0 : Int) → _) ∧ (¬ (¬ r20 = (0 : Int)) → (170 = 170 ∧ (∀ (r21 : Int), en_isWord (26982) (zup st 194 ((st 170 42) - 1 : Int).toNat 0) r21 → ((r21 = (0 : Int) → ((¬ st 170 3 = (2 : Int) → (170 = 170 ∧ (∀ (r22 : Int), en_isWord (1751474548) (zup st 194 ((st 170 42) - 1 : Int).toNat 0) r22 → ((r22 = (0 : Int) → (170 = 170 ∧ (∀ (r23 : Int), en_isWord (2036687218) (zup st 194 ((st 170 42) - 1 : Int).toNat 0) r23 → ((r23 = (0 : Int) → (170 = 170 ∧ (∀ (r24 : Int), en_isWord (1953459300) (zup st 194 ((st 170 42) - 1 : Int).toNat 0) r24 → ((r24 = (0 : Int) → (170 = 170 ∧ (∀ (r25 : Int), en_isWord (1886743660) (zup st 194 ((st 170 42) - 1 : Int).toNat 0) r25 → ((r25 = (0 : Int) → (170 = 170 ∧ (∀ (r26 : Int), en_isWord (1937007984) (zup st 194 ((st 170 42) - 1 : Int).toNat 0) r26 → ((r26 = (0 : Int) → (170 = 170 ∧ (∀ (r27 : Int), en_isWord (1650812270) (zup st 194 ((st 170 42) - 1 : Int).toNat 0) r27 → ((r27 = (0 : Int) → (170 = 170 ∧ (∀ (r28 : Int), en_isWord (495874044019) (zup st 194 ((st 170 42) - 1 : Int).toNat 0) r28 → ((r28 = (0 : Int) → (170 = 170 ∧ (∀ (r29 : Int), en_isWord (1953066341) (zup st 194 ((st 170 42) - 1 : Int).toNat 0) r29 → ((r29 = (0 : Int) → (170 = 170 ∧ (∀ (r30 : Int), en_isWord (465726042227) (zup st 194 ((st 170 42) - 1 : Int).toNat 0) r30 → ((r30 = (0 : Int) → ((((-1) : Int) < (3 : Int) → ((¬ ((-1) : Int) = ((-1) : Int) → _) ∧ (¬ (¬ ((-1) : Int) = ((-1) : Int)) → (170 = 170 ∧ (rq_blame (1) (st 170 4) (zup st 194 ((st 170 42) - 1 : Int).toNat 0) ∧ (∀ (s31 : zS), en_blame (1) (st 170 4) (zup st 194 ((st 170 42) - 1 : Int).toNat 0) s31 → ((s31 170 8 ≤ (0 : Int) → _) ∧ (¬ (s31 170 8 ≤ (0 : Int)) → ((1 = (0 : Int) ∨ 1 = (1 : Int)) ∧ Q (some (.inl 1)) s31))))))))) ∧ (¬ (((-1) : Int) < (3 : Int)) → _))) ∧ (¬ (r30 = (0 : Int)) → _))))) ∧ (¬ (r29 = (0 : Int)) → _))))) ∧ (¬ (r28 = (0 : Int)) → _))))) ∧ (¬ (r27 = (0 : Int)) → _))))) ∧ (¬ (r26 = (0 : Int)) → _))))) ∧ (¬ (r25 = (0 : Int)) → _))))) ∧ (¬ (r24 = (0 : Int)) → _))))) ∧ (¬ (r23 = (0 : Int)) → _))))) ∧ (¬ (r22 = (0 : Int)) → _))))) ∧ (¬ (¬ st 170 3 = (2 : Int)) → _))) ∧ (¬ (r21 = (0 : Int)) → _))))))))))))) ∧ (¬ (r18 = (0 : Int)) → _))))) ∧ (¬ ((0 : Int) = (0 : Int)) → _))) ∧ (¬ ((0 : Int) = (0 : Int)) → _))))) ∧ (¬ ((0 : Int) = (0 : Int)) → _))) ∧ (¬ (r17 = (0 : Int)) → _)))))) ∧ (¬ (st 170 8 ≤ (0 : Int)) → _)))))
  refine ⟨rfl, ⟨hG, (show st 170 12 = -1 from by omega)⟩, ?_⟩
  refine ⟨fun h32 => ?_, fun h32 => (by exfalso; omega)⟩
  refine ⟨by omega, ?_⟩
  have g33 := g_frame hG ((st 170 42) - 1 : Int).toNat
  refine ⟨by omega, ?_⟩
  refine fun r17 q17 => ?_
  have b17 := q17
  change (r17 = 0 ∨ r17 = 1) ∧ (r17 = 1 ↔ (st 192 ((st 170 42) - 1 : Int).toNat) = 1 ∨ (st 192 ((st 170 42) - 1 : Int).toNat) = 5 ∨ (st 192 ((st 170 42) - 1 : Int).toNat) = 6) at b17
  refine ⟨fun h34 => ?_, fun h34 => (by exfalso; clear hQ; omega)⟩
  clear h34 b17
  refine ⟨fun h35 => ?_, fun h35 => absurd (by decide) h35⟩
  refine ⟨by omega, ?_⟩
  refine ⟨by omega, ?_⟩
  refine ⟨fun h36 => ?_, fun h36 => absurd (by decide) h36⟩
  refine ⟨fun h37 => ?_, fun h37 => absurd (by decide) h37⟩
  refine ⟨rfl, fun r18 q18 => ?_⟩
  have b18 := q18
  change (r18 = 0 ∨ r18 = 1) ∧ (r18 = 1 ↔ st 170 3 = 3 ∧ st 170 6 = (40)) at b18
  refine ⟨fun h38 => ?_, fun h38 => (by exfalso; have cx := cs_40; unfold NSq at cx; clear hQ; omega)⟩
  clear h38 b18
  refine ⟨rfl, fun r19 q19 => ?_⟩
  have b19 := q19
  change (r19 = 0 ∨ r19 = 1) ∧ (r19 = 1 ↔ st 170 3 = 1 ∧ st 170 7 = (7170414)) at b19
  refine ⟨fun h39 => (by exfalso; have cx := cw_7170414; unfold NWq at cx; clear hQ; omega), fun h39 => ?_⟩
  clear h39 b19
  refine ⟨rfl, fun r20 q20 => ?_⟩
  have b20 := q20
  change (r20 = 0 ∨ r20 = 1) ∧ (r20 = 1 ↔ st 170 3 = 1 ∧ st 170 7 = (7168376)) at b20
  refine ⟨fun h40 => (by exfalso; have cx := cw_7168376; unfold NWq at cx; clear hQ; omega), fun h40 => ?_⟩
  clear h40 b20
  refine ⟨rfl, fun r21 q21 => ?_⟩
  have b21 := q21
  change (r21 = 0 ∨ r21 = 1) ∧ (r21 = 1 ↔ st 170 3 = 1 ∧ st 170 7 = (26982)) at b21
  refine ⟨fun h41 => ?_, fun h41 => (by exfalso; have cx := cw_26982; unfold NWq at cx; clear hQ; omega)⟩
  clear h41 b21
  refine ⟨fun h42 => ?_, fun h42 => (by exfalso; omega)⟩
  refine ⟨rfl, fun r22 q22 => ?_⟩
  have b22 := q22
  change (r22 = 0 ∨ r22 = 1) ∧ (r22 = 1 ↔ st 170 3 = 1 ∧ st 170 7 = (1751474548)) at b22
  refine ⟨fun h43 => ?_, fun h43 => (by exfalso; have cx := cw_1751474548; unfold NWq at cx; clear hQ; omega)⟩
  clear h43 b22
  refine ⟨rfl, fun r23 q23 => ?_⟩
  have b23 := q23
  change (r23 = 0 ∨ r23 = 1) ∧ (r23 = 1 ↔ st 170 3 = 1 ∧ st 170 7 = (2036687218)) at b23
  refine ⟨fun h44 => ?_, fun h44 => (by exfalso; have cx := cw_2036687218; unfold NWq at cx; clear hQ; omega)⟩
  clear h44 b23
  refine ⟨rfl, fun r24 q24 => ?_⟩
  have b24 := q24
  change (r24 = 0 ∨ r24 = 1) ∧ (r24 = 1 ↔ st 170 3 = 1 ∧ st 170 7 = (1953459300)) at b24
  refine ⟨fun h45 => ?_, fun h45 => (by exfalso; have cx := cw_1953459300; unfold NWq at cx; clear hQ; omega)⟩
  clear h45 b24
  refine ⟨rfl, fun r25 q25 => ?_⟩
  have b25 := q25
  change (r25 = 0 ∨ r25 = 1) ∧ (r25 = 1 ↔ st 170 3 = 1 ∧ st 170 7 = (1886743660)) at b25
  refine ⟨fun h46 => ?_, fun h46 => (by exfalso; have cx := cw_1886743660; unfold NWq at cx; clear hQ; omega)⟩
  clear h46 b25
  refine ⟨rfl, fun r26 q26 => ?_⟩
  have b26 := q26
  change (r26 = 0 ∨ r26 = 1) ∧ (r26 = 1 ↔ st 170 3 = 1 ∧ st 170 7 = (1937007984)) at b26
  refine ⟨fun h47 => ?_, fun h47 => (by exfalso; have cx := cw_1937007984; unfold NWq at cx; clear hQ; omega)⟩
  clear h47 b26
  refine ⟨rfl, fun r27 q27 => ?_⟩
  have b27 := q27
  change (r27 = 0 ∨ r27 = 1) ∧ (r27 = 1 ↔ st 170 3 = 1 ∧ st 170 7 = (1650812270)) at b27
  refine ⟨fun h48 => ?_, fun h48 => (by exfalso; have cx := cw_1650812270; unfold NWq at cx; clear hQ; omega)⟩
  clear h48 b27
  refine ⟨rfl, fun r28 q28 => ?_⟩
  have b28 := q28
  change (r28 = 0 ∨ r28 = 1) ∧ (r28 = 1 ↔ st 170 3 = 1 ∧ st 170 7 = (495874044019)) at b28
  refine ⟨fun h49 => ?_, fun h49 => (by exfalso; have cx := cw_495874044019; unfold NWq at cx; clear hQ; omega)⟩
  clear h49 b28
  refine ⟨rfl, fun r29 q29 => ?_⟩
  have b29 := q29
  change (r29 = 0 ∨ r29 = 1) ∧ (r29 = 1 ↔ st 170 3 = 1 ∧ st 170 7 = (1953066341)) at b29
  refine ⟨fun h50 => ?_, fun h50 => (by exfalso; have cx := cw_1953066341; unfold NWq at cx; clear hQ; omega)⟩
  clear h50 b29
  refine ⟨rfl, fun r30 q30 => ?_⟩
  have b30 := q30
  change (r30 = 0 ∨ r30 = 1) ∧ (r30 = 1 ↔ st 170 3 = 1 ∧ st 170 7 = (465726042227)) at b30
  refine ⟨fun h51 => ?_, fun h51 => (by exfalso; have cx := cw_465726042227; unfold NWq at cx; clear hQ; omega)⟩
  clear h51 b30
  refine ⟨fun h52 => ?_, fun h52 => absurd (by decide) h52⟩
  refine ⟨fun h53 => absurd h53 (by decide), fun h53 => ?_⟩
  refine ⟨rfl, ⟨(gInv_up hG (p_begins (by omega))), (show 1 ≤ (1) ∧ (1) ≤ 6 from by omega), (show -2147483648 ≤ (st 170 4) ∧ (st 170 4) ≤ 2147483647 from by omega)⟩, fun s31 q31 => ?_⟩
  obtain ⟨gs31, fs31, p31⟩ := q31
  change (st 170 8 = 0 → s31 170 8 = (1)) ∧ (0 < st 170 8 → s31 170 8 = st 170 8) at p31
  have g54 := g_faultKind gs31
  refine ⟨fun h55 => (by exfalso; omega), fun h55 => ?_⟩
  refine ⟨by omega, ?_⟩
  exact hQ _ _ ⟨gs31, (fr_tr (fr_a (fr_rf _ _) rfl) fs31 rfl), (Z9_tr (Z9_up (Z9_rf _) (by decide)) ((show aFr m_rOpF8c st (zup st 194 ((st 170 42) - 1 : Int).toNat 0) from (fr_a (fr_rf _ _) rfl)) 170 35 rfl rfl) (Z9_fr fs31 (fun _ => rfl) rfl)), (show 0 < s31 170 8 ∧ ((1 : Int) = 0 ∨ (1 : Int) = 1) from by omega)⟩
theorem k_rOpF8c_m (hTb : aTb zSh rx_tb cl) {t : Int → Int} {n k ph bg pr o p e : Int} {w c : List Int} {fs : List mFr} {kk v : Int} {D : Nat} (hD : 3 ≤ D) : ∀ as st (Q Q' : zQ), (∀ r st', Q r st' → Q' r st') → (k_rOpF8c t n k ph bg pr o p e w c fs kk v) 196 as st Q → cl D 196 as st Q' := by
  intro as st Q Q' hQ h
  unfold k_rOpF8c at h
  split at h
  · obtain ⟨rfl, h⟩ := h
    exact c_rOpF8c hTb hD (ct_rOpF8c_m hQ h)
  · exact h.elim
set_option maxHeartbeats 4000000 in
set_option maxRecDepth 100000 in
theorem c_rOpF93 (hTb : aTb zSh rx_tb cl) {t : Int → Int} {n k ph bg pr o p e : Int} {w c : List Int} {fs : List mFr} {D : Nat} (hD : 3 ≤ D) {st : zS} {Q : zQ} (h : ct_rOpF93 t n k ph bg pr o p e w c fs st Q) : cl D 196 [.inr (.inr (.inl 170))] st Q := by
  obtain ⟨d, rfl⟩ : ∃ d, D = d + 1 := ⟨D - 1, by omega⟩
  refine hTb d 196 (rx_m196, 4, 0, 0, 2) rfl _ _ _ (Nat.le_of_ble_eq_true rfl) (fun K hcl hsf hsl => ?_)
  have hcm : zmo (wcL [(181, k_rLex), (195, k_isTest), (183, k_isWord), (182, k_isSign), (178, k_blame), (194, k_rOpensF), (189, k_add), (149, k_rNext t n), (192, k_holdsBack)]) (cl d) := (wcL_m (wm_cons (k_rLex_m hTb (by omega)) (wm_cons (k_isTest_m hTb (by omega)) (wm_cons (k_isWord_m hTb (by omega)) (wm_cons (k_isSign_m hTb (by omega)) (wm_cons (k_blame_m hTb (by omega)) (wm_cons (k_rOpensF_m hTb (by omega)) (wm_cons (k_add_m hTb (by omega)) (wm_cons (k_rNext_m hTb (by omega)) (wm_cons (k_holdsBack_m hTb (by omega)) wm_nil))))))))))
  obtain ⟨hR, hQ⟩ := h
  obtain ⟨hG, mp, ht⟩ := hR
  change mcP t n st ((k, ph, bg, pr, w) :: fs) 0 (o) (c) (p) at mp
  change tk t n p 1 1953459300 e ∧ st 170 36 = 1 at ht
  have g1 := g_isClever hG
  obtain ⟨mf, mo, mn, mpp, mrd, mq, mbd, mz1, mz2, mz3⟩ := mp
  rw [List.length_cons] at mz3
  have mq0 := mq
  obtain ⟨mfr, mwb, mcd⟩ := mq
  have mt := FR_top mfr
  have mb := FR_bnd _ _ _ mwb mfr
  rw [List.length_cons] at mb
  have ml := WB_hd mwb
  have mcl := mcd.1
  have mlw := FR_len mb.2.1 mfr
  have tf := r_wrd mrd (by rw [mpp]; exact ht.1)
  have g2 := g_codes hG
  have g3 := g_in hG
  have g4 := g_deep hG
  have g5 := g_open hG
  have g6 := g_opMany hG
  have g7 := g_signAt hG
  have g8 := g_signEnd hG
  have g9 := g_faultKind hG
  have g10 := g_size hG
  have g11 := g_sign hG
  have g12 := g_lexAt hG
  have g13 := g_value hG
  have g14 := g_word hG
  have g15 := g_operand hG
  refine yr1_ok (Rt := Q) (wc := (wcL [(181, k_rLex), (195, k_isTest), (183, k_isWord), (182, k_isSign), (178, k_blame), (194, k_rOpensF), (189, k_add), (149, k_rNext t n), (192, k_holdsBack)])) (stp := []) hcm hcl [] 400 ?_
  show (170 = 170 ∧ (rq_rLex  st ∧ (((st 170 8 ≤ (0 : Int) → ((-2147483648 ≤ (st 170 42) - 1 ∧ (st 170 42) - 1 ≤ 2147483647) ∧ ((0 ≤ (st 170 42) - 1 ∧ (st 170 42) - 1 < 20) ∧ (∀ (r17 : Int), en_isTest (st 192 ((st 170 42) - 1 : Int).toNat) st r17 → ((r17 = (0 : Int) → (((0 : Int) = (0 : Int) → ((0 ≤ (st 170 42) - 1 ∧ (st 170 42) - 1 < 20) ∧ ((0 = (0 : Int) ∨ 0 = (1 : Int)) ∧ (((0 : Int) = (0 : Int) → (((0 : Int) = (0 : Int) → (170 = 170 ∧ (∀ (r18 : Int), en_isSign (40) (zup st 194 ((st 170 42) - 1 : Int).toNat 0) r18 → ((r18 = (0 : Int) → (170 = 170 ∧ (∀ (r19 : Int), en_isWord (7170414) (zup st 194 ((st 170 42) - 1 : Int).toNat 0) r19 → ((¬ r19 = (0 : Int) → _) ∧ (¬ (¬ r19 = (0 : Int)) → (170 = 170 ∧ (∀ (r20 : Int), en_isWord (7168376) (zup st 194 ((st 170 42) - 1 : Int).toNat 0) r20 → ((¬ r20 = (0 : Int) → _) ∧ (¬ (¬ r20 = (0 : Int)) → (170 = 170 ∧ (∀ (r21 : Int), en_isWord (26982) (zup st 194 ((st 170 42) - 1 : Int).toNat 0) r21 → ((r21 = (0 : Int) → ((¬ st 170 3 = (2 : Int) → (170 = 170 ∧ (∀ (r22 : Int), en_isWord (1751474548) (zup st 194 ((st 170 42) - 1 : Int).toNat 0) r22 → ((r22 = (0 : Int) → (170 = 170 ∧ (∀ (r23 : Int), en_isWord (2036687218) (zup st 194 ((st 170 42) - 1 : Int).toNat 0) r23 → ((r23 = (0 : Int) → (170 = 170 ∧ (∀ (r24 : Int), en_isWord (1953459300) (zup st 194 ((st 170 42) - 1 : Int).toNat 0) r24 → ((r24 = (0 : Int) → _) ∧ (¬ (r24 = (0 : Int)) → (((3 : Int) < (3 : Int) → _) ∧ (¬ ((3 : Int) < (3 : Int)) → (((3 : Int) ≤ (6 : Int) → (((0 : Int) = st 170 36 → _) ∧ (¬ ((0 : Int) = st 170 36) → ((¬ ((-1) : Int) = ((-1) : Int) → _) ∧ (¬ (¬ ((-1) : Int) = ((-1) : Int)) → (170 = 170 ∧ (rq_blame (1) (st 170 4) (zup st 194 ((st 170 42) - 1 : Int).toNat 0) ∧ (∀ (s25 : zS), en_blame (1) (st 170 4) (zup st 194 ((st 170 42) - 1 : Int).toNat 0) s25 → ((s25 170 8 ≤ (0 : Int) → _) ∧ (¬ (s25 170 8 ≤ (0 : Int)) → ((1 = (0 : Int) ∨ 1 = (1 : Int)) ∧ Q (some (.inl 1)) s25))))))))))) ∧ (¬ ((3 : Int) ≤ (6 : Int)) → _))))))))) ∧ (¬ (r23 = (0 : Int)) → _))))) ∧ (¬ (r22 = (0 : Int)) → _))))) ∧ (¬ (¬ st 170 3 = (2 : Int)) → _))) ∧ (¬ (r21 = (0 : Int)) → _))))))))))))) ∧ (¬ (r18 = (0 : Int)) → _))))) ∧ (¬ ((0 : Int) = (0 : Int)) → _))) ∧ (¬ ((0 : Int) = (0 : Int)) → _))))) ∧ (¬ ((0 : Int) = (0 : Int)) → _))) ∧ (¬ (r17 = (0 : Int)) → ((0 ≤ (st 170 42) - 1 ∧ (st 170 42) - 1 < 20) ∧ ((st 194 ((st 170 42) - 1 : Int).toNat = (0 : Int) → (((0 : Int) = (0 : Int) → ((0 ≤ (st 170 42) - 1 ∧ (st 170 42) - 1 < 20) ∧ ((0 = (0 : Int) ∨ 0 = (1 : Int)) ∧ (((0 : Int) = (0 : Int) → (((0 : Int) = (0 : Int) → (170 = 170 ∧ (∀ (r26 : Int), en_isSign (40) (zup st 194 ((st 170 42) - 1 : Int).toNat 0) r26 → ((r26 = (0 : Int) → (170 = 170 ∧ (∀ (r27 : Int), en_isWord (7170414) (zup st 194 ((st 170 42) - 1 : Int).toNat 0) r27 → ((¬ r27 = (0 : Int) → _) ∧ (¬ (¬ r27 = (0 : Int)) → (170 = 170 ∧ (∀ (r28 : Int), en_isWord (7168376) (zup st 194 ((st 170 42) - 1 : Int).toNat 0) r28 → ((¬ r28 = (0 : Int) → _) ∧ (¬ (¬ r28 = (0 : Int)) → (170 = 170 ∧ (∀ (r29 : Int), en_isWord (26982) (zup st 194 ((st 170 42) - 1 : Int).toNat 0) r29 → ((r29 = (0 : Int) → ((¬ st 170 3 = (2 : Int) → (170 = 170 ∧ (∀ (r30 : Int), en_isWord (1751474548) (zup st 194 ((st 170 42) - 1 : Int).toNat 0) r30 → ((r30 = (0 : Int) → (170 = 170 ∧ (∀ (r31 : Int), en_isWord (2036687218) (zup st 194 ((st 170 42) - 1 : Int).toNat 0) r31 → ((r31 = (0 : Int) → (170 = 170 ∧ (∀ (r32 : Int), en_isWord (1953459300) (zup st 194 ((st 170 42) - 1 : Int).toNat 0) r32 → ((r32 = (0 : Int) → _) ∧ (¬ (r32 = (0 : Int)) → (((3 : Int) < (3 : Int) → _) ∧ (¬ ((3 : Int) < (3 : Int)) → (((3 : Int) ≤ (6 : Int) → (((0 : Int) = st 170 36 → _) ∧ (¬ ((0 : Int) = st 170 36) → ((¬ ((-1) : Int) = ((-1) : Int) → _) ∧ (¬ (¬ ((-1) : Int) = ((-1) : Int)) → (170 = 170 ∧ (rq_blame (1) (st 170 4) (zup st 194 ((st 170 42) - 1 : Int).toNat 0) ∧ (∀ (s33 : zS), en_blame (1) (st 170 4) (zup st 194 ((st 170 42) - 1 : Int).toNat 0) s33 → ((s33 170 8 ≤ (0 : Int) → _) ∧ (¬ (s33 170 8 ≤ (0 : Int)) → ((1 = (0 : Int) ∨ 1 = (1 : Int)) ∧ Q (some (.inl 1)) s33))))))))))) ∧ (¬ ((3 : Int) ≤ (6 : Int)) → _))))))))) ∧ (¬ (r31 = (0 : Int)) → _))))) ∧ (¬ (r30 = (0 : Int)) → _))))) ∧ (¬ (¬ st 170 3 = (2 : Int)) → _))) ∧ (¬ (r29 = (0 : Int)) → _))))))))))))) ∧ (¬ (r26 = (0 : Int)) → _))))) ∧ (¬ ((0 : Int) = (0 : Int)) → _))) ∧ (¬ ((0 : Int) = (0 : Int)) → _))))) ∧ (¬ ((0 : Int) = (0 : Int)) → _))) ∧ (¬ (st 194 ((st 170 42) - 1 : Int).toNat = (0 : Int)) → (((1 : Int) = (0 : Int) → _) ∧ (¬ ((1 : Int) = (0 : Int)) → (170 = 170 ∧ (∀ (r34 : Int), en_isWord (7237492) st r34 → ((r34 = (0 : Int) → ((0 ≤ (st 170 42) - 1 ∧ (st 170 42) - 1 < 20) ∧ ((0 = (0 : Int) ∨ 0 = (1 : Int)) ∧ (((1 : Int) = (0 : Int) → _) ∧ (¬ ((1 : Int) = (0 : Int)) → (170 = 170 ∧ (∀ (r35 : Int), en_isSign (91) (zup st 194 ((st 170 42) - 1 : Int).toNat 0) r35 → ((r35 = (0 : Int) → (((1 : Int) = (0 : Int) → _) ∧ (¬ ((1 : Int) = (0 : Int)) → (170 = 170 ∧ (∀ (r36 : Int), en_isWord (6384748) (zup st 194 ((st 170 42) - 1 : Int).toNat 0) r36 → ((r36 = (0 : Int) → (170 = 170 ∧ (∀ (r37 : Int), en_isSign (40) (zup st 194 ((st 170 42) - 1 : Int).toNat 0) r37 → ((r37 = (0 : Int) → (170 = 170 ∧ (∀ (r38 : Int), en_isWord (7170414) (zup st 194 ((st 170 42) - 1 : Int).toNat 0) r38 → ((¬ r38 = (0 : Int) → _) ∧ (¬ (¬ r38 = (0 : Int)) → (170 = 170 ∧ (∀ (r39 : Int), en_isWord (7168376) (zup st 194 ((st 170 42) - 1 : Int).toNat 0) r39 → ((¬ r39 = (0 : Int) → _) ∧ (¬ (¬ r39 = (0 : Int)) → (170 = 170 ∧ (∀ (r40 : Int), en_isWord (26982) (zup st 194 ((st 170 42) - 1 : Int).toNat 0) r40 → ((r40 = (0 : Int) → ((¬ st 170 3 = (2 : Int) → (170 = 170 ∧ (∀ (r41 : Int), en_isWord (1751474548) (zup st 194 ((st 170 42) - 1 : Int).toNat 0) r41 → ((r41 = (0 : Int) → (170 = 170 ∧ (∀ (r42 : Int), en_isWord (2036687218) (zup st 194 ((st 170 42) - 1 : Int).toNat 0) r42 → ((r42 = (0 : Int) → (170 = 170 ∧ (∀ (r43 : Int), en_isWord (1953459300) (zup st 194 ((st 170 42) - 1 : Int).toNat 0) r43 → ((r43 = (0 : Int) → _) ∧ (¬ (r43 = (0 : Int)) → (((3 : Int) < (3 : Int) → _) ∧ (¬ ((3 : Int) < (3 : Int)) → (((3 : Int) ≤ (6 : Int) → (((0 : Int) = st 170 36 → _) ∧ (¬ ((0 : Int) = st 170 36) → ((¬ ((-1) : Int) = ((-1) : Int) → _) ∧ (¬ (¬ ((-1) : Int) = ((-1) : Int)) → (170 = 170 ∧ (rq_blame (1) (st 170 4) (zup st 194 ((st 170 42) - 1 : Int).toNat 0) ∧ (∀ (s44 : zS), en_blame (1) (st 170 4) (zup st 194 ((st 170 42) - 1 : Int).toNat 0) s44 → ((s44 170 8 ≤ (0 : Int) → _) ∧ (¬ (s44 170 8 ≤ (0 : Int)) → ((1 = (0 : Int) ∨ 1 = (1 : Int)) ∧ Q (some (.inl 1)) s44))))))))))) ∧ (¬ ((3 : Int) ≤ (6 : Int)) → _))))))))) ∧ (¬ (r42 = (0 : Int)) → _))))) ∧ (¬ (r41 = (0 : Int)) → _))))) ∧ (¬ (¬ st 170 3 = (2 : Int)) → _))) ∧ (¬ (r40 = (0 : Int)) → _))))))))))))) ∧ (¬ (r37 = (0 : Int)) → _))))) ∧ (¬ (r36 = (0 : Int)) → _))))))) ∧ (¬ (r35 = (0 : Int)) → _))))))))) ∧ (¬ (r34 = (0 : Int)) → _))))))))))))))) ∧ (¬ (st 170 8 ≤ (0 : Int)) → _)))))
  refine ⟨rfl, ⟨hG, (show st 170 12 = -1 from by omega)⟩, ?_⟩
  refine ⟨fun h45 => ?_, fun h45 => (by exfalso; omega)⟩
  refine ⟨by omega, ?_⟩
  have g46 := g_frame hG ((st 170 42) - 1 : Int).toNat
  refine ⟨by omega, ?_⟩
  refine fun r17 q17 => ?_
  have b17 := q17
  change (r17 = 0 ∨ r17 = 1) ∧ (r17 = 1 ↔ (st 192 ((st 170 42) - 1 : Int).toNat) = 1 ∨ (st 192 ((st 170 42) - 1 : Int).toNat) = 5 ∨ (st 192 ((st 170 42) - 1 : Int).toNat) = 6) at b17
  refine ⟨fun h47 => ?_, fun h47 => ?_⟩
  · refine ⟨fun h48 => ?_, fun h48 => absurd (by decide) h48⟩
    refine ⟨by omega, ?_⟩
    refine ⟨by omega, ?_⟩
    refine ⟨fun h49 => ?_, fun h49 => absurd (by decide) h49⟩
    refine ⟨fun h50 => ?_, fun h50 => absurd (by decide) h50⟩
    refine ⟨rfl, fun r18 q18 => ?_⟩
    have b18 := q18
    change (r18 = 0 ∨ r18 = 1) ∧ (r18 = 1 ↔ st 170 3 = 3 ∧ st 170 6 = (40)) at b18
    refine ⟨fun h51 => ?_, fun h51 => (by exfalso; clear hQ; omega)⟩
    clear h51 b18
    refine ⟨rfl, fun r19 q19 => ?_⟩
    have b19 := q19
    change (r19 = 0 ∨ r19 = 1) ∧ (r19 = 1 ↔ st 170 3 = 1 ∧ st 170 7 = (7170414)) at b19
    refine ⟨fun h52 => (by exfalso; clear hQ; omega), fun h52 => ?_⟩
    clear h52 b19
    refine ⟨rfl, fun r20 q20 => ?_⟩
    have b20 := q20
    change (r20 = 0 ∨ r20 = 1) ∧ (r20 = 1 ↔ st 170 3 = 1 ∧ st 170 7 = (7168376)) at b20
    refine ⟨fun h53 => (by exfalso; clear hQ; omega), fun h53 => ?_⟩
    clear h53 b20
    refine ⟨rfl, fun r21 q21 => ?_⟩
    have b21 := q21
    change (r21 = 0 ∨ r21 = 1) ∧ (r21 = 1 ↔ st 170 3 = 1 ∧ st 170 7 = (26982)) at b21
    refine ⟨fun h54 => ?_, fun h54 => (by exfalso; clear hQ; omega)⟩
    clear h54 b21
    refine ⟨fun h55 => ?_, fun h55 => (by exfalso; omega)⟩
    refine ⟨rfl, fun r22 q22 => ?_⟩
    have b22 := q22
    change (r22 = 0 ∨ r22 = 1) ∧ (r22 = 1 ↔ st 170 3 = 1 ∧ st 170 7 = (1751474548)) at b22
    refine ⟨fun h56 => ?_, fun h56 => (by exfalso; clear hQ; omega)⟩
    clear h56 b22
    refine ⟨rfl, fun r23 q23 => ?_⟩
    have b23 := q23
    change (r23 = 0 ∨ r23 = 1) ∧ (r23 = 1 ↔ st 170 3 = 1 ∧ st 170 7 = (2036687218)) at b23
    refine ⟨fun h57 => ?_, fun h57 => (by exfalso; clear hQ; omega)⟩
    clear h57 b23
    refine ⟨rfl, fun r24 q24 => ?_⟩
    have b24 := q24
    change (r24 = 0 ∨ r24 = 1) ∧ (r24 = 1 ↔ st 170 3 = 1 ∧ st 170 7 = (1953459300)) at b24
    refine ⟨fun h58 => (by exfalso; clear hQ; omega), fun h58 => ?_⟩
    clear h58 b24
    refine ⟨fun h59 => absurd h59 (by decide), fun h59 => ?_⟩
    refine ⟨fun h60 => ?_, fun h60 => absurd (by decide) h60⟩
    refine ⟨fun h61 => (by exfalso; omega), fun h61 => ?_⟩
    refine ⟨fun h62 => absurd h62 (by decide), fun h62 => ?_⟩
    refine ⟨rfl, ⟨(gInv_up hG (p_begins (by omega))), (show 1 ≤ (1) ∧ (1) ≤ 6 from by omega), (show -2147483648 ≤ (st 170 4) ∧ (st 170 4) ≤ 2147483647 from by omega)⟩, fun s25 q25 => ?_⟩
    obtain ⟨gs25, fs25, p25⟩ := q25
    change (st 170 8 = 0 → s25 170 8 = (1)) ∧ (0 < st 170 8 → s25 170 8 = st 170 8) at p25
    have g63 := g_faultKind gs25
    refine ⟨fun h64 => (by exfalso; omega), fun h64 => ?_⟩
    refine ⟨by omega, ?_⟩
    exact hQ _ _ ⟨gs25, (fr_tr (fr_a (fr_rf _ _) rfl) fs25 rfl), (Z9_tr (Z9_up (Z9_rf _) (by decide)) ((show aFr m_rOpF93 st (zup st 194 ((st 170 42) - 1 : Int).toNat 0) from (fr_a (fr_rf _ _) rfl)) 170 35 rfl rfl) (Z9_fr fs25 (fun _ => rfl) rfl)), (show 0 < s25 170 8 ∧ ((1 : Int) = 0 ∨ (1 : Int) = 1) from by omega)⟩
  · have g65 := g_begins hG ((st 170 42) - 1 : Int).toNat
    refine ⟨by omega, ?_⟩
    refine ⟨fun h66 => ?_, fun h66 => ?_⟩
    · refine ⟨fun h67 => ?_, fun h67 => absurd (by decide) h67⟩
      refine ⟨by omega, ?_⟩
      refine ⟨by omega, ?_⟩
      refine ⟨fun h68 => ?_, fun h68 => absurd (by decide) h68⟩
      refine ⟨fun h69 => ?_, fun h69 => absurd (by decide) h69⟩
      refine ⟨rfl, fun r26 q26 => ?_⟩
      have b26 := q26
      change (r26 = 0 ∨ r26 = 1) ∧ (r26 = 1 ↔ st 170 3 = 3 ∧ st 170 6 = (40)) at b26
      refine ⟨fun h70 => ?_, fun h70 => (by exfalso; clear hQ; omega)⟩
      clear h70 b26
      refine ⟨rfl, fun r27 q27 => ?_⟩
      have b27 := q27
      change (r27 = 0 ∨ r27 = 1) ∧ (r27 = 1 ↔ st 170 3 = 1 ∧ st 170 7 = (7170414)) at b27
      refine ⟨fun h71 => (by exfalso; clear hQ; omega), fun h71 => ?_⟩
      clear h71 b27
      refine ⟨rfl, fun r28 q28 => ?_⟩
      have b28 := q28
      change (r28 = 0 ∨ r28 = 1) ∧ (r28 = 1 ↔ st 170 3 = 1 ∧ st 170 7 = (7168376)) at b28
      refine ⟨fun h72 => (by exfalso; clear hQ; omega), fun h72 => ?_⟩
      clear h72 b28
      refine ⟨rfl, fun r29 q29 => ?_⟩
      have b29 := q29
      change (r29 = 0 ∨ r29 = 1) ∧ (r29 = 1 ↔ st 170 3 = 1 ∧ st 170 7 = (26982)) at b29
      refine ⟨fun h73 => ?_, fun h73 => (by exfalso; clear hQ; omega)⟩
      clear h73 b29
      refine ⟨fun h74 => ?_, fun h74 => (by exfalso; omega)⟩
      refine ⟨rfl, fun r30 q30 => ?_⟩
      have b30 := q30
      change (r30 = 0 ∨ r30 = 1) ∧ (r30 = 1 ↔ st 170 3 = 1 ∧ st 170 7 = (1751474548)) at b30
      refine ⟨fun h75 => ?_, fun h75 => (by exfalso; clear hQ; omega)⟩
      clear h75 b30
      refine ⟨rfl, fun r31 q31 => ?_⟩
      have b31 := q31
      change (r31 = 0 ∨ r31 = 1) ∧ (r31 = 1 ↔ st 170 3 = 1 ∧ st 170 7 = (2036687218)) at b31
      refine ⟨fun h76 => ?_, fun h76 => (by exfalso; clear hQ; omega)⟩
      clear h76 b31
      refine ⟨rfl, fun r32 q32 => ?_⟩
      have b32 := q32
      change (r32 = 0 ∨ r32 = 1) ∧ (r32 = 1 ↔ st 170 3 = 1 ∧ st 170 7 = (1953459300)) at b32
      refine ⟨fun h77 => (by exfalso; clear hQ; omega), fun h77 => ?_⟩
      clear h77 b32
      refine ⟨fun h78 => absurd h78 (by decide), fun h78 => ?_⟩
      refine ⟨fun h79 => ?_, fun h79 => absurd (by decide) h79⟩
      refine ⟨fun h80 => (by exfalso; omega), fun h80 => ?_⟩
      refine ⟨fun h81 => absurd h81 (by decide), fun h81 => ?_⟩
      refine ⟨rfl, ⟨(gInv_up hG (p_begins (by omega))), (show 1 ≤ (1) ∧ (1) ≤ 6 from by omega), (show -2147483648 ≤ (st 170 4) ∧ (st 170 4) ≤ 2147483647 from by omega)⟩, fun s33 q33 => ?_⟩
      obtain ⟨gs33, fs33, p33⟩ := q33
      change (st 170 8 = 0 → s33 170 8 = (1)) ∧ (0 < st 170 8 → s33 170 8 = st 170 8) at p33
      have g82 := g_faultKind gs33
      refine ⟨fun h83 => (by exfalso; omega), fun h83 => ?_⟩
      refine ⟨by omega, ?_⟩
      exact hQ _ _ ⟨gs33, (fr_tr (fr_a (fr_rf _ _) rfl) fs33 rfl), (Z9_tr (Z9_up (Z9_rf _) (by decide)) ((show aFr m_rOpF93 st (zup st 194 ((st 170 42) - 1 : Int).toNat 0) from (fr_a (fr_rf _ _) rfl)) 170 35 rfl rfl) (Z9_fr fs33 (fun _ => rfl) rfl)), (show 0 < s33 170 8 ∧ ((1 : Int) = 0 ∨ (1 : Int) = 1) from by omega)⟩
    · refine ⟨fun h84 => absurd h84 (by decide), fun h84 => ?_⟩
      refine ⟨rfl, fun r34 q34 => ?_⟩
      have b34 := q34
      change (r34 = 0 ∨ r34 = 1) ∧ (r34 = 1 ↔ st 170 3 = 1 ∧ st 170 7 = (7237492)) at b34
      refine ⟨fun h85 => ?_, fun h85 => (by exfalso; clear hQ; omega)⟩
      clear h85 b34
      refine ⟨by omega, ?_⟩
      refine ⟨by omega, ?_⟩
      refine ⟨fun h86 => absurd h86 (by decide), fun h86 => ?_⟩
      refine ⟨rfl, fun r35 q35 => ?_⟩
      have b35 := q35
      change (r35 = 0 ∨ r35 = 1) ∧ (r35 = 1 ↔ st 170 3 = 3 ∧ st 170 6 = (91)) at b35
      refine ⟨fun h87 => ?_, fun h87 => (by exfalso; clear hQ; omega)⟩
      clear h87 b35
      refine ⟨fun h88 => absurd h88 (by decide), fun h88 => ?_⟩
      refine ⟨rfl, fun r36 q36 => ?_⟩
      have b36 := q36
      change (r36 = 0 ∨ r36 = 1) ∧ (r36 = 1 ↔ st 170 3 = 1 ∧ st 170 7 = (6384748)) at b36
      refine ⟨fun h89 => ?_, fun h89 => (by exfalso; clear hQ; omega)⟩
      clear h89 b36
      refine ⟨rfl, fun r37 q37 => ?_⟩
      have b37 := q37
      change (r37 = 0 ∨ r37 = 1) ∧ (r37 = 1 ↔ st 170 3 = 3 ∧ st 170 6 = (40)) at b37
      refine ⟨fun h90 => ?_, fun h90 => (by exfalso; clear hQ; omega)⟩
      clear h90 b37
      refine ⟨rfl, fun r38 q38 => ?_⟩
      have b38 := q38
      change (r38 = 0 ∨ r38 = 1) ∧ (r38 = 1 ↔ st 170 3 = 1 ∧ st 170 7 = (7170414)) at b38
      refine ⟨fun h91 => (by exfalso; clear hQ; omega), fun h91 => ?_⟩
      clear h91 b38
      refine ⟨rfl, fun r39 q39 => ?_⟩
      have b39 := q39
      change (r39 = 0 ∨ r39 = 1) ∧ (r39 = 1 ↔ st 170 3 = 1 ∧ st 170 7 = (7168376)) at b39
      refine ⟨fun h92 => (by exfalso; clear hQ; omega), fun h92 => ?_⟩
      clear h92 b39
      refine ⟨rfl, fun r40 q40 => ?_⟩
      have b40 := q40
      change (r40 = 0 ∨ r40 = 1) ∧ (r40 = 1 ↔ st 170 3 = 1 ∧ st 170 7 = (26982)) at b40
      refine ⟨fun h93 => ?_, fun h93 => (by exfalso; clear hQ; omega)⟩
      clear h93 b40
      refine ⟨fun h94 => ?_, fun h94 => (by exfalso; omega)⟩
      refine ⟨rfl, fun r41 q41 => ?_⟩
      have b41 := q41
      change (r41 = 0 ∨ r41 = 1) ∧ (r41 = 1 ↔ st 170 3 = 1 ∧ st 170 7 = (1751474548)) at b41
      refine ⟨fun h95 => ?_, fun h95 => (by exfalso; clear hQ; omega)⟩
      clear h95 b41
      refine ⟨rfl, fun r42 q42 => ?_⟩
      have b42 := q42
      change (r42 = 0 ∨ r42 = 1) ∧ (r42 = 1 ↔ st 170 3 = 1 ∧ st 170 7 = (2036687218)) at b42
      refine ⟨fun h96 => ?_, fun h96 => (by exfalso; clear hQ; omega)⟩
      clear h96 b42
      refine ⟨rfl, fun r43 q43 => ?_⟩
      have b43 := q43
      change (r43 = 0 ∨ r43 = 1) ∧ (r43 = 1 ↔ st 170 3 = 1 ∧ st 170 7 = (1953459300)) at b43
      refine ⟨fun h97 => (by exfalso; clear hQ; omega), fun h97 => ?_⟩
      clear h97 b43
      refine ⟨fun h98 => absurd h98 (by decide), fun h98 => ?_⟩
      refine ⟨fun h99 => ?_, fun h99 => absurd (by decide) h99⟩
      refine ⟨fun h100 => (by exfalso; omega), fun h100 => ?_⟩
      refine ⟨fun h101 => absurd h101 (by decide), fun h101 => ?_⟩
      refine ⟨rfl, ⟨(gInv_up hG (p_begins (by omega))), (show 1 ≤ (1) ∧ (1) ≤ 6 from by omega), (show -2147483648 ≤ (st 170 4) ∧ (st 170 4) ≤ 2147483647 from by omega)⟩, fun s44 q44 => ?_⟩
      obtain ⟨gs44, fs44, p44⟩ := q44
      change (st 170 8 = 0 → s44 170 8 = (1)) ∧ (0 < st 170 8 → s44 170 8 = st 170 8) at p44
      have g102 := g_faultKind gs44
      refine ⟨fun h103 => (by exfalso; omega), fun h103 => ?_⟩
      refine ⟨by omega, ?_⟩
      exact hQ _ _ ⟨gs44, (fr_tr (fr_a (fr_rf _ _) rfl) fs44 rfl), (Z9_tr (Z9_up (Z9_rf _) (by decide)) ((show aFr m_rOpF93 st (zup st 194 ((st 170 42) - 1 : Int).toNat 0) from (fr_a (fr_rf _ _) rfl)) 170 35 rfl rfl) (Z9_fr fs44 (fun _ => rfl) rfl)), (show 0 < s44 170 8 ∧ ((1 : Int) = 0 ∨ (1 : Int) = 1) from by omega)⟩
theorem k_rOpF93_m (hTb : aTb zSh rx_tb cl) {t : Int → Int} {n k ph bg pr o p e : Int} {w c : List Int} {fs : List mFr} {D : Nat} (hD : 3 ≤ D) : ∀ as st (Q Q' : zQ), (∀ r st', Q r st' → Q' r st') → (k_rOpF93 t n k ph bg pr o p e w c fs) 196 as st Q → cl D 196 as st Q' := by
  intro as st Q Q' hQ h
  unfold k_rOpF93 at h
  split at h
  · obtain ⟨rfl, h⟩ := h
    exact c_rOpF93 hTb hD (ct_rOpF93_m hQ h)
  · exact h.elim
set_option maxHeartbeats 4000000 in
set_option maxRecDepth 100000 in
theorem c_rOpF94 (hTb : aTb zSh rx_tb cl) {t : Int → Int} {n k ph bg pr o p e : Int} {w c : List Int} {fs : List mFr} {D : Nat} (hD : 3 ≤ D) {st : zS} {Q : zQ} (h : ct_rOpF94 t n k ph bg pr o p e w c fs st Q) : cl D 196 [.inr (.inr (.inl 170))] st Q := by
  obtain ⟨d, rfl⟩ : ∃ d, D = d + 1 := ⟨D - 1, by omega⟩
  refine hTb d 196 (rx_m196, 4, 0, 0, 2) rfl _ _ _ (Nat.le_of_ble_eq_true rfl) (fun K hcl hsf hsl => ?_)
  have hcm : zmo (wcL [(181, k_rLex), (195, k_isTest), (183, k_isWord), (182, k_isSign), (178, k_blame), (194, k_rOpensF), (189, k_add), (149, k_rNext t n), (192, k_holdsBack)]) (cl d) := (wcL_m (wm_cons (k_rLex_m hTb (by omega)) (wm_cons (k_isTest_m hTb (by omega)) (wm_cons (k_isWord_m hTb (by omega)) (wm_cons (k_isSign_m hTb (by omega)) (wm_cons (k_blame_m hTb (by omega)) (wm_cons (k_rOpensF_m hTb (by omega)) (wm_cons (k_add_m hTb (by omega)) (wm_cons (k_rNext_m hTb (by omega)) (wm_cons (k_holdsBack_m hTb (by omega)) wm_nil))))))))))
  obtain ⟨hR, hQ⟩ := h
  obtain ⟨hG, mp, ht⟩ := hR
  change mcP t n st ((k, ph, bg, pr, w) :: fs) 0 (o) (c) (p) at mp
  change tk t n p 1 1886743660 e ∧ st 170 36 = 1 at ht
  have g1 := g_isClever hG
  obtain ⟨mf, mo, mn, mpp, mrd, mq, mbd, mz1, mz2, mz3⟩ := mp
  rw [List.length_cons] at mz3
  have mq0 := mq
  obtain ⟨mfr, mwb, mcd⟩ := mq
  have mt := FR_top mfr
  have mb := FR_bnd _ _ _ mwb mfr
  rw [List.length_cons] at mb
  have ml := WB_hd mwb
  have mcl := mcd.1
  have mlw := FR_len mb.2.1 mfr
  have tf := r_wrd mrd (by rw [mpp]; exact ht.1)
  have g2 := g_codes hG
  have g3 := g_in hG
  have g4 := g_deep hG
  have g5 := g_open hG
  have g6 := g_opMany hG
  have g7 := g_signAt hG
  have g8 := g_signEnd hG
  have g9 := g_faultKind hG
  have g10 := g_size hG
  have g11 := g_sign hG
  have g12 := g_lexAt hG
  have g13 := g_value hG
  have g14 := g_word hG
  have g15 := g_operand hG
  refine yr1_ok (Rt := Q) (wc := (wcL [(181, k_rLex), (195, k_isTest), (183, k_isWord), (182, k_isSign), (178, k_blame), (194, k_rOpensF), (189, k_add), (149, k_rNext t n), (192, k_holdsBack)])) (stp := []) hcm hcl [] 400 ?_
  show (170 = 170 ∧ (rq_rLex  st ∧ (((st 170 8 ≤ (0 : Int) → ((-2147483648 ≤ (st 170 42) - 1 ∧ (st 170 42) - 1 ≤ 2147483647) ∧ ((0 ≤ (st 170 42) - 1 ∧ (st 170 42) - 1 < 20) ∧ (∀ (r17 : Int), en_isTest (st 192 ((st 170 42) - 1 : Int).toNat) st r17 → ((r17 = (0 : Int) → (((0 : Int) = (0 : Int) → ((0 ≤ (st 170 42) - 1 ∧ (st 170 42) - 1 < 20) ∧ ((0 = (0 : Int) ∨ 0 = (1 : Int)) ∧ (((0 : Int) = (0 : Int) → (((0 : Int) = (0 : Int) → (170 = 170 ∧ (∀ (r18 : Int), en_isSign (40) (zup st 194 ((st 170 42) - 1 : Int).toNat 0) r18 → ((r18 = (0 : Int) → (170 = 170 ∧ (∀ (r19 : Int), en_isWord (7170414) (zup st 194 ((st 170 42) - 1 : Int).toNat 0) r19 → ((¬ r19 = (0 : Int) → _) ∧ (¬ (¬ r19 = (0 : Int)) → (170 = 170 ∧ (∀ (r20 : Int), en_isWord (7168376) (zup st 194 ((st 170 42) - 1 : Int).toNat 0) r20 → ((¬ r20 = (0 : Int) → _) ∧ (¬ (¬ r20 = (0 : Int)) → (170 = 170 ∧ (∀ (r21 : Int), en_isWord (26982) (zup st 194 ((st 170 42) - 1 : Int).toNat 0) r21 → ((r21 = (0 : Int) → ((¬ st 170 3 = (2 : Int) → (170 = 170 ∧ (∀ (r22 : Int), en_isWord (1751474548) (zup st 194 ((st 170 42) - 1 : Int).toNat 0) r22 → ((r22 = (0 : Int) → (170 = 170 ∧ (∀ (r23 : Int), en_isWord (2036687218) (zup st 194 ((st 170 42) - 1 : Int).toNat 0) r23 → ((r23 = (0 : Int) → (170 = 170 ∧ (∀ (r24 : Int), en_isWord (1953459300) (zup st 194 ((st 170 42) - 1 : Int).toNat 0) r24 → ((r24 = (0 : Int) → (170 = 170 ∧ (∀ (r25 : Int), en_isWord (1886743660) (zup st 194 ((st 170 42) - 1 : Int).toNat 0) r25 → ((r25 = (0 : Int) → _) ∧ (¬ (r25 = (0 : Int)) → (((4 : Int) < (3 : Int) → _) ∧ (¬ ((4 : Int) < (3 : Int)) → (((4 : Int) ≤ (6 : Int) → (((0 : Int) = st 170 36 → _) ∧ (¬ ((0 : Int) = st 170 36) → ((¬ ((-1) : Int) = ((-1) : Int) → _) ∧ (¬ (¬ ((-1) : Int) = ((-1) : Int)) → (170 = 170 ∧ (rq_blame (1) (st 170 4) (zup st 194 ((st 170 42) - 1 : Int).toNat 0) ∧ (∀ (s26 : zS), en_blame (1) (st 170 4) (zup st 194 ((st 170 42) - 1 : Int).toNat 0) s26 → ((s26 170 8 ≤ (0 : Int) → _) ∧ (¬ (s26 170 8 ≤ (0 : Int)) → ((1 = (0 : Int) ∨ 1 = (1 : Int)) ∧ Q (some (.inl 1)) s26))))))))))) ∧ (¬ ((4 : Int) ≤ (6 : Int)) → _))))))))) ∧ (¬ (r24 = (0 : Int)) → _))))) ∧ (¬ (r23 = (0 : Int)) → _))))) ∧ (¬ (r22 = (0 : Int)) → _))))) ∧ (¬ (¬ st 170 3 = (2 : Int)) → _))) ∧ (¬ (r21 = (0 : Int)) → _))))))))))))) ∧ (¬ (r18 = (0 : Int)) → _))))) ∧ (¬ ((0 : Int) = (0 : Int)) → _))) ∧ (¬ ((0 : Int) = (0 : Int)) → _))))) ∧ (¬ ((0 : Int) = (0 : Int)) → _))) ∧ (¬ (r17 = (0 : Int)) → ((0 ≤ (st 170 42) - 1 ∧ (st 170 42) - 1 < 20) ∧ ((st 194 ((st 170 42) - 1 : Int).toNat = (0 : Int) → (((0 : Int) = (0 : Int) → ((0 ≤ (st 170 42) - 1 ∧ (st 170 42) - 1 < 20) ∧ ((0 = (0 : Int) ∨ 0 = (1 : Int)) ∧ (((0 : Int) = (0 : Int) → (((0 : Int) = (0 : Int) → (170 = 170 ∧ (∀ (r27 : Int), en_isSign (40) (zup st 194 ((st 170 42) - 1 : Int).toNat 0) r27 → ((r27 = (0 : Int) → (170 = 170 ∧ (∀ (r28 : Int), en_isWord (7170414) (zup st 194 ((st 170 42) - 1 : Int).toNat 0) r28 → ((¬ r28 = (0 : Int) → _) ∧ (¬ (¬ r28 = (0 : Int)) → (170 = 170 ∧ (∀ (r29 : Int), en_isWord (7168376) (zup st 194 ((st 170 42) - 1 : Int).toNat 0) r29 → ((¬ r29 = (0 : Int) → _) ∧ (¬ (¬ r29 = (0 : Int)) → (170 = 170 ∧ (∀ (r30 : Int), en_isWord (26982) (zup st 194 ((st 170 42) - 1 : Int).toNat 0) r30 → ((r30 = (0 : Int) → ((¬ st 170 3 = (2 : Int) → (170 = 170 ∧ (∀ (r31 : Int), en_isWord (1751474548) (zup st 194 ((st 170 42) - 1 : Int).toNat 0) r31 → ((r31 = (0 : Int) → (170 = 170 ∧ (∀ (r32 : Int), en_isWord (2036687218) (zup st 194 ((st 170 42) - 1 : Int).toNat 0) r32 → ((r32 = (0 : Int) → (170 = 170 ∧ (∀ (r33 : Int), en_isWord (1953459300) (zup st 194 ((st 170 42) - 1 : Int).toNat 0) r33 → ((r33 = (0 : Int) → (170 = 170 ∧ (∀ (r34 : Int), en_isWord (1886743660) (zup st 194 ((st 170 42) - 1 : Int).toNat 0) r34 → ((r34 = (0 : Int) → _) ∧ (¬ (r34 = (0 : Int)) → (((4 : Int) < (3 : Int) → _) ∧ (¬ ((4 : Int) < (3 : Int)) → (((4 : Int) ≤ (6 : Int) → (((0 : Int) = st 170 36 → _) ∧ (¬ ((0 : Int) = st 170 36) → ((¬ ((-1) : Int) = ((-1) : Int) → _) ∧ (¬ (¬ ((-1) : Int) = ((-1) : Int)) → (170 = 170 ∧ (rq_blame (1) (st 170 4) (zup st 194 ((st 170 42) - 1 : Int).toNat 0) ∧ (∀ (s35 : zS), en_blame (1) (st 170 4) (zup st 194 ((st 170 42) - 1 : Int).toNat 0) s35 → ((s35 170 8 ≤ (0 : Int) → _) ∧ (¬ (s35 170 8 ≤ (0 : Int)) → ((1 = (0 : Int) ∨ 1 = (1 : Int)) ∧ Q (some (.inl 1)) s35))))))))))) ∧ (¬ ((4 : Int) ≤ (6 : Int)) → _))))))))) ∧ (¬ (r33 = (0 : Int)) → _))))) ∧ (¬ (r32 = (0 : Int)) → _))))) ∧ (¬ (r31 = (0 : Int)) → _))))) ∧ (¬ (¬ st 170 3 = (2 : Int)) → _))) ∧ (¬ (r30 = (0 : Int)) → _))))))))))))) ∧ (¬ (r27 = (0 : Int)) → _))))) ∧ (¬ ((0 : Int) = (0 : Int)) → _))) ∧ (¬ ((0 : Int) = (0 : Int)) → _))))) ∧ (¬ ((0 : Int) = (0 : Int)) → _))) ∧ (¬ (st 194 ((st 170 42) - 1 : Int).toNat = (0 : Int)) → (((1 : Int) = (0 : Int) → _) ∧ (¬ ((1 : Int) = (0 : Int)) → (170 = 170 ∧ (∀ (r36 : Int), en_isWord (7237492) st r36 → ((r36 = (0 : Int) → ((0 ≤ (st 170 42) - 1 ∧ (st 170 42) - 1 < 20) ∧ ((0 = (0 : Int) ∨ 0 = (1 : Int)) ∧ (((1 : Int) = (0 : Int) → _) ∧ (¬ ((1 : Int) = (0 : Int)) → (170 = 170 ∧ (∀ (r37 : Int), en_isSign (91) (zup st 194 ((st 170 42) - 1 : Int).toNat 0) r37 → ((r37 = (0 : Int) → (((1 : Int) = (0 : Int) → _) ∧ (¬ ((1 : Int) = (0 : Int)) → (170 = 170 ∧ (∀ (r38 : Int), en_isWord (6384748) (zup st 194 ((st 170 42) - 1 : Int).toNat 0) r38 → ((r38 = (0 : Int) → (170 = 170 ∧ (∀ (r39 : Int), en_isSign (40) (zup st 194 ((st 170 42) - 1 : Int).toNat 0) r39 → ((r39 = (0 : Int) → (170 = 170 ∧ (∀ (r40 : Int), en_isWord (7170414) (zup st 194 ((st 170 42) - 1 : Int).toNat 0) r40 → ((¬ r40 = (0 : Int) → _) ∧ (¬ (¬ r40 = (0 : Int)) → (170 = 170 ∧ (∀ (r41 : Int), en_isWord (7168376) (zup st 194 ((st 170 42) - 1 : Int).toNat 0) r41 → ((¬ r41 = (0 : Int) → _) ∧ (¬ (¬ r41 = (0 : Int)) → (170 = 170 ∧ (∀ (r42 : Int), en_isWord (26982) (zup st 194 ((st 170 42) - 1 : Int).toNat 0) r42 → ((r42 = (0 : Int) → ((¬ st 170 3 = (2 : Int) → (170 = 170 ∧ (∀ (r43 : Int), en_isWord (1751474548) (zup st 194 ((st 170 42) - 1 : Int).toNat 0) r43 → ((r43 = (0 : Int) → (170 = 170 ∧ (∀ (r44 : Int), en_isWord (2036687218) (zup st 194 ((st 170 42) - 1 : Int).toNat 0) r44 → ((r44 = (0 : Int) → (170 = 170 ∧ (∀ (r45 : Int), en_isWord (1953459300) (zup st 194 ((st 170 42) - 1 : Int).toNat 0) r45 → ((r45 = (0 : Int) → (170 = 170 ∧ (∀ (r46 : Int), en_isWord (1886743660) (zup st 194 ((st 170 42) - 1 : Int).toNat 0) r46 → ((r46 = (0 : Int) → _) ∧ (¬ (r46 = (0 : Int)) → (((4 : Int) < (3 : Int) → _) ∧ (¬ ((4 : Int) < (3 : Int)) → (((4 : Int) ≤ (6 : Int) → (((0 : Int) = st 170 36 → _) ∧ (¬ ((0 : Int) = st 170 36) → ((¬ ((-1) : Int) = ((-1) : Int) → _) ∧ (¬ (¬ ((-1) : Int) = ((-1) : Int)) → (170 = 170 ∧ (rq_blame (1) (st 170 4) (zup st 194 ((st 170 42) - 1 : Int).toNat 0) ∧ (∀ (s47 : zS), en_blame (1) (st 170 4) (zup st 194 ((st 170 42) - 1 : Int).toNat 0) s47 → ((s47 170 8 ≤ (0 : Int) → _) ∧ (¬ (s47 170 8 ≤ (0 : Int)) → ((1 = (0 : Int) ∨ 1 = (1 : Int)) ∧ Q (some (.inl 1)) s47))))))))))) ∧ (¬ ((4 : Int) ≤ (6 : Int)) → _))))))))) ∧ (¬ (r45 = (0 : Int)) → _))))) ∧ (¬ (r44 = (0 : Int)) → _))))) ∧ (¬ (r43 = (0 : Int)) → _))))) ∧ (¬ (¬ st 170 3 = (2 : Int)) → _))) ∧ (¬ (r42 = (0 : Int)) → _))))))))))))) ∧ (¬ (r39 = (0 : Int)) → _))))) ∧ (¬ (r38 = (0 : Int)) → _))))))) ∧ (¬ (r37 = (0 : Int)) → _))))))))) ∧ (¬ (r36 = (0 : Int)) → _))))))))))))))) ∧ (¬ (st 170 8 ≤ (0 : Int)) → _)))))
  refine ⟨rfl, ⟨hG, (show st 170 12 = -1 from by omega)⟩, ?_⟩
  refine ⟨fun h48 => ?_, fun h48 => (by exfalso; omega)⟩
  refine ⟨by omega, ?_⟩
  have g49 := g_frame hG ((st 170 42) - 1 : Int).toNat
  refine ⟨by omega, ?_⟩
  refine fun r17 q17 => ?_
  have b17 := q17
  change (r17 = 0 ∨ r17 = 1) ∧ (r17 = 1 ↔ (st 192 ((st 170 42) - 1 : Int).toNat) = 1 ∨ (st 192 ((st 170 42) - 1 : Int).toNat) = 5 ∨ (st 192 ((st 170 42) - 1 : Int).toNat) = 6) at b17
  refine ⟨fun h50 => ?_, fun h50 => ?_⟩
  · refine ⟨fun h51 => ?_, fun h51 => absurd (by decide) h51⟩
    refine ⟨by omega, ?_⟩
    refine ⟨by omega, ?_⟩
    refine ⟨fun h52 => ?_, fun h52 => absurd (by decide) h52⟩
    refine ⟨fun h53 => ?_, fun h53 => absurd (by decide) h53⟩
    refine ⟨rfl, fun r18 q18 => ?_⟩
    have b18 := q18
    change (r18 = 0 ∨ r18 = 1) ∧ (r18 = 1 ↔ st 170 3 = 3 ∧ st 170 6 = (40)) at b18
    refine ⟨fun h54 => ?_, fun h54 => (by exfalso; clear hQ; omega)⟩
    clear h54 b18
    refine ⟨rfl, fun r19 q19 => ?_⟩
    have b19 := q19
    change (r19 = 0 ∨ r19 = 1) ∧ (r19 = 1 ↔ st 170 3 = 1 ∧ st 170 7 = (7170414)) at b19
    refine ⟨fun h55 => (by exfalso; clear hQ; omega), fun h55 => ?_⟩
    clear h55 b19
    refine ⟨rfl, fun r20 q20 => ?_⟩
    have b20 := q20
    change (r20 = 0 ∨ r20 = 1) ∧ (r20 = 1 ↔ st 170 3 = 1 ∧ st 170 7 = (7168376)) at b20
    refine ⟨fun h56 => (by exfalso; clear hQ; omega), fun h56 => ?_⟩
    clear h56 b20
    refine ⟨rfl, fun r21 q21 => ?_⟩
    have b21 := q21
    change (r21 = 0 ∨ r21 = 1) ∧ (r21 = 1 ↔ st 170 3 = 1 ∧ st 170 7 = (26982)) at b21
    refine ⟨fun h57 => ?_, fun h57 => (by exfalso; clear hQ; omega)⟩
    clear h57 b21
    refine ⟨fun h58 => ?_, fun h58 => (by exfalso; omega)⟩
    refine ⟨rfl, fun r22 q22 => ?_⟩
    have b22 := q22
    change (r22 = 0 ∨ r22 = 1) ∧ (r22 = 1 ↔ st 170 3 = 1 ∧ st 170 7 = (1751474548)) at b22
    refine ⟨fun h59 => ?_, fun h59 => (by exfalso; clear hQ; omega)⟩
    clear h59 b22
    refine ⟨rfl, fun r23 q23 => ?_⟩
    have b23 := q23
    change (r23 = 0 ∨ r23 = 1) ∧ (r23 = 1 ↔ st 170 3 = 1 ∧ st 170 7 = (2036687218)) at b23
    refine ⟨fun h60 => ?_, fun h60 => (by exfalso; clear hQ; omega)⟩
    clear h60 b23
    refine ⟨rfl, fun r24 q24 => ?_⟩
    have b24 := q24
    change (r24 = 0 ∨ r24 = 1) ∧ (r24 = 1 ↔ st 170 3 = 1 ∧ st 170 7 = (1953459300)) at b24
    refine ⟨fun h61 => ?_, fun h61 => (by exfalso; clear hQ; omega)⟩
    clear h61 b24
    refine ⟨rfl, fun r25 q25 => ?_⟩
    have b25 := q25
    change (r25 = 0 ∨ r25 = 1) ∧ (r25 = 1 ↔ st 170 3 = 1 ∧ st 170 7 = (1886743660)) at b25
    refine ⟨fun h62 => (by exfalso; clear hQ; omega), fun h62 => ?_⟩
    clear h62 b25
    refine ⟨fun h63 => absurd h63 (by decide), fun h63 => ?_⟩
    refine ⟨fun h64 => ?_, fun h64 => absurd (by decide) h64⟩
    refine ⟨fun h65 => (by exfalso; omega), fun h65 => ?_⟩
    refine ⟨fun h66 => absurd h66 (by decide), fun h66 => ?_⟩
    refine ⟨rfl, ⟨(gInv_up hG (p_begins (by omega))), (show 1 ≤ (1) ∧ (1) ≤ 6 from by omega), (show -2147483648 ≤ (st 170 4) ∧ (st 170 4) ≤ 2147483647 from by omega)⟩, fun s26 q26 => ?_⟩
    obtain ⟨gs26, fs26, p26⟩ := q26
    change (st 170 8 = 0 → s26 170 8 = (1)) ∧ (0 < st 170 8 → s26 170 8 = st 170 8) at p26
    have g67 := g_faultKind gs26
    refine ⟨fun h68 => (by exfalso; omega), fun h68 => ?_⟩
    refine ⟨by omega, ?_⟩
    exact hQ _ _ ⟨gs26, (fr_tr (fr_a (fr_rf _ _) rfl) fs26 rfl), (Z9_tr (Z9_up (Z9_rf _) (by decide)) ((show aFr m_rOpF94 st (zup st 194 ((st 170 42) - 1 : Int).toNat 0) from (fr_a (fr_rf _ _) rfl)) 170 35 rfl rfl) (Z9_fr fs26 (fun _ => rfl) rfl)), (show 0 < s26 170 8 ∧ ((1 : Int) = 0 ∨ (1 : Int) = 1) from by omega)⟩
  · have g69 := g_begins hG ((st 170 42) - 1 : Int).toNat
    refine ⟨by omega, ?_⟩
    refine ⟨fun h70 => ?_, fun h70 => ?_⟩
    · refine ⟨fun h71 => ?_, fun h71 => absurd (by decide) h71⟩
      refine ⟨by omega, ?_⟩
      refine ⟨by omega, ?_⟩
      refine ⟨fun h72 => ?_, fun h72 => absurd (by decide) h72⟩
      refine ⟨fun h73 => ?_, fun h73 => absurd (by decide) h73⟩
      refine ⟨rfl, fun r27 q27 => ?_⟩
      have b27 := q27
      change (r27 = 0 ∨ r27 = 1) ∧ (r27 = 1 ↔ st 170 3 = 3 ∧ st 170 6 = (40)) at b27
      refine ⟨fun h74 => ?_, fun h74 => (by exfalso; clear hQ; omega)⟩
      clear h74 b27
      refine ⟨rfl, fun r28 q28 => ?_⟩
      have b28 := q28
      change (r28 = 0 ∨ r28 = 1) ∧ (r28 = 1 ↔ st 170 3 = 1 ∧ st 170 7 = (7170414)) at b28
      refine ⟨fun h75 => (by exfalso; clear hQ; omega), fun h75 => ?_⟩
      clear h75 b28
      refine ⟨rfl, fun r29 q29 => ?_⟩
      have b29 := q29
      change (r29 = 0 ∨ r29 = 1) ∧ (r29 = 1 ↔ st 170 3 = 1 ∧ st 170 7 = (7168376)) at b29
      refine ⟨fun h76 => (by exfalso; clear hQ; omega), fun h76 => ?_⟩
      clear h76 b29
      refine ⟨rfl, fun r30 q30 => ?_⟩
      have b30 := q30
      change (r30 = 0 ∨ r30 = 1) ∧ (r30 = 1 ↔ st 170 3 = 1 ∧ st 170 7 = (26982)) at b30
      refine ⟨fun h77 => ?_, fun h77 => (by exfalso; clear hQ; omega)⟩
      clear h77 b30
      refine ⟨fun h78 => ?_, fun h78 => (by exfalso; omega)⟩
      refine ⟨rfl, fun r31 q31 => ?_⟩
      have b31 := q31
      change (r31 = 0 ∨ r31 = 1) ∧ (r31 = 1 ↔ st 170 3 = 1 ∧ st 170 7 = (1751474548)) at b31
      refine ⟨fun h79 => ?_, fun h79 => (by exfalso; clear hQ; omega)⟩
      clear h79 b31
      refine ⟨rfl, fun r32 q32 => ?_⟩
      have b32 := q32
      change (r32 = 0 ∨ r32 = 1) ∧ (r32 = 1 ↔ st 170 3 = 1 ∧ st 170 7 = (2036687218)) at b32
      refine ⟨fun h80 => ?_, fun h80 => (by exfalso; clear hQ; omega)⟩
      clear h80 b32
      refine ⟨rfl, fun r33 q33 => ?_⟩
      have b33 := q33
      change (r33 = 0 ∨ r33 = 1) ∧ (r33 = 1 ↔ st 170 3 = 1 ∧ st 170 7 = (1953459300)) at b33
      refine ⟨fun h81 => ?_, fun h81 => (by exfalso; clear hQ; omega)⟩
      clear h81 b33
      refine ⟨rfl, fun r34 q34 => ?_⟩
      have b34 := q34
      change (r34 = 0 ∨ r34 = 1) ∧ (r34 = 1 ↔ st 170 3 = 1 ∧ st 170 7 = (1886743660)) at b34
      refine ⟨fun h82 => (by exfalso; clear hQ; omega), fun h82 => ?_⟩
      clear h82 b34
      refine ⟨fun h83 => absurd h83 (by decide), fun h83 => ?_⟩
      refine ⟨fun h84 => ?_, fun h84 => absurd (by decide) h84⟩
      refine ⟨fun h85 => (by exfalso; omega), fun h85 => ?_⟩
      refine ⟨fun h86 => absurd h86 (by decide), fun h86 => ?_⟩
      refine ⟨rfl, ⟨(gInv_up hG (p_begins (by omega))), (show 1 ≤ (1) ∧ (1) ≤ 6 from by omega), (show -2147483648 ≤ (st 170 4) ∧ (st 170 4) ≤ 2147483647 from by omega)⟩, fun s35 q35 => ?_⟩
      obtain ⟨gs35, fs35, p35⟩ := q35
      change (st 170 8 = 0 → s35 170 8 = (1)) ∧ (0 < st 170 8 → s35 170 8 = st 170 8) at p35
      have g87 := g_faultKind gs35
      refine ⟨fun h88 => (by exfalso; omega), fun h88 => ?_⟩
      refine ⟨by omega, ?_⟩
      exact hQ _ _ ⟨gs35, (fr_tr (fr_a (fr_rf _ _) rfl) fs35 rfl), (Z9_tr (Z9_up (Z9_rf _) (by decide)) ((show aFr m_rOpF94 st (zup st 194 ((st 170 42) - 1 : Int).toNat 0) from (fr_a (fr_rf _ _) rfl)) 170 35 rfl rfl) (Z9_fr fs35 (fun _ => rfl) rfl)), (show 0 < s35 170 8 ∧ ((1 : Int) = 0 ∨ (1 : Int) = 1) from by omega)⟩
    · refine ⟨fun h89 => absurd h89 (by decide), fun h89 => ?_⟩
      refine ⟨rfl, fun r36 q36 => ?_⟩
      have b36 := q36
      change (r36 = 0 ∨ r36 = 1) ∧ (r36 = 1 ↔ st 170 3 = 1 ∧ st 170 7 = (7237492)) at b36
      refine ⟨fun h90 => ?_, fun h90 => (by exfalso; clear hQ; omega)⟩
      clear h90 b36
      refine ⟨by omega, ?_⟩
      refine ⟨by omega, ?_⟩
      refine ⟨fun h91 => absurd h91 (by decide), fun h91 => ?_⟩
      refine ⟨rfl, fun r37 q37 => ?_⟩
      have b37 := q37
      change (r37 = 0 ∨ r37 = 1) ∧ (r37 = 1 ↔ st 170 3 = 3 ∧ st 170 6 = (91)) at b37
      refine ⟨fun h92 => ?_, fun h92 => (by exfalso; clear hQ; omega)⟩
      clear h92 b37
      refine ⟨fun h93 => absurd h93 (by decide), fun h93 => ?_⟩
      refine ⟨rfl, fun r38 q38 => ?_⟩
      have b38 := q38
      change (r38 = 0 ∨ r38 = 1) ∧ (r38 = 1 ↔ st 170 3 = 1 ∧ st 170 7 = (6384748)) at b38
      refine ⟨fun h94 => ?_, fun h94 => (by exfalso; clear hQ; omega)⟩
      clear h94 b38
      refine ⟨rfl, fun r39 q39 => ?_⟩
      have b39 := q39
      change (r39 = 0 ∨ r39 = 1) ∧ (r39 = 1 ↔ st 170 3 = 3 ∧ st 170 6 = (40)) at b39
      refine ⟨fun h95 => ?_, fun h95 => (by exfalso; clear hQ; omega)⟩
      clear h95 b39
      refine ⟨rfl, fun r40 q40 => ?_⟩
      have b40 := q40
      change (r40 = 0 ∨ r40 = 1) ∧ (r40 = 1 ↔ st 170 3 = 1 ∧ st 170 7 = (7170414)) at b40
      refine ⟨fun h96 => (by exfalso; clear hQ; omega), fun h96 => ?_⟩
      clear h96 b40
      refine ⟨rfl, fun r41 q41 => ?_⟩
      have b41 := q41
      change (r41 = 0 ∨ r41 = 1) ∧ (r41 = 1 ↔ st 170 3 = 1 ∧ st 170 7 = (7168376)) at b41
      refine ⟨fun h97 => (by exfalso; clear hQ; omega), fun h97 => ?_⟩
      clear h97 b41
      refine ⟨rfl, fun r42 q42 => ?_⟩
      have b42 := q42
      change (r42 = 0 ∨ r42 = 1) ∧ (r42 = 1 ↔ st 170 3 = 1 ∧ st 170 7 = (26982)) at b42
      refine ⟨fun h98 => ?_, fun h98 => (by exfalso; clear hQ; omega)⟩
      clear h98 b42
      refine ⟨fun h99 => ?_, fun h99 => (by exfalso; omega)⟩
      refine ⟨rfl, fun r43 q43 => ?_⟩
      have b43 := q43
      change (r43 = 0 ∨ r43 = 1) ∧ (r43 = 1 ↔ st 170 3 = 1 ∧ st 170 7 = (1751474548)) at b43
      refine ⟨fun h100 => ?_, fun h100 => (by exfalso; clear hQ; omega)⟩
      clear h100 b43
      refine ⟨rfl, fun r44 q44 => ?_⟩
      have b44 := q44
      change (r44 = 0 ∨ r44 = 1) ∧ (r44 = 1 ↔ st 170 3 = 1 ∧ st 170 7 = (2036687218)) at b44
      refine ⟨fun h101 => ?_, fun h101 => (by exfalso; clear hQ; omega)⟩
      clear h101 b44
      refine ⟨rfl, fun r45 q45 => ?_⟩
      have b45 := q45
      change (r45 = 0 ∨ r45 = 1) ∧ (r45 = 1 ↔ st 170 3 = 1 ∧ st 170 7 = (1953459300)) at b45
      refine ⟨fun h102 => ?_, fun h102 => (by exfalso; clear hQ; omega)⟩
      clear h102 b45
      refine ⟨rfl, fun r46 q46 => ?_⟩
      have b46 := q46
      change (r46 = 0 ∨ r46 = 1) ∧ (r46 = 1 ↔ st 170 3 = 1 ∧ st 170 7 = (1886743660)) at b46
      refine ⟨fun h103 => (by exfalso; clear hQ; omega), fun h103 => ?_⟩
      clear h103 b46
      refine ⟨fun h104 => absurd h104 (by decide), fun h104 => ?_⟩
      refine ⟨fun h105 => ?_, fun h105 => absurd (by decide) h105⟩
      refine ⟨fun h106 => (by exfalso; omega), fun h106 => ?_⟩
      refine ⟨fun h107 => absurd h107 (by decide), fun h107 => ?_⟩
      refine ⟨rfl, ⟨(gInv_up hG (p_begins (by omega))), (show 1 ≤ (1) ∧ (1) ≤ 6 from by omega), (show -2147483648 ≤ (st 170 4) ∧ (st 170 4) ≤ 2147483647 from by omega)⟩, fun s47 q47 => ?_⟩
      obtain ⟨gs47, fs47, p47⟩ := q47
      change (st 170 8 = 0 → s47 170 8 = (1)) ∧ (0 < st 170 8 → s47 170 8 = st 170 8) at p47
      have g108 := g_faultKind gs47
      refine ⟨fun h109 => (by exfalso; omega), fun h109 => ?_⟩
      refine ⟨by omega, ?_⟩
      exact hQ _ _ ⟨gs47, (fr_tr (fr_a (fr_rf _ _) rfl) fs47 rfl), (Z9_tr (Z9_up (Z9_rf _) (by decide)) ((show aFr m_rOpF94 st (zup st 194 ((st 170 42) - 1 : Int).toNat 0) from (fr_a (fr_rf _ _) rfl)) 170 35 rfl rfl) (Z9_fr fs47 (fun _ => rfl) rfl)), (show 0 < s47 170 8 ∧ ((1 : Int) = 0 ∨ (1 : Int) = 1) from by omega)⟩
theorem k_rOpF94_m (hTb : aTb zSh rx_tb cl) {t : Int → Int} {n k ph bg pr o p e : Int} {w c : List Int} {fs : List mFr} {D : Nat} (hD : 3 ≤ D) : ∀ as st (Q Q' : zQ), (∀ r st', Q r st' → Q' r st') → (k_rOpF94 t n k ph bg pr o p e w c fs) 196 as st Q → cl D 196 as st Q' := by
  intro as st Q Q' hQ h
  unfold k_rOpF94 at h
  split at h
  · obtain ⟨rfl, h⟩ := h
    exact c_rOpF94 hTb hD (ct_rOpF94_m hQ h)
  · exact h.elim
set_option maxHeartbeats 4000000 in
set_option maxRecDepth 100000 in
theorem c_rOpF95 (hTb : aTb zSh rx_tb cl) {t : Int → Int} {n k ph bg pr o p e : Int} {w c : List Int} {fs : List mFr} {D : Nat} (hD : 3 ≤ D) {st : zS} {Q : zQ} (h : ct_rOpF95 t n k ph bg pr o p e w c fs st Q) : cl D 196 [.inr (.inr (.inl 170))] st Q := by
  obtain ⟨d, rfl⟩ : ∃ d, D = d + 1 := ⟨D - 1, by omega⟩
  refine hTb d 196 (rx_m196, 4, 0, 0, 2) rfl _ _ _ (Nat.le_of_ble_eq_true rfl) (fun K hcl hsf hsl => ?_)
  have hcm : zmo (wcL [(181, k_rLex), (195, k_isTest), (183, k_isWord), (182, k_isSign), (178, k_blame), (194, k_rOpensF), (189, k_add), (149, k_rNext t n), (192, k_holdsBack)]) (cl d) := (wcL_m (wm_cons (k_rLex_m hTb (by omega)) (wm_cons (k_isTest_m hTb (by omega)) (wm_cons (k_isWord_m hTb (by omega)) (wm_cons (k_isSign_m hTb (by omega)) (wm_cons (k_blame_m hTb (by omega)) (wm_cons (k_rOpensF_m hTb (by omega)) (wm_cons (k_add_m hTb (by omega)) (wm_cons (k_rNext_m hTb (by omega)) (wm_cons (k_holdsBack_m hTb (by omega)) wm_nil))))))))))
  obtain ⟨hR, hQ⟩ := h
  obtain ⟨hG, mp, ht⟩ := hR
  change mcP t n st ((k, ph, bg, pr, w) :: fs) 0 (o) (c) (p) at mp
  change tk t n p 1 1937007984 e ∧ st 170 36 = 1 at ht
  have g1 := g_isClever hG
  obtain ⟨mf, mo, mn, mpp, mrd, mq, mbd, mz1, mz2, mz3⟩ := mp
  rw [List.length_cons] at mz3
  have mq0 := mq
  obtain ⟨mfr, mwb, mcd⟩ := mq
  have mt := FR_top mfr
  have mb := FR_bnd _ _ _ mwb mfr
  rw [List.length_cons] at mb
  have ml := WB_hd mwb
  have mcl := mcd.1
  have mlw := FR_len mb.2.1 mfr
  have tf := r_wrd mrd (by rw [mpp]; exact ht.1)
  have g2 := g_codes hG
  have g3 := g_in hG
  have g4 := g_deep hG
  have g5 := g_open hG
  have g6 := g_opMany hG
  have g7 := g_signAt hG
  have g8 := g_signEnd hG
  have g9 := g_faultKind hG
  have g10 := g_size hG
  have g11 := g_sign hG
  have g12 := g_lexAt hG
  have g13 := g_value hG
  have g14 := g_word hG
  have g15 := g_operand hG
  refine yr1_ok (Rt := Q) (wc := (wcL [(181, k_rLex), (195, k_isTest), (183, k_isWord), (182, k_isSign), (178, k_blame), (194, k_rOpensF), (189, k_add), (149, k_rNext t n), (192, k_holdsBack)])) (stp := []) hcm hcl [] 400 ?_
  show (170 = 170 ∧ (rq_rLex  st ∧ (((st 170 8 ≤ (0 : Int) → ((-2147483648 ≤ (st 170 42) - 1 ∧ (st 170 42) - 1 ≤ 2147483647) ∧ ((0 ≤ (st 170 42) - 1 ∧ (st 170 42) - 1 < 20) ∧ (∀ (r17 : Int), en_isTest (st 192 ((st 170 42) - 1 : Int).toNat) st r17 → ((r17 = (0 : Int) → (((0 : Int) = (0 : Int) → ((0 ≤ (st 170 42) - 1 ∧ (st 170 42) - 1 < 20) ∧ ((0 = (0 : Int) ∨ 0 = (1 : Int)) ∧ (((0 : Int) = (0 : Int) → (((0 : Int) = (0 : Int) → (170 = 170 ∧ (∀ (r18 : Int), en_isSign (40) (zup st 194 ((st 170 42) - 1 : Int).toNat 0) r18 → ((r18 = (0 : Int) → (170 = 170 ∧ (∀ (r19 : Int), en_isWord (7170414) (zup st 194 ((st 170 42) - 1 : Int).toNat 0) r19 → ((¬ r19 = (0 : Int) → _) ∧ (¬ (¬ r19 = (0 : Int)) → (170 = 170 ∧ (∀ (r20 : Int), en_isWord (7168376) (zup st 194 ((st 170 42) - 1 : Int).toNat 0) r20 → ((¬ r20 = (0 : Int) → _) ∧ (¬ (¬ r20 = (0 : Int)) → (170 = 170 ∧ (∀ (r21 : Int), en_isWord (26982) (zup st 194 ((st 170 42) - 1 : Int).toNat 0) r21 → ((r21 = (0 : Int) → ((¬ st 170 3 = (2 : Int) → (170 = 170 ∧ (∀ (r22 : Int), en_isWord (1751474548) (zup st 194 ((st 170 42) - 1 : Int).toNat 0) r22 → ((r22 = (0 : Int) → (170 = 170 ∧ (∀ (r23 : Int), en_isWord (2036687218) (zup st 194 ((st 170 42) - 1 : Int).toNat 0) r23 → ((r23 = (0 : Int) → (170 = 170 ∧ (∀ (r24 : Int), en_isWord (1953459300) (zup st 194 ((st 170 42) - 1 : Int).toNat 0) r24 → ((r24 = (0 : Int) → (170 = 170 ∧ (∀ (r25 : Int), en_isWord (1886743660) (zup st 194 ((st 170 42) - 1 : Int).toNat 0) r25 → ((r25 = (0 : Int) → (170 = 170 ∧ (∀ (r26 : Int), en_isWord (1937007984) (zup st 194 ((st 170 42) - 1 : Int).toNat 0) r26 → ((r26 = (0 : Int) → _) ∧ (¬ (r26 = (0 : Int)) → (((5 : Int) < (3 : Int) → _) ∧ (¬ ((5 : Int) < (3 : Int)) → (((5 : Int) ≤ (6 : Int) → (((0 : Int) = st 170 36 → _) ∧ (¬ ((0 : Int) = st 170 36) → ((¬ ((-1) : Int) = ((-1) : Int) → _) ∧ (¬ (¬ ((-1) : Int) = ((-1) : Int)) → (170 = 170 ∧ (rq_blame (1) (st 170 4) (zup st 194 ((st 170 42) - 1 : Int).toNat 0) ∧ (∀ (s27 : zS), en_blame (1) (st 170 4) (zup st 194 ((st 170 42) - 1 : Int).toNat 0) s27 → ((s27 170 8 ≤ (0 : Int) → _) ∧ (¬ (s27 170 8 ≤ (0 : Int)) → ((1 = (0 : Int) ∨ 1 = (1 : Int)) ∧ Q (some (.inl 1)) s27))))))))))) ∧ (¬ ((5 : Int) ≤ (6 : Int)) → _))))))))) ∧ (¬ (r25 = (0 : Int)) → _))))) ∧ (¬ (r24 = (0 : Int)) → _))))) ∧ (¬ (r23 = (0 : Int)) → _))))) ∧ (¬ (r22 = (0 : Int)) → _))))) ∧ (¬ (¬ st 170 3 = (2 : Int)) → _))) ∧ (¬ (r21 = (0 : Int)) → _))))))))))))) ∧ (¬ (r18 = (0 : Int)) → _))))) ∧ (¬ ((0 : Int) = (0 : Int)) → _))) ∧ (¬ ((0 : Int) = (0 : Int)) → _))))) ∧ (¬ ((0 : Int) = (0 : Int)) → _))) ∧ (¬ (r17 = (0 : Int)) → ((0 ≤ (st 170 42) - 1 ∧ (st 170 42) - 1 < 20) ∧ ((st 194 ((st 170 42) - 1 : Int).toNat = (0 : Int) → (((0 : Int) = (0 : Int) → ((0 ≤ (st 170 42) - 1 ∧ (st 170 42) - 1 < 20) ∧ ((0 = (0 : Int) ∨ 0 = (1 : Int)) ∧ (((0 : Int) = (0 : Int) → (((0 : Int) = (0 : Int) → (170 = 170 ∧ (∀ (r28 : Int), en_isSign (40) (zup st 194 ((st 170 42) - 1 : Int).toNat 0) r28 → ((r28 = (0 : Int) → (170 = 170 ∧ (∀ (r29 : Int), en_isWord (7170414) (zup st 194 ((st 170 42) - 1 : Int).toNat 0) r29 → ((¬ r29 = (0 : Int) → _) ∧ (¬ (¬ r29 = (0 : Int)) → (170 = 170 ∧ (∀ (r30 : Int), en_isWord (7168376) (zup st 194 ((st 170 42) - 1 : Int).toNat 0) r30 → ((¬ r30 = (0 : Int) → _) ∧ (¬ (¬ r30 = (0 : Int)) → (170 = 170 ∧ (∀ (r31 : Int), en_isWord (26982) (zup st 194 ((st 170 42) - 1 : Int).toNat 0) r31 → ((r31 = (0 : Int) → ((¬ st 170 3 = (2 : Int) → (170 = 170 ∧ (∀ (r32 : Int), en_isWord (1751474548) (zup st 194 ((st 170 42) - 1 : Int).toNat 0) r32 → ((r32 = (0 : Int) → (170 = 170 ∧ (∀ (r33 : Int), en_isWord (2036687218) (zup st 194 ((st 170 42) - 1 : Int).toNat 0) r33 → ((r33 = (0 : Int) → (170 = 170 ∧ (∀ (r34 : Int), en_isWord (1953459300) (zup st 194 ((st 170 42) - 1 : Int).toNat 0) r34 → ((r34 = (0 : Int) → (170 = 170 ∧ (∀ (r35 : Int), en_isWord (1886743660) (zup st 194 ((st 170 42) - 1 : Int).toNat 0) r35 → ((r35 = (0 : Int) → (170 = 170 ∧ (∀ (r36 : Int), en_isWord (1937007984) (zup st 194 ((st 170 42) - 1 : Int).toNat 0) r36 → ((r36 = (0 : Int) → _) ∧ (¬ (r36 = (0 : Int)) → (((5 : Int) < (3 : Int) → _) ∧ (¬ ((5 : Int) < (3 : Int)) → (((5 : Int) ≤ (6 : Int) → (((0 : Int) = st 170 36 → _) ∧ (¬ ((0 : Int) = st 170 36) → ((¬ ((-1) : Int) = ((-1) : Int) → _) ∧ (¬ (¬ ((-1) : Int) = ((-1) : Int)) → (170 = 170 ∧ (rq_blame (1) (st 170 4) (zup st 194 ((st 170 42) - 1 : Int).toNat 0) ∧ (∀ (s37 : zS), en_blame (1) (st 170 4) (zup st 194 ((st 170 42) - 1 : Int).toNat 0) s37 → ((s37 170 8 ≤ (0 : Int) → _) ∧ (¬ (s37 170 8 ≤ (0 : Int)) → ((1 = (0 : Int) ∨ 1 = (1 : Int)) ∧ Q (some (.inl 1)) s37))))))))))) ∧ (¬ ((5 : Int) ≤ (6 : Int)) → _))))))))) ∧ (¬ (r35 = (0 : Int)) → _))))) ∧ (¬ (r34 = (0 : Int)) → _))))) ∧ (¬ (r33 = (0 : Int)) → _))))) ∧ (¬ (r32 = (0 : Int)) → _))))) ∧ (¬ (¬ st 170 3 = (2 : Int)) → _))) ∧ (¬ (r31 = (0 : Int)) → _))))))))))))) ∧ (¬ (r28 = (0 : Int)) → _))))) ∧ (¬ ((0 : Int) = (0 : Int)) → _))) ∧ (¬ ((0 : Int) = (0 : Int)) → _))))) ∧ (¬ ((0 : Int) = (0 : Int)) → _))) ∧ (¬ (st 194 ((st 170 42) - 1 : Int).toNat = (0 : Int)) → (((1 : Int) = (0 : Int) → _) ∧ (¬ ((1 : Int) = (0 : Int)) → (170 = 170 ∧ (∀ (r38 : Int), en_isWord (7237492) st r38 → ((r38 = (0 : Int) → ((0 ≤ (st 170 42) - 1 ∧ (st 170 42) - 1 < 20) ∧ ((0 = (0 : Int) ∨ 0 = (1 : Int)) ∧ (((1 : Int) = (0 : Int) → _) ∧ (¬ ((1 : Int) = (0 : Int)) → (170 = 170 ∧ (∀ (r39 : Int), en_isSign (91) (zup st 194 ((st 170 42) - 1 : Int).toNat 0) r39 → ((r39 = (0 : Int) → (((1 : Int) = (0 : Int) → _) ∧ (¬ ((1 : Int) = (0 : Int)) → (170 = 170 ∧ (∀ (r40 : Int), en_isWord (6384748) (zup st 194 ((st 170 42) - 1 : Int).toNat 0) r40 → ((r40 = (0 : Int) → (170 = 170 ∧ (∀ (r41 : Int), en_isSign (40) (zup st 194 ((st 170 42) - 1 : Int).toNat 0) r41 → ((r41 = (0 : Int) → (170 = 170 ∧ (∀ (r42 : Int), en_isWord (7170414) (zup st 194 ((st 170 42) - 1 : Int).toNat 0) r42 → ((¬ r42 = (0 : Int) → _) ∧ (¬ (¬ r42 = (0 : Int)) → (170 = 170 ∧ (∀ (r43 : Int), en_isWord (7168376) (zup st 194 ((st 170 42) - 1 : Int).toNat 0) r43 → ((¬ r43 = (0 : Int) → _) ∧ (¬ (¬ r43 = (0 : Int)) → (170 = 170 ∧ (∀ (r44 : Int), en_isWord (26982) (zup st 194 ((st 170 42) - 1 : Int).toNat 0) r44 → ((r44 = (0 : Int) → ((¬ st 170 3 = (2 : Int) → (170 = 170 ∧ (∀ (r45 : Int), en_isWord (1751474548) (zup st 194 ((st 170 42) - 1 : Int).toNat 0) r45 → ((r45 = (0 : Int) → (170 = 170 ∧ (∀ (r46 : Int), en_isWord (2036687218) (zup st 194 ((st 170 42) - 1 : Int).toNat 0) r46 → ((r46 = (0 : Int) → (170 = 170 ∧ (∀ (r47 : Int), en_isWord (1953459300) (zup st 194 ((st 170 42) - 1 : Int).toNat 0) r47 → ((r47 = (0 : Int) → (170 = 170 ∧ (∀ (r48 : Int), en_isWord (1886743660) (zup st 194 ((st 170 42) - 1 : Int).toNat 0) r48 → ((r48 = (0 : Int) → (170 = 170 ∧ (∀ (r49 : Int), en_isWord (1937007984) (zup st 194 ((st 170 42) - 1 : Int).toNat 0) r49 → ((r49 = (0 : Int) → _) ∧ (¬ (r49 = (0 : Int)) → (((5 : Int) < (3 : Int) → _) ∧ (¬ ((5 : Int) < (3 : Int)) → (((5 : Int) ≤ (6 : Int) → (((0 : Int) = st 170 36 → _) ∧ (¬ ((0 : Int) = st 170 36) → ((¬ ((-1) : Int) = ((-1) : Int) → _) ∧ (¬ (¬ ((-1) : Int) = ((-1) : Int)) → (170 = 170 ∧ (rq_blame (1) (st 170 4) (zup st 194 ((st 170 42) - 1 : Int).toNat 0) ∧ (∀ (s50 : zS), en_blame (1) (st 170 4) (zup st 194 ((st 170 42) - 1 : Int).toNat 0) s50 → ((s50 170 8 ≤ (0 : Int) → _) ∧ (¬ (s50 170 8 ≤ (0 : Int)) → ((1 = (0 : Int) ∨ 1 = (1 : Int)) ∧ Q (some (.inl 1)) s50))))))))))) ∧ (¬ ((5 : Int) ≤ (6 : Int)) → _))))))))) ∧ (¬ (r48 = (0 : Int)) → _))))) ∧ (¬ (r47 = (0 : Int)) → _))))) ∧ (¬ (r46 = (0 : Int)) → _))))) ∧ (¬ (r45 = (0 : Int)) → _))))) ∧ (¬ (¬ st 170 3 = (2 : Int)) → _))) ∧ (¬ (r44 = (0 : Int)) → _))))))))))))) ∧ (¬ (r41 = (0 : Int)) → _))))) ∧ (¬ (r40 = (0 : Int)) → _))))))) ∧ (¬ (r39 = (0 : Int)) → _))))))))) ∧ (¬ (r38 = (0 : Int)) → _))))))))))))))) ∧ (¬ (st 170 8 ≤ (0 : Int)) → _)))))
  refine ⟨rfl, ⟨hG, (show st 170 12 = -1 from by omega)⟩, ?_⟩
  refine ⟨fun h51 => ?_, fun h51 => (by exfalso; omega)⟩
  refine ⟨by omega, ?_⟩
  have g52 := g_frame hG ((st 170 42) - 1 : Int).toNat
  refine ⟨by omega, ?_⟩
  refine fun r17 q17 => ?_
  have b17 := q17
  change (r17 = 0 ∨ r17 = 1) ∧ (r17 = 1 ↔ (st 192 ((st 170 42) - 1 : Int).toNat) = 1 ∨ (st 192 ((st 170 42) - 1 : Int).toNat) = 5 ∨ (st 192 ((st 170 42) - 1 : Int).toNat) = 6) at b17
  refine ⟨fun h53 => ?_, fun h53 => ?_⟩
  · refine ⟨fun h54 => ?_, fun h54 => absurd (by decide) h54⟩
    refine ⟨by omega, ?_⟩
    refine ⟨by omega, ?_⟩
    refine ⟨fun h55 => ?_, fun h55 => absurd (by decide) h55⟩
    refine ⟨fun h56 => ?_, fun h56 => absurd (by decide) h56⟩
    refine ⟨rfl, fun r18 q18 => ?_⟩
    have b18 := q18
    change (r18 = 0 ∨ r18 = 1) ∧ (r18 = 1 ↔ st 170 3 = 3 ∧ st 170 6 = (40)) at b18
    refine ⟨fun h57 => ?_, fun h57 => (by exfalso; clear hQ; omega)⟩
    clear h57 b18
    refine ⟨rfl, fun r19 q19 => ?_⟩
    have b19 := q19
    change (r19 = 0 ∨ r19 = 1) ∧ (r19 = 1 ↔ st 170 3 = 1 ∧ st 170 7 = (7170414)) at b19
    refine ⟨fun h58 => (by exfalso; clear hQ; omega), fun h58 => ?_⟩
    clear h58 b19
    refine ⟨rfl, fun r20 q20 => ?_⟩
    have b20 := q20
    change (r20 = 0 ∨ r20 = 1) ∧ (r20 = 1 ↔ st 170 3 = 1 ∧ st 170 7 = (7168376)) at b20
    refine ⟨fun h59 => (by exfalso; clear hQ; omega), fun h59 => ?_⟩
    clear h59 b20
    refine ⟨rfl, fun r21 q21 => ?_⟩
    have b21 := q21
    change (r21 = 0 ∨ r21 = 1) ∧ (r21 = 1 ↔ st 170 3 = 1 ∧ st 170 7 = (26982)) at b21
    refine ⟨fun h60 => ?_, fun h60 => (by exfalso; clear hQ; omega)⟩
    clear h60 b21
    refine ⟨fun h61 => ?_, fun h61 => (by exfalso; omega)⟩
    refine ⟨rfl, fun r22 q22 => ?_⟩
    have b22 := q22
    change (r22 = 0 ∨ r22 = 1) ∧ (r22 = 1 ↔ st 170 3 = 1 ∧ st 170 7 = (1751474548)) at b22
    refine ⟨fun h62 => ?_, fun h62 => (by exfalso; clear hQ; omega)⟩
    clear h62 b22
    refine ⟨rfl, fun r23 q23 => ?_⟩
    have b23 := q23
    change (r23 = 0 ∨ r23 = 1) ∧ (r23 = 1 ↔ st 170 3 = 1 ∧ st 170 7 = (2036687218)) at b23
    refine ⟨fun h63 => ?_, fun h63 => (by exfalso; clear hQ; omega)⟩
    clear h63 b23
    refine ⟨rfl, fun r24 q24 => ?_⟩
    have b24 := q24
    change (r24 = 0 ∨ r24 = 1) ∧ (r24 = 1 ↔ st 170 3 = 1 ∧ st 170 7 = (1953459300)) at b24
    refine ⟨fun h64 => ?_, fun h64 => (by exfalso; clear hQ; omega)⟩
    clear h64 b24
    refine ⟨rfl, fun r25 q25 => ?_⟩
    have b25 := q25
    change (r25 = 0 ∨ r25 = 1) ∧ (r25 = 1 ↔ st 170 3 = 1 ∧ st 170 7 = (1886743660)) at b25
    refine ⟨fun h65 => ?_, fun h65 => (by exfalso; clear hQ; omega)⟩
    clear h65 b25
    refine ⟨rfl, fun r26 q26 => ?_⟩
    have b26 := q26
    change (r26 = 0 ∨ r26 = 1) ∧ (r26 = 1 ↔ st 170 3 = 1 ∧ st 170 7 = (1937007984)) at b26
    refine ⟨fun h66 => (by exfalso; clear hQ; omega), fun h66 => ?_⟩
    clear h66 b26
    refine ⟨fun h67 => absurd h67 (by decide), fun h67 => ?_⟩
    refine ⟨fun h68 => ?_, fun h68 => absurd (by decide) h68⟩
    refine ⟨fun h69 => (by exfalso; omega), fun h69 => ?_⟩
    refine ⟨fun h70 => absurd h70 (by decide), fun h70 => ?_⟩
    refine ⟨rfl, ⟨(gInv_up hG (p_begins (by omega))), (show 1 ≤ (1) ∧ (1) ≤ 6 from by omega), (show -2147483648 ≤ (st 170 4) ∧ (st 170 4) ≤ 2147483647 from by omega)⟩, fun s27 q27 => ?_⟩
    obtain ⟨gs27, fs27, p27⟩ := q27
    change (st 170 8 = 0 → s27 170 8 = (1)) ∧ (0 < st 170 8 → s27 170 8 = st 170 8) at p27
    have g71 := g_faultKind gs27
    refine ⟨fun h72 => (by exfalso; omega), fun h72 => ?_⟩
    refine ⟨by omega, ?_⟩
    exact hQ _ _ ⟨gs27, (fr_tr (fr_a (fr_rf _ _) rfl) fs27 rfl), (Z9_tr (Z9_up (Z9_rf _) (by decide)) ((show aFr m_rOpF95 st (zup st 194 ((st 170 42) - 1 : Int).toNat 0) from (fr_a (fr_rf _ _) rfl)) 170 35 rfl rfl) (Z9_fr fs27 (fun _ => rfl) rfl)), (show 0 < s27 170 8 ∧ ((1 : Int) = 0 ∨ (1 : Int) = 1) from by omega)⟩
  · have g73 := g_begins hG ((st 170 42) - 1 : Int).toNat
    refine ⟨by omega, ?_⟩
    refine ⟨fun h74 => ?_, fun h74 => ?_⟩
    · refine ⟨fun h75 => ?_, fun h75 => absurd (by decide) h75⟩
      refine ⟨by omega, ?_⟩
      refine ⟨by omega, ?_⟩
      refine ⟨fun h76 => ?_, fun h76 => absurd (by decide) h76⟩
      refine ⟨fun h77 => ?_, fun h77 => absurd (by decide) h77⟩
      refine ⟨rfl, fun r28 q28 => ?_⟩
      have b28 := q28
      change (r28 = 0 ∨ r28 = 1) ∧ (r28 = 1 ↔ st 170 3 = 3 ∧ st 170 6 = (40)) at b28
      refine ⟨fun h78 => ?_, fun h78 => (by exfalso; clear hQ; omega)⟩
      clear h78 b28
      refine ⟨rfl, fun r29 q29 => ?_⟩
      have b29 := q29
      change (r29 = 0 ∨ r29 = 1) ∧ (r29 = 1 ↔ st 170 3 = 1 ∧ st 170 7 = (7170414)) at b29
      refine ⟨fun h79 => (by exfalso; clear hQ; omega), fun h79 => ?_⟩
      clear h79 b29
      refine ⟨rfl, fun r30 q30 => ?_⟩
      have b30 := q30
      change (r30 = 0 ∨ r30 = 1) ∧ (r30 = 1 ↔ st 170 3 = 1 ∧ st 170 7 = (7168376)) at b30
      refine ⟨fun h80 => (by exfalso; clear hQ; omega), fun h80 => ?_⟩
      clear h80 b30
      refine ⟨rfl, fun r31 q31 => ?_⟩
      have b31 := q31
      change (r31 = 0 ∨ r31 = 1) ∧ (r31 = 1 ↔ st 170 3 = 1 ∧ st 170 7 = (26982)) at b31
      refine ⟨fun h81 => ?_, fun h81 => (by exfalso; clear hQ; omega)⟩
      clear h81 b31
      refine ⟨fun h82 => ?_, fun h82 => (by exfalso; omega)⟩
      refine ⟨rfl, fun r32 q32 => ?_⟩
      have b32 := q32
      change (r32 = 0 ∨ r32 = 1) ∧ (r32 = 1 ↔ st 170 3 = 1 ∧ st 170 7 = (1751474548)) at b32
      refine ⟨fun h83 => ?_, fun h83 => (by exfalso; clear hQ; omega)⟩
      clear h83 b32
      refine ⟨rfl, fun r33 q33 => ?_⟩
      have b33 := q33
      change (r33 = 0 ∨ r33 = 1) ∧ (r33 = 1 ↔ st 170 3 = 1 ∧ st 170 7 = (2036687218)) at b33
      refine ⟨fun h84 => ?_, fun h84 => (by exfalso; clear hQ; omega)⟩
      clear h84 b33
      refine ⟨rfl, fun r34 q34 => ?_⟩
      have b34 := q34
      change (r34 = 0 ∨ r34 = 1) ∧ (r34 = 1 ↔ st 170 3 = 1 ∧ st 170 7 = (1953459300)) at b34
      refine ⟨fun h85 => ?_, fun h85 => (by exfalso; clear hQ; omega)⟩
      clear h85 b34
      refine ⟨rfl, fun r35 q35 => ?_⟩
      have b35 := q35
      change (r35 = 0 ∨ r35 = 1) ∧ (r35 = 1 ↔ st 170 3 = 1 ∧ st 170 7 = (1886743660)) at b35
      refine ⟨fun h86 => ?_, fun h86 => (by exfalso; clear hQ; omega)⟩
      clear h86 b35
      refine ⟨rfl, fun r36 q36 => ?_⟩
      have b36 := q36
      change (r36 = 0 ∨ r36 = 1) ∧ (r36 = 1 ↔ st 170 3 = 1 ∧ st 170 7 = (1937007984)) at b36
      refine ⟨fun h87 => (by exfalso; clear hQ; omega), fun h87 => ?_⟩
      clear h87 b36
      refine ⟨fun h88 => absurd h88 (by decide), fun h88 => ?_⟩
      refine ⟨fun h89 => ?_, fun h89 => absurd (by decide) h89⟩
      refine ⟨fun h90 => (by exfalso; omega), fun h90 => ?_⟩
      refine ⟨fun h91 => absurd h91 (by decide), fun h91 => ?_⟩
      refine ⟨rfl, ⟨(gInv_up hG (p_begins (by omega))), (show 1 ≤ (1) ∧ (1) ≤ 6 from by omega), (show -2147483648 ≤ (st 170 4) ∧ (st 170 4) ≤ 2147483647 from by omega)⟩, fun s37 q37 => ?_⟩
      obtain ⟨gs37, fs37, p37⟩ := q37
      change (st 170 8 = 0 → s37 170 8 = (1)) ∧ (0 < st 170 8 → s37 170 8 = st 170 8) at p37
      have g92 := g_faultKind gs37
      refine ⟨fun h93 => (by exfalso; omega), fun h93 => ?_⟩
      refine ⟨by omega, ?_⟩
      exact hQ _ _ ⟨gs37, (fr_tr (fr_a (fr_rf _ _) rfl) fs37 rfl), (Z9_tr (Z9_up (Z9_rf _) (by decide)) ((show aFr m_rOpF95 st (zup st 194 ((st 170 42) - 1 : Int).toNat 0) from (fr_a (fr_rf _ _) rfl)) 170 35 rfl rfl) (Z9_fr fs37 (fun _ => rfl) rfl)), (show 0 < s37 170 8 ∧ ((1 : Int) = 0 ∨ (1 : Int) = 1) from by omega)⟩
    · refine ⟨fun h94 => absurd h94 (by decide), fun h94 => ?_⟩
      refine ⟨rfl, fun r38 q38 => ?_⟩
      have b38 := q38
      change (r38 = 0 ∨ r38 = 1) ∧ (r38 = 1 ↔ st 170 3 = 1 ∧ st 170 7 = (7237492)) at b38
      refine ⟨fun h95 => ?_, fun h95 => (by exfalso; clear hQ; omega)⟩
      clear h95 b38
      refine ⟨by omega, ?_⟩
      refine ⟨by omega, ?_⟩
      refine ⟨fun h96 => absurd h96 (by decide), fun h96 => ?_⟩
      refine ⟨rfl, fun r39 q39 => ?_⟩
      have b39 := q39
      change (r39 = 0 ∨ r39 = 1) ∧ (r39 = 1 ↔ st 170 3 = 3 ∧ st 170 6 = (91)) at b39
      refine ⟨fun h97 => ?_, fun h97 => (by exfalso; clear hQ; omega)⟩
      clear h97 b39
      refine ⟨fun h98 => absurd h98 (by decide), fun h98 => ?_⟩
      refine ⟨rfl, fun r40 q40 => ?_⟩
      have b40 := q40
      change (r40 = 0 ∨ r40 = 1) ∧ (r40 = 1 ↔ st 170 3 = 1 ∧ st 170 7 = (6384748)) at b40
      refine ⟨fun h99 => ?_, fun h99 => (by exfalso; clear hQ; omega)⟩
      clear h99 b40
      refine ⟨rfl, fun r41 q41 => ?_⟩
      have b41 := q41
      change (r41 = 0 ∨ r41 = 1) ∧ (r41 = 1 ↔ st 170 3 = 3 ∧ st 170 6 = (40)) at b41
      refine ⟨fun h100 => ?_, fun h100 => (by exfalso; clear hQ; omega)⟩
      clear h100 b41
      refine ⟨rfl, fun r42 q42 => ?_⟩
      have b42 := q42
      change (r42 = 0 ∨ r42 = 1) ∧ (r42 = 1 ↔ st 170 3 = 1 ∧ st 170 7 = (7170414)) at b42
      refine ⟨fun h101 => (by exfalso; clear hQ; omega), fun h101 => ?_⟩
      clear h101 b42
      refine ⟨rfl, fun r43 q43 => ?_⟩
      have b43 := q43
      change (r43 = 0 ∨ r43 = 1) ∧ (r43 = 1 ↔ st 170 3 = 1 ∧ st 170 7 = (7168376)) at b43
      refine ⟨fun h102 => (by exfalso; clear hQ; omega), fun h102 => ?_⟩
      clear h102 b43
      refine ⟨rfl, fun r44 q44 => ?_⟩
      have b44 := q44
      change (r44 = 0 ∨ r44 = 1) ∧ (r44 = 1 ↔ st 170 3 = 1 ∧ st 170 7 = (26982)) at b44
      refine ⟨fun h103 => ?_, fun h103 => (by exfalso; clear hQ; omega)⟩
      clear h103 b44
      refine ⟨fun h104 => ?_, fun h104 => (by exfalso; omega)⟩
      refine ⟨rfl, fun r45 q45 => ?_⟩
      have b45 := q45
      change (r45 = 0 ∨ r45 = 1) ∧ (r45 = 1 ↔ st 170 3 = 1 ∧ st 170 7 = (1751474548)) at b45
      refine ⟨fun h105 => ?_, fun h105 => (by exfalso; clear hQ; omega)⟩
      clear h105 b45
      refine ⟨rfl, fun r46 q46 => ?_⟩
      have b46 := q46
      change (r46 = 0 ∨ r46 = 1) ∧ (r46 = 1 ↔ st 170 3 = 1 ∧ st 170 7 = (2036687218)) at b46
      refine ⟨fun h106 => ?_, fun h106 => (by exfalso; clear hQ; omega)⟩
      clear h106 b46
      refine ⟨rfl, fun r47 q47 => ?_⟩
      have b47 := q47
      change (r47 = 0 ∨ r47 = 1) ∧ (r47 = 1 ↔ st 170 3 = 1 ∧ st 170 7 = (1953459300)) at b47
      refine ⟨fun h107 => ?_, fun h107 => (by exfalso; clear hQ; omega)⟩
      clear h107 b47
      refine ⟨rfl, fun r48 q48 => ?_⟩
      have b48 := q48
      change (r48 = 0 ∨ r48 = 1) ∧ (r48 = 1 ↔ st 170 3 = 1 ∧ st 170 7 = (1886743660)) at b48
      refine ⟨fun h108 => ?_, fun h108 => (by exfalso; clear hQ; omega)⟩
      clear h108 b48
      refine ⟨rfl, fun r49 q49 => ?_⟩
      have b49 := q49
      change (r49 = 0 ∨ r49 = 1) ∧ (r49 = 1 ↔ st 170 3 = 1 ∧ st 170 7 = (1937007984)) at b49
      refine ⟨fun h109 => (by exfalso; clear hQ; omega), fun h109 => ?_⟩
      clear h109 b49
      refine ⟨fun h110 => absurd h110 (by decide), fun h110 => ?_⟩
      refine ⟨fun h111 => ?_, fun h111 => absurd (by decide) h111⟩
      refine ⟨fun h112 => (by exfalso; omega), fun h112 => ?_⟩
      refine ⟨fun h113 => absurd h113 (by decide), fun h113 => ?_⟩
      refine ⟨rfl, ⟨(gInv_up hG (p_begins (by omega))), (show 1 ≤ (1) ∧ (1) ≤ 6 from by omega), (show -2147483648 ≤ (st 170 4) ∧ (st 170 4) ≤ 2147483647 from by omega)⟩, fun s50 q50 => ?_⟩
      obtain ⟨gs50, fs50, p50⟩ := q50
      change (st 170 8 = 0 → s50 170 8 = (1)) ∧ (0 < st 170 8 → s50 170 8 = st 170 8) at p50
      have g114 := g_faultKind gs50
      refine ⟨fun h115 => (by exfalso; omega), fun h115 => ?_⟩
      refine ⟨by omega, ?_⟩
      exact hQ _ _ ⟨gs50, (fr_tr (fr_a (fr_rf _ _) rfl) fs50 rfl), (Z9_tr (Z9_up (Z9_rf _) (by decide)) ((show aFr m_rOpF95 st (zup st 194 ((st 170 42) - 1 : Int).toNat 0) from (fr_a (fr_rf _ _) rfl)) 170 35 rfl rfl) (Z9_fr fs50 (fun _ => rfl) rfl)), (show 0 < s50 170 8 ∧ ((1 : Int) = 0 ∨ (1 : Int) = 1) from by omega)⟩
theorem k_rOpF95_m (hTb : aTb zSh rx_tb cl) {t : Int → Int} {n k ph bg pr o p e : Int} {w c : List Int} {fs : List mFr} {D : Nat} (hD : 3 ≤ D) : ∀ as st (Q Q' : zQ), (∀ r st', Q r st' → Q' r st') → (k_rOpF95 t n k ph bg pr o p e w c fs) 196 as st Q → cl D 196 as st Q' := by
  intro as st Q Q' hQ h
  unfold k_rOpF95 at h
  split at h
  · obtain ⟨rfl, h⟩ := h
    exact c_rOpF95 hTb hD (ct_rOpF95_m hQ h)
  · exact h.elim
set_option maxHeartbeats 4000000 in
set_option maxRecDepth 100000 in
theorem c_rOpF96 (hTb : aTb zSh rx_tb cl) {t : Int → Int} {n k ph bg pr o p e : Int} {w c : List Int} {fs : List mFr} {D : Nat} (hD : 3 ≤ D) {st : zS} {Q : zQ} (h : ct_rOpF96 t n k ph bg pr o p e w c fs st Q) : cl D 196 [.inr (.inr (.inl 170))] st Q := by
  obtain ⟨d, rfl⟩ : ∃ d, D = d + 1 := ⟨D - 1, by omega⟩
  refine hTb d 196 (rx_m196, 4, 0, 0, 2) rfl _ _ _ (Nat.le_of_ble_eq_true rfl) (fun K hcl hsf hsl => ?_)
  have hcm : zmo (wcL [(181, k_rLex), (195, k_isTest), (183, k_isWord), (182, k_isSign), (178, k_blame), (194, k_rOpensF), (189, k_add), (149, k_rNext t n), (192, k_holdsBack)]) (cl d) := (wcL_m (wm_cons (k_rLex_m hTb (by omega)) (wm_cons (k_isTest_m hTb (by omega)) (wm_cons (k_isWord_m hTb (by omega)) (wm_cons (k_isSign_m hTb (by omega)) (wm_cons (k_blame_m hTb (by omega)) (wm_cons (k_rOpensF_m hTb (by omega)) (wm_cons (k_add_m hTb (by omega)) (wm_cons (k_rNext_m hTb (by omega)) (wm_cons (k_holdsBack_m hTb (by omega)) wm_nil))))))))))
  obtain ⟨hR, hQ⟩ := h
  obtain ⟨hG, mp, ht⟩ := hR
  change mcP t n st ((k, ph, bg, pr, w) :: fs) 0 (o) (c) (p) at mp
  change tk t n p 1 1650812270 e ∧ st 170 36 = 1 at ht
  have g1 := g_isClever hG
  obtain ⟨mf, mo, mn, mpp, mrd, mq, mbd, mz1, mz2, mz3⟩ := mp
  rw [List.length_cons] at mz3
  have mq0 := mq
  obtain ⟨mfr, mwb, mcd⟩ := mq
  have mt := FR_top mfr
  have mb := FR_bnd _ _ _ mwb mfr
  rw [List.length_cons] at mb
  have ml := WB_hd mwb
  have mcl := mcd.1
  have mlw := FR_len mb.2.1 mfr
  have tf := r_wrd mrd (by rw [mpp]; exact ht.1)
  have g2 := g_codes hG
  have g3 := g_in hG
  have g4 := g_deep hG
  have g5 := g_open hG
  have g6 := g_opMany hG
  have g7 := g_signAt hG
  have g8 := g_signEnd hG
  have g9 := g_faultKind hG
  have g10 := g_size hG
  have g11 := g_sign hG
  have g12 := g_lexAt hG
  have g13 := g_value hG
  have g14 := g_word hG
  have g15 := g_operand hG
  refine yr1_ok (Rt := Q) (wc := (wcL [(181, k_rLex), (195, k_isTest), (183, k_isWord), (182, k_isSign), (178, k_blame), (194, k_rOpensF), (189, k_add), (149, k_rNext t n), (192, k_holdsBack)])) (stp := []) hcm hcl [] 400 ?_
  show (170 = 170 ∧ (rq_rLex  st ∧ (((st 170 8 ≤ (0 : Int) → ((-2147483648 ≤ (st 170 42) - 1 ∧ (st 170 42) - 1 ≤ 2147483647) ∧ ((0 ≤ (st 170 42) - 1 ∧ (st 170 42) - 1 < 20) ∧ (∀ (r17 : Int), en_isTest (st 192 ((st 170 42) - 1 : Int).toNat) st r17 → ((r17 = (0 : Int) → (((0 : Int) = (0 : Int) → ((0 ≤ (st 170 42) - 1 ∧ (st 170 42) - 1 < 20) ∧ ((0 = (0 : Int) ∨ 0 = (1 : Int)) ∧ (((0 : Int) = (0 : Int) → (((0 : Int) = (0 : Int) → (170 = 170 ∧ (∀ (r18 : Int), en_isSign (40) (zup st 194 ((st 170 42) - 1 : Int).toNat 0) r18 → ((r18 = (0 : Int) → (170 = 170 ∧ (∀ (r19 : Int), en_isWord (7170414) (zup st 194 ((st 170 42) - 1 : Int).toNat 0) r19 → ((¬ r19 = (0 : Int) → _) ∧ (¬ (¬ r19 = (0 : Int)) → (170 = 170 ∧ (∀ (r20 : Int), en_isWord (7168376) (zup st 194 ((st 170 42) - 1 : Int).toNat 0) r20 → ((¬ r20 = (0 : Int) → _) ∧ (¬ (¬ r20 = (0 : Int)) → (170 = 170 ∧ (∀ (r21 : Int), en_isWord (26982) (zup st 194 ((st 170 42) - 1 : Int).toNat 0) r21 → ((r21 = (0 : Int) → ((¬ st 170 3 = (2 : Int) → (170 = 170 ∧ (∀ (r22 : Int), en_isWord (1751474548) (zup st 194 ((st 170 42) - 1 : Int).toNat 0) r22 → ((r22 = (0 : Int) → (170 = 170 ∧ (∀ (r23 : Int), en_isWord (2036687218) (zup st 194 ((st 170 42) - 1 : Int).toNat 0) r23 → ((r23 = (0 : Int) → (170 = 170 ∧ (∀ (r24 : Int), en_isWord (1953459300) (zup st 194 ((st 170 42) - 1 : Int).toNat 0) r24 → ((r24 = (0 : Int) → (170 = 170 ∧ (∀ (r25 : Int), en_isWord (1886743660) (zup st 194 ((st 170 42) - 1 : Int).toNat 0) r25 → ((r25 = (0 : Int) → (170 = 170 ∧ (∀ (r26 : Int), en_isWord (1937007984) (zup st 194 ((st 170 42) - 1 : Int).toNat 0) r26 → ((r26 = (0 : Int) → (170 = 170 ∧ (∀ (r27 : Int), en_isWord (1650812270) (zup st 194 ((st 170 42) - 1 : Int).toNat 0) r27 → ((r27 = (0 : Int) → _) ∧ (¬ (r27 = (0 : Int)) → (((6 : Int) < (3 : Int) → _) ∧ (¬ ((6 : Int) < (3 : Int)) → (((6 : Int) ≤ (6 : Int) → (((0 : Int) = st 170 36 → _) ∧ (¬ ((0 : Int) = st 170 36) → ((¬ ((-1) : Int) = ((-1) : Int) → _) ∧ (¬ (¬ ((-1) : Int) = ((-1) : Int)) → (170 = 170 ∧ (rq_blame (1) (st 170 4) (zup st 194 ((st 170 42) - 1 : Int).toNat 0) ∧ (∀ (s28 : zS), en_blame (1) (st 170 4) (zup st 194 ((st 170 42) - 1 : Int).toNat 0) s28 → ((s28 170 8 ≤ (0 : Int) → _) ∧ (¬ (s28 170 8 ≤ (0 : Int)) → ((1 = (0 : Int) ∨ 1 = (1 : Int)) ∧ Q (some (.inl 1)) s28))))))))))) ∧ (¬ ((6 : Int) ≤ (6 : Int)) → _))))))))) ∧ (¬ (r26 = (0 : Int)) → _))))) ∧ (¬ (r25 = (0 : Int)) → _))))) ∧ (¬ (r24 = (0 : Int)) → _))))) ∧ (¬ (r23 = (0 : Int)) → _))))) ∧ (¬ (r22 = (0 : Int)) → _))))) ∧ (¬ (¬ st 170 3 = (2 : Int)) → _))) ∧ (¬ (r21 = (0 : Int)) → _))))))))))))) ∧ (¬ (r18 = (0 : Int)) → _))))) ∧ (¬ ((0 : Int) = (0 : Int)) → _))) ∧ (¬ ((0 : Int) = (0 : Int)) → _))))) ∧ (¬ ((0 : Int) = (0 : Int)) → _))) ∧ (¬ (r17 = (0 : Int)) → ((0 ≤ (st 170 42) - 1 ∧ (st 170 42) - 1 < 20) ∧ ((st 194 ((st 170 42) - 1 : Int).toNat = (0 : Int) → (((0 : Int) = (0 : Int) → ((0 ≤ (st 170 42) - 1 ∧ (st 170 42) - 1 < 20) ∧ ((0 = (0 : Int) ∨ 0 = (1 : Int)) ∧ (((0 : Int) = (0 : Int) → (((0 : Int) = (0 : Int) → (170 = 170 ∧ (∀ (r29 : Int), en_isSign (40) (zup st 194 ((st 170 42) - 1 : Int).toNat 0) r29 → ((r29 = (0 : Int) → (170 = 170 ∧ (∀ (r30 : Int), en_isWord (7170414) (zup st 194 ((st 170 42) - 1 : Int).toNat 0) r30 → ((¬ r30 = (0 : Int) → _) ∧ (¬ (¬ r30 = (0 : Int)) → (170 = 170 ∧ (∀ (r31 : Int), en_isWord (7168376) (zup st 194 ((st 170 42) - 1 : Int).toNat 0) r31 → ((¬ r31 = (0 : Int) → _) ∧ (¬ (¬ r31 = (0 : Int)) → (170 = 170 ∧ (∀ (r32 : Int), en_isWord (26982) (zup st 194 ((st 170 42) - 1 : Int).toNat 0) r32 → ((r32 = (0 : Int) → ((¬ st 170 3 = (2 : Int) → (170 = 170 ∧ (∀ (r33 : Int), en_isWord (1751474548) (zup st 194 ((st 170 42) - 1 : Int).toNat 0) r33 → ((r33 = (0 : Int) → (170 = 170 ∧ (∀ (r34 : Int), en_isWord (2036687218) (zup st 194 ((st 170 42) - 1 : Int).toNat 0) r34 → ((r34 = (0 : Int) → (170 = 170 ∧ (∀ (r35 : Int), en_isWord (1953459300) (zup st 194 ((st 170 42) - 1 : Int).toNat 0) r35 → ((r35 = (0 : Int) → (170 = 170 ∧ (∀ (r36 : Int), en_isWord (1886743660) (zup st 194 ((st 170 42) - 1 : Int).toNat 0) r36 → ((r36 = (0 : Int) → (170 = 170 ∧ (∀ (r37 : Int), en_isWord (1937007984) (zup st 194 ((st 170 42) - 1 : Int).toNat 0) r37 → ((r37 = (0 : Int) → (170 = 170 ∧ (∀ (r38 : Int), en_isWord (1650812270) (zup st 194 ((st 170 42) - 1 : Int).toNat 0) r38 → ((r38 = (0 : Int) → _) ∧ (¬ (r38 = (0 : Int)) → (((6 : Int) < (3 : Int) → _) ∧ (¬ ((6 : Int) < (3 : Int)) → (((6 : Int) ≤ (6 : Int) → (((0 : Int) = st 170 36 → _) ∧ (¬ ((0 : Int) = st 170 36) → ((¬ ((-1) : Int) = ((-1) : Int) → _) ∧ (¬ (¬ ((-1) : Int) = ((-1) : Int)) → (170 = 170 ∧ (rq_blame (1) (st 170 4) (zup st 194 ((st 170 42) - 1 : Int).toNat 0) ∧ (∀ (s39 : zS), en_blame (1) (st 170 4) (zup st 194 ((st 170 42) - 1 : Int).toNat 0) s39 → ((s39 170 8 ≤ (0 : Int) → _) ∧ (¬ (s39 170 8 ≤ (0 : Int)) → ((1 = (0 : Int) ∨ 1 = (1 : Int)) ∧ Q (some (.inl 1)) s39))))))))))) ∧ (¬ ((6 : Int) ≤ (6 : Int)) → _))))))))) ∧ (¬ (r37 = (0 : Int)) → _))))) ∧ (¬ (r36 = (0 : Int)) → _))))) ∧ (¬ (r35 = (0 : Int)) → _))))) ∧ (¬ (r34 = (0 : Int)) → _))))) ∧ (¬ (r33 = (0 : Int)) → _))))) ∧ (¬ (¬ st 170 3 = (2 : Int)) → _))) ∧ (¬ (r32 = (0 : Int)) → _))))))))))))) ∧ (¬ (r29 = (0 : Int)) → _))))) ∧ (¬ ((0 : Int) = (0 : Int)) → _))) ∧ (¬ ((0 : Int) = (0 : Int)) → _))))) ∧ (¬ ((0 : Int) = (0 : Int)) → _))) ∧ (¬ (st 194 ((st 170 42) - 1 : Int).toNat = (0 : Int)) → (((1 : Int) = (0 : Int) → _) ∧ (¬ ((1 : Int) = (0 : Int)) → (170 = 170 ∧ (∀ (r40 : Int), en_isWord (7237492) st r40 → ((r40 = (0 : Int) → ((0 ≤ (st 170 42) - 1 ∧ (st 170 42) - 1 < 20) ∧ ((0 = (0 : Int) ∨ 0 = (1 : Int)) ∧ (((1 : Int) = (0 : Int) → _) ∧ (¬ ((1 : Int) = (0 : Int)) → (170 = 170 ∧ (∀ (r41 : Int), en_isSign (91) (zup st 194 ((st 170 42) - 1 : Int).toNat 0) r41 → ((r41 = (0 : Int) → (((1 : Int) = (0 : Int) → _) ∧ (¬ ((1 : Int) = (0 : Int)) → (170 = 170 ∧ (∀ (r42 : Int), en_isWord (6384748) (zup st 194 ((st 170 42) - 1 : Int).toNat 0) r42 → ((r42 = (0 : Int) → (170 = 170 ∧ (∀ (r43 : Int), en_isSign (40) (zup st 194 ((st 170 42) - 1 : Int).toNat 0) r43 → ((r43 = (0 : Int) → (170 = 170 ∧ (∀ (r44 : Int), en_isWord (7170414) (zup st 194 ((st 170 42) - 1 : Int).toNat 0) r44 → ((¬ r44 = (0 : Int) → _) ∧ (¬ (¬ r44 = (0 : Int)) → (170 = 170 ∧ (∀ (r45 : Int), en_isWord (7168376) (zup st 194 ((st 170 42) - 1 : Int).toNat 0) r45 → ((¬ r45 = (0 : Int) → _) ∧ (¬ (¬ r45 = (0 : Int)) → (170 = 170 ∧ (∀ (r46 : Int), en_isWord (26982) (zup st 194 ((st 170 42) - 1 : Int).toNat 0) r46 → ((r46 = (0 : Int) → ((¬ st 170 3 = (2 : Int) → (170 = 170 ∧ (∀ (r47 : Int), en_isWord (1751474548) (zup st 194 ((st 170 42) - 1 : Int).toNat 0) r47 → ((r47 = (0 : Int) → (170 = 170 ∧ (∀ (r48 : Int), en_isWord (2036687218) (zup st 194 ((st 170 42) - 1 : Int).toNat 0) r48 → ((r48 = (0 : Int) → (170 = 170 ∧ (∀ (r49 : Int), en_isWord (1953459300) (zup st 194 ((st 170 42) - 1 : Int).toNat 0) r49 → ((r49 = (0 : Int) → (170 = 170 ∧ (∀ (r50 : Int), en_isWord (1886743660) (zup st 194 ((st 170 42) - 1 : Int).toNat 0) r50 → ((r50 = (0 : Int) → (170 = 170 ∧ (∀ (r51 : Int), en_isWord (1937007984) (zup st 194 ((st 170 42) - 1 : Int).toNat 0) r51 → ((r51 = (0 : Int) → (170 = 170 ∧ (∀ (r52 : Int), en_isWord (1650812270) (zup st 194 ((st 170 42) - 1 : Int).toNat 0) r52 → ((r52 = (0 : Int) → _) ∧ (¬ (r52 = (0 : Int)) → (((6 : Int) < (3 : Int) → _) ∧ (¬ ((6 : Int) < (3 : Int)) → (((6 : Int) ≤ (6 : Int) → (((0 : Int) = st 170 36 → _) ∧ (¬ ((0 : Int) = st 170 36) → ((¬ ((-1) : Int) = ((-1) : Int) → _) ∧ (¬ (¬ ((-1) : Int) = ((-1) : Int)) → (170 = 170 ∧ (rq_blame (1) (st 170 4) (zup st 194 ((st 170 42) - 1 : Int).toNat 0) ∧ (∀ (s53 : zS), en_blame (1) (st 170 4) (zup st 194 ((st 170 42) - 1 : Int).toNat 0) s53 → ((s53 170 8 ≤ (0 : Int) → _) ∧ (¬ (s53 170 8 ≤ (0 : Int)) → ((1 = (0 : Int) ∨ 1 = (1 : Int)) ∧ Q (some (.inl 1)) s53))))))))))) ∧ (¬ ((6 : Int) ≤ (6 : Int)) → _))))))))) ∧ (¬ (r51 = (0 : Int)) → _))))) ∧ (¬ (r50 = (0 : Int)) → _))))) ∧ (¬ (r49 = (0 : Int)) → _))))) ∧ (¬ (r48 = (0 : Int)) → _))))) ∧ (¬ (r47 = (0 : Int)) → _))))) ∧ (¬ (¬ st 170 3 = (2 : Int)) → _))) ∧ (¬ (r46 = (0 : Int)) → _))))))))))))) ∧ (¬ (r43 = (0 : Int)) → _))))) ∧ (¬ (r42 = (0 : Int)) → _))))))) ∧ (¬ (r41 = (0 : Int)) → _))))))))) ∧ (¬ (r40 = (0 : Int)) → _))))))))))))))) ∧ (¬ (st 170 8 ≤ (0 : Int)) → _)))))
  refine ⟨rfl, ⟨hG, (show st 170 12 = -1 from by omega)⟩, ?_⟩
  refine ⟨fun h54 => ?_, fun h54 => (by exfalso; omega)⟩
  refine ⟨by omega, ?_⟩
  have g55 := g_frame hG ((st 170 42) - 1 : Int).toNat
  refine ⟨by omega, ?_⟩
  refine fun r17 q17 => ?_
  have b17 := q17
  change (r17 = 0 ∨ r17 = 1) ∧ (r17 = 1 ↔ (st 192 ((st 170 42) - 1 : Int).toNat) = 1 ∨ (st 192 ((st 170 42) - 1 : Int).toNat) = 5 ∨ (st 192 ((st 170 42) - 1 : Int).toNat) = 6) at b17
  refine ⟨fun h56 => ?_, fun h56 => ?_⟩
  · refine ⟨fun h57 => ?_, fun h57 => absurd (by decide) h57⟩
    refine ⟨by omega, ?_⟩
    refine ⟨by omega, ?_⟩
    refine ⟨fun h58 => ?_, fun h58 => absurd (by decide) h58⟩
    refine ⟨fun h59 => ?_, fun h59 => absurd (by decide) h59⟩
    refine ⟨rfl, fun r18 q18 => ?_⟩
    have b18 := q18
    change (r18 = 0 ∨ r18 = 1) ∧ (r18 = 1 ↔ st 170 3 = 3 ∧ st 170 6 = (40)) at b18
    refine ⟨fun h60 => ?_, fun h60 => (by exfalso; clear hQ; omega)⟩
    clear h60 b18
    refine ⟨rfl, fun r19 q19 => ?_⟩
    have b19 := q19
    change (r19 = 0 ∨ r19 = 1) ∧ (r19 = 1 ↔ st 170 3 = 1 ∧ st 170 7 = (7170414)) at b19
    refine ⟨fun h61 => (by exfalso; clear hQ; omega), fun h61 => ?_⟩
    clear h61 b19
    refine ⟨rfl, fun r20 q20 => ?_⟩
    have b20 := q20
    change (r20 = 0 ∨ r20 = 1) ∧ (r20 = 1 ↔ st 170 3 = 1 ∧ st 170 7 = (7168376)) at b20
    refine ⟨fun h62 => (by exfalso; clear hQ; omega), fun h62 => ?_⟩
    clear h62 b20
    refine ⟨rfl, fun r21 q21 => ?_⟩
    have b21 := q21
    change (r21 = 0 ∨ r21 = 1) ∧ (r21 = 1 ↔ st 170 3 = 1 ∧ st 170 7 = (26982)) at b21
    refine ⟨fun h63 => ?_, fun h63 => (by exfalso; clear hQ; omega)⟩
    clear h63 b21
    refine ⟨fun h64 => ?_, fun h64 => (by exfalso; omega)⟩
    refine ⟨rfl, fun r22 q22 => ?_⟩
    have b22 := q22
    change (r22 = 0 ∨ r22 = 1) ∧ (r22 = 1 ↔ st 170 3 = 1 ∧ st 170 7 = (1751474548)) at b22
    refine ⟨fun h65 => ?_, fun h65 => (by exfalso; clear hQ; omega)⟩
    clear h65 b22
    refine ⟨rfl, fun r23 q23 => ?_⟩
    have b23 := q23
    change (r23 = 0 ∨ r23 = 1) ∧ (r23 = 1 ↔ st 170 3 = 1 ∧ st 170 7 = (2036687218)) at b23
    refine ⟨fun h66 => ?_, fun h66 => (by exfalso; clear hQ; omega)⟩
    clear h66 b23
    refine ⟨rfl, fun r24 q24 => ?_⟩
    have b24 := q24
    change (r24 = 0 ∨ r24 = 1) ∧ (r24 = 1 ↔ st 170 3 = 1 ∧ st 170 7 = (1953459300)) at b24
    refine ⟨fun h67 => ?_, fun h67 => (by exfalso; clear hQ; omega)⟩
    clear h67 b24
    refine ⟨rfl, fun r25 q25 => ?_⟩
    have b25 := q25
    change (r25 = 0 ∨ r25 = 1) ∧ (r25 = 1 ↔ st 170 3 = 1 ∧ st 170 7 = (1886743660)) at b25
    refine ⟨fun h68 => ?_, fun h68 => (by exfalso; clear hQ; omega)⟩
    clear h68 b25
    refine ⟨rfl, fun r26 q26 => ?_⟩
    have b26 := q26
    change (r26 = 0 ∨ r26 = 1) ∧ (r26 = 1 ↔ st 170 3 = 1 ∧ st 170 7 = (1937007984)) at b26
    refine ⟨fun h69 => ?_, fun h69 => (by exfalso; clear hQ; omega)⟩
    clear h69 b26
    refine ⟨rfl, fun r27 q27 => ?_⟩
    have b27 := q27
    change (r27 = 0 ∨ r27 = 1) ∧ (r27 = 1 ↔ st 170 3 = 1 ∧ st 170 7 = (1650812270)) at b27
    refine ⟨fun h70 => (by exfalso; clear hQ; omega), fun h70 => ?_⟩
    clear h70 b27
    refine ⟨fun h71 => absurd h71 (by decide), fun h71 => ?_⟩
    refine ⟨fun h72 => ?_, fun h72 => absurd (by decide) h72⟩
    refine ⟨fun h73 => (by exfalso; omega), fun h73 => ?_⟩
    refine ⟨fun h74 => absurd h74 (by decide), fun h74 => ?_⟩
    refine ⟨rfl, ⟨(gInv_up hG (p_begins (by omega))), (show 1 ≤ (1) ∧ (1) ≤ 6 from by omega), (show -2147483648 ≤ (st 170 4) ∧ (st 170 4) ≤ 2147483647 from by omega)⟩, fun s28 q28 => ?_⟩
    obtain ⟨gs28, fs28, p28⟩ := q28
    change (st 170 8 = 0 → s28 170 8 = (1)) ∧ (0 < st 170 8 → s28 170 8 = st 170 8) at p28
    have g75 := g_faultKind gs28
    refine ⟨fun h76 => (by exfalso; omega), fun h76 => ?_⟩
    refine ⟨by omega, ?_⟩
    exact hQ _ _ ⟨gs28, (fr_tr (fr_a (fr_rf _ _) rfl) fs28 rfl), (Z9_tr (Z9_up (Z9_rf _) (by decide)) ((show aFr m_rOpF96 st (zup st 194 ((st 170 42) - 1 : Int).toNat 0) from (fr_a (fr_rf _ _) rfl)) 170 35 rfl rfl) (Z9_fr fs28 (fun _ => rfl) rfl)), (show 0 < s28 170 8 ∧ ((1 : Int) = 0 ∨ (1 : Int) = 1) from by omega)⟩
  · have g77 := g_begins hG ((st 170 42) - 1 : Int).toNat
    refine ⟨by omega, ?_⟩
    refine ⟨fun h78 => ?_, fun h78 => ?_⟩
    · refine ⟨fun h79 => ?_, fun h79 => absurd (by decide) h79⟩
      refine ⟨by omega, ?_⟩
      refine ⟨by omega, ?_⟩
      refine ⟨fun h80 => ?_, fun h80 => absurd (by decide) h80⟩
      refine ⟨fun h81 => ?_, fun h81 => absurd (by decide) h81⟩
      refine ⟨rfl, fun r29 q29 => ?_⟩
      have b29 := q29
      change (r29 = 0 ∨ r29 = 1) ∧ (r29 = 1 ↔ st 170 3 = 3 ∧ st 170 6 = (40)) at b29
      refine ⟨fun h82 => ?_, fun h82 => (by exfalso; clear hQ; omega)⟩
      clear h82 b29
      refine ⟨rfl, fun r30 q30 => ?_⟩
      have b30 := q30
      change (r30 = 0 ∨ r30 = 1) ∧ (r30 = 1 ↔ st 170 3 = 1 ∧ st 170 7 = (7170414)) at b30
      refine ⟨fun h83 => (by exfalso; clear hQ; omega), fun h83 => ?_⟩
      clear h83 b30
      refine ⟨rfl, fun r31 q31 => ?_⟩
      have b31 := q31
      change (r31 = 0 ∨ r31 = 1) ∧ (r31 = 1 ↔ st 170 3 = 1 ∧ st 170 7 = (7168376)) at b31
      refine ⟨fun h84 => (by exfalso; clear hQ; omega), fun h84 => ?_⟩
      clear h84 b31
      refine ⟨rfl, fun r32 q32 => ?_⟩
      have b32 := q32
      change (r32 = 0 ∨ r32 = 1) ∧ (r32 = 1 ↔ st 170 3 = 1 ∧ st 170 7 = (26982)) at b32
      refine ⟨fun h85 => ?_, fun h85 => (by exfalso; clear hQ; omega)⟩
      clear h85 b32
      refine ⟨fun h86 => ?_, fun h86 => (by exfalso; omega)⟩
      refine ⟨rfl, fun r33 q33 => ?_⟩
      have b33 := q33
      change (r33 = 0 ∨ r33 = 1) ∧ (r33 = 1 ↔ st 170 3 = 1 ∧ st 170 7 = (1751474548)) at b33
      refine ⟨fun h87 => ?_, fun h87 => (by exfalso; clear hQ; omega)⟩
      clear h87 b33
      refine ⟨rfl, fun r34 q34 => ?_⟩
      have b34 := q34
      change (r34 = 0 ∨ r34 = 1) ∧ (r34 = 1 ↔ st 170 3 = 1 ∧ st 170 7 = (2036687218)) at b34
      refine ⟨fun h88 => ?_, fun h88 => (by exfalso; clear hQ; omega)⟩
      clear h88 b34
      refine ⟨rfl, fun r35 q35 => ?_⟩
      have b35 := q35
      change (r35 = 0 ∨ r35 = 1) ∧ (r35 = 1 ↔ st 170 3 = 1 ∧ st 170 7 = (1953459300)) at b35
      refine ⟨fun h89 => ?_, fun h89 => (by exfalso; clear hQ; omega)⟩
      clear h89 b35
      refine ⟨rfl, fun r36 q36 => ?_⟩
      have b36 := q36
      change (r36 = 0 ∨ r36 = 1) ∧ (r36 = 1 ↔ st 170 3 = 1 ∧ st 170 7 = (1886743660)) at b36
      refine ⟨fun h90 => ?_, fun h90 => (by exfalso; clear hQ; omega)⟩
      clear h90 b36
      refine ⟨rfl, fun r37 q37 => ?_⟩
      have b37 := q37
      change (r37 = 0 ∨ r37 = 1) ∧ (r37 = 1 ↔ st 170 3 = 1 ∧ st 170 7 = (1937007984)) at b37
      refine ⟨fun h91 => ?_, fun h91 => (by exfalso; clear hQ; omega)⟩
      clear h91 b37
      refine ⟨rfl, fun r38 q38 => ?_⟩
      have b38 := q38
      change (r38 = 0 ∨ r38 = 1) ∧ (r38 = 1 ↔ st 170 3 = 1 ∧ st 170 7 = (1650812270)) at b38
      refine ⟨fun h92 => (by exfalso; clear hQ; omega), fun h92 => ?_⟩
      clear h92 b38
      refine ⟨fun h93 => absurd h93 (by decide), fun h93 => ?_⟩
      refine ⟨fun h94 => ?_, fun h94 => absurd (by decide) h94⟩
      refine ⟨fun h95 => (by exfalso; omega), fun h95 => ?_⟩
      refine ⟨fun h96 => absurd h96 (by decide), fun h96 => ?_⟩
      refine ⟨rfl, ⟨(gInv_up hG (p_begins (by omega))), (show 1 ≤ (1) ∧ (1) ≤ 6 from by omega), (show -2147483648 ≤ (st 170 4) ∧ (st 170 4) ≤ 2147483647 from by omega)⟩, fun s39 q39 => ?_⟩
      obtain ⟨gs39, fs39, p39⟩ := q39
      change (st 170 8 = 0 → s39 170 8 = (1)) ∧ (0 < st 170 8 → s39 170 8 = st 170 8) at p39
      have g97 := g_faultKind gs39
      refine ⟨fun h98 => (by exfalso; omega), fun h98 => ?_⟩
      refine ⟨by omega, ?_⟩
      exact hQ _ _ ⟨gs39, (fr_tr (fr_a (fr_rf _ _) rfl) fs39 rfl), (Z9_tr (Z9_up (Z9_rf _) (by decide)) ((show aFr m_rOpF96 st (zup st 194 ((st 170 42) - 1 : Int).toNat 0) from (fr_a (fr_rf _ _) rfl)) 170 35 rfl rfl) (Z9_fr fs39 (fun _ => rfl) rfl)), (show 0 < s39 170 8 ∧ ((1 : Int) = 0 ∨ (1 : Int) = 1) from by omega)⟩
    · refine ⟨fun h99 => absurd h99 (by decide), fun h99 => ?_⟩
      refine ⟨rfl, fun r40 q40 => ?_⟩
      have b40 := q40
      change (r40 = 0 ∨ r40 = 1) ∧ (r40 = 1 ↔ st 170 3 = 1 ∧ st 170 7 = (7237492)) at b40
      refine ⟨fun h100 => ?_, fun h100 => (by exfalso; clear hQ; omega)⟩
      clear h100 b40
      refine ⟨by omega, ?_⟩
      refine ⟨by omega, ?_⟩
      refine ⟨fun h101 => absurd h101 (by decide), fun h101 => ?_⟩
      refine ⟨rfl, fun r41 q41 => ?_⟩
      have b41 := q41
      change (r41 = 0 ∨ r41 = 1) ∧ (r41 = 1 ↔ st 170 3 = 3 ∧ st 170 6 = (91)) at b41
      refine ⟨fun h102 => ?_, fun h102 => (by exfalso; clear hQ; omega)⟩
      clear h102 b41
      refine ⟨fun h103 => absurd h103 (by decide), fun h103 => ?_⟩
      refine ⟨rfl, fun r42 q42 => ?_⟩
      have b42 := q42
      change (r42 = 0 ∨ r42 = 1) ∧ (r42 = 1 ↔ st 170 3 = 1 ∧ st 170 7 = (6384748)) at b42
      refine ⟨fun h104 => ?_, fun h104 => (by exfalso; clear hQ; omega)⟩
      clear h104 b42
      refine ⟨rfl, fun r43 q43 => ?_⟩
      have b43 := q43
      change (r43 = 0 ∨ r43 = 1) ∧ (r43 = 1 ↔ st 170 3 = 3 ∧ st 170 6 = (40)) at b43
      refine ⟨fun h105 => ?_, fun h105 => (by exfalso; clear hQ; omega)⟩
      clear h105 b43
      refine ⟨rfl, fun r44 q44 => ?_⟩
      have b44 := q44
      change (r44 = 0 ∨ r44 = 1) ∧ (r44 = 1 ↔ st 170 3 = 1 ∧ st 170 7 = (7170414)) at b44
      refine ⟨fun h106 => (by exfalso; clear hQ; omega), fun h106 => ?_⟩
      clear h106 b44
      refine ⟨rfl, fun r45 q45 => ?_⟩
      have b45 := q45
      change (r45 = 0 ∨ r45 = 1) ∧ (r45 = 1 ↔ st 170 3 = 1 ∧ st 170 7 = (7168376)) at b45
      refine ⟨fun h107 => (by exfalso; clear hQ; omega), fun h107 => ?_⟩
      clear h107 b45
      refine ⟨rfl, fun r46 q46 => ?_⟩
      have b46 := q46
      change (r46 = 0 ∨ r46 = 1) ∧ (r46 = 1 ↔ st 170 3 = 1 ∧ st 170 7 = (26982)) at b46
      refine ⟨fun h108 => ?_, fun h108 => (by exfalso; clear hQ; omega)⟩
      clear h108 b46
      refine ⟨fun h109 => ?_, fun h109 => (by exfalso; omega)⟩
      refine ⟨rfl, fun r47 q47 => ?_⟩
      have b47 := q47
      change (r47 = 0 ∨ r47 = 1) ∧ (r47 = 1 ↔ st 170 3 = 1 ∧ st 170 7 = (1751474548)) at b47
      refine ⟨fun h110 => ?_, fun h110 => (by exfalso; clear hQ; omega)⟩
      clear h110 b47
      refine ⟨rfl, fun r48 q48 => ?_⟩
      have b48 := q48
      change (r48 = 0 ∨ r48 = 1) ∧ (r48 = 1 ↔ st 170 3 = 1 ∧ st 170 7 = (2036687218)) at b48
      refine ⟨fun h111 => ?_, fun h111 => (by exfalso; clear hQ; omega)⟩
      clear h111 b48
      refine ⟨rfl, fun r49 q49 => ?_⟩
      have b49 := q49
      change (r49 = 0 ∨ r49 = 1) ∧ (r49 = 1 ↔ st 170 3 = 1 ∧ st 170 7 = (1953459300)) at b49
      refine ⟨fun h112 => ?_, fun h112 => (by exfalso; clear hQ; omega)⟩
      clear h112 b49
      refine ⟨rfl, fun r50 q50 => ?_⟩
      have b50 := q50
      change (r50 = 0 ∨ r50 = 1) ∧ (r50 = 1 ↔ st 170 3 = 1 ∧ st 170 7 = (1886743660)) at b50
      refine ⟨fun h113 => ?_, fun h113 => (by exfalso; clear hQ; omega)⟩
      clear h113 b50
      refine ⟨rfl, fun r51 q51 => ?_⟩
      have b51 := q51
      change (r51 = 0 ∨ r51 = 1) ∧ (r51 = 1 ↔ st 170 3 = 1 ∧ st 170 7 = (1937007984)) at b51
      refine ⟨fun h114 => ?_, fun h114 => (by exfalso; clear hQ; omega)⟩
      clear h114 b51
      refine ⟨rfl, fun r52 q52 => ?_⟩
      have b52 := q52
      change (r52 = 0 ∨ r52 = 1) ∧ (r52 = 1 ↔ st 170 3 = 1 ∧ st 170 7 = (1650812270)) at b52
      refine ⟨fun h115 => (by exfalso; clear hQ; omega), fun h115 => ?_⟩
      clear h115 b52
      refine ⟨fun h116 => absurd h116 (by decide), fun h116 => ?_⟩
      refine ⟨fun h117 => ?_, fun h117 => absurd (by decide) h117⟩
      refine ⟨fun h118 => (by exfalso; omega), fun h118 => ?_⟩
      refine ⟨fun h119 => absurd h119 (by decide), fun h119 => ?_⟩
      refine ⟨rfl, ⟨(gInv_up hG (p_begins (by omega))), (show 1 ≤ (1) ∧ (1) ≤ 6 from by omega), (show -2147483648 ≤ (st 170 4) ∧ (st 170 4) ≤ 2147483647 from by omega)⟩, fun s53 q53 => ?_⟩
      obtain ⟨gs53, fs53, p53⟩ := q53
      change (st 170 8 = 0 → s53 170 8 = (1)) ∧ (0 < st 170 8 → s53 170 8 = st 170 8) at p53
      have g120 := g_faultKind gs53
      refine ⟨fun h121 => (by exfalso; omega), fun h121 => ?_⟩
      refine ⟨by omega, ?_⟩
      exact hQ _ _ ⟨gs53, (fr_tr (fr_a (fr_rf _ _) rfl) fs53 rfl), (Z9_tr (Z9_up (Z9_rf _) (by decide)) ((show aFr m_rOpF96 st (zup st 194 ((st 170 42) - 1 : Int).toNat 0) from (fr_a (fr_rf _ _) rfl)) 170 35 rfl rfl) (Z9_fr fs53 (fun _ => rfl) rfl)), (show 0 < s53 170 8 ∧ ((1 : Int) = 0 ∨ (1 : Int) = 1) from by omega)⟩
theorem k_rOpF96_m (hTb : aTb zSh rx_tb cl) {t : Int → Int} {n k ph bg pr o p e : Int} {w c : List Int} {fs : List mFr} {D : Nat} (hD : 3 ≤ D) : ∀ as st (Q Q' : zQ), (∀ r st', Q r st' → Q' r st') → (k_rOpF96 t n k ph bg pr o p e w c fs) 196 as st Q → cl D 196 as st Q' := by
  intro as st Q Q' hQ h
  unfold k_rOpF96 at h
  split at h
  · obtain ⟨rfl, h⟩ := h
    exact c_rOpF96 hTb hD (ct_rOpF96_m hQ h)
  · exact h.elim
set_option maxHeartbeats 4000000 in
set_option maxRecDepth 100000 in
theorem c_rOpF97 (hTb : aTb zSh rx_tb cl) {t : Int → Int} {n k ph bg pr o p e : Int} {w c : List Int} {fs : List mFr} {D : Nat} (hD : 3 ≤ D) {st : zS} {Q : zQ} (h : ct_rOpF97 t n k ph bg pr o p e w c fs st Q) : cl D 196 [.inr (.inr (.inl 170))] st Q := by
  obtain ⟨d, rfl⟩ : ∃ d, D = d + 1 := ⟨D - 1, by omega⟩
  refine hTb d 196 (rx_m196, 4, 0, 0, 2) rfl _ _ _ (Nat.le_of_ble_eq_true rfl) (fun K hcl hsf hsl => ?_)
  have hcm : zmo (wcL [(181, k_rLex), (195, k_isTest), (183, k_isWord), (182, k_isSign), (178, k_blame), (194, k_rOpensF), (189, k_add), (149, k_rNext t n), (192, k_holdsBack)]) (cl d) := (wcL_m (wm_cons (k_rLex_m hTb (by omega)) (wm_cons (k_isTest_m hTb (by omega)) (wm_cons (k_isWord_m hTb (by omega)) (wm_cons (k_isSign_m hTb (by omega)) (wm_cons (k_blame_m hTb (by omega)) (wm_cons (k_rOpensF_m hTb (by omega)) (wm_cons (k_add_m hTb (by omega)) (wm_cons (k_rNext_m hTb (by omega)) (wm_cons (k_holdsBack_m hTb (by omega)) wm_nil))))))))))
  obtain ⟨hR, hQ⟩ := h
  obtain ⟨hG, mp, ht⟩ := hR
  change mcP t n st ((k, ph, bg, pr, w) :: fs) 0 (o) (c) (p) at mp
  change tk t n p 1 495874044019 e ∧ st 170 36 = 0 at ht
  have g1 := g_isClever hG
  obtain ⟨mf, mo, mn, mpp, mrd, mq, mbd, mz1, mz2, mz3⟩ := mp
  rw [List.length_cons] at mz3
  have mq0 := mq
  obtain ⟨mfr, mwb, mcd⟩ := mq
  have mt := FR_top mfr
  have mb := FR_bnd _ _ _ mwb mfr
  rw [List.length_cons] at mb
  have ml := WB_hd mwb
  have mcl := mcd.1
  have mlw := FR_len mb.2.1 mfr
  have tf := r_wrd mrd (by rw [mpp]; exact ht.1)
  have g2 := g_codes hG
  have g3 := g_in hG
  have g4 := g_deep hG
  have g5 := g_open hG
  have g6 := g_opMany hG
  have g7 := g_signAt hG
  have g8 := g_signEnd hG
  have g9 := g_faultKind hG
  have g10 := g_size hG
  have g11 := g_sign hG
  have g12 := g_lexAt hG
  have g13 := g_value hG
  have g14 := g_word hG
  have g15 := g_operand hG
  refine yr1_ok (Rt := Q) (wc := (wcL [(181, k_rLex), (195, k_isTest), (183, k_isWord), (182, k_isSign), (178, k_blame), (194, k_rOpensF), (189, k_add), (149, k_rNext t n), (192, k_holdsBack)])) (stp := []) hcm hcl [] 400 ?_
  show (170 = 170 ∧ (rq_rLex  st ∧ (((st 170 8 ≤ (0 : Int) → ((-2147483648 ≤ (st 170 42) - 1 ∧ (st 170 42) - 1 ≤ 2147483647) ∧ ((0 ≤ (st 170 42) - 1 ∧ (st 170 42) - 1 < 20) ∧ (∀ (r17 : Int), en_isTest (st 192 ((st 170 42) - 1 : Int).toNat) st r17 → ((r17 = (0 : Int) → (((0 : Int) = (0 : Int) → ((0 ≤ (st 170 42) - 1 ∧ (st 170 42) - 1 < 20) ∧ ((0 = (0 : Int) ∨ 0 = (1 : Int)) ∧ (((0 : Int) = (0 : Int) → (((0 : Int) = (0 : Int) → (170 = 170 ∧ (∀ (r18 : Int), en_isSign (40) (zup st 194 ((st 170 42) - 1 : Int).toNat 0) r18 → ((r18 = (0 : Int) → (170 = 170 ∧ (∀ (r19 : Int), en_isWord (7170414) (zup st 194 ((st 170 42) - 1 : Int).toNat 0) r19 → ((¬ r19 = (0 : Int) → _) ∧ (¬ (¬ r19 = (0 : Int)) → (170 = 170 ∧ (∀ (r20 : Int), en_isWord (7168376) (zup st 194 ((st 170 42) - 1 : Int).toNat 0) r20 → ((¬ r20 = (0 : Int) → _) ∧ (¬ (¬ r20 = (0 : Int)) → (170 = 170 ∧ (∀ (r21 : Int), en_isWord (26982) (zup st 194 ((st 170 42) - 1 : Int).toNat 0) r21 → ((r21 = (0 : Int) → ((¬ st 170 3 = (2 : Int) → (170 = 170 ∧ (∀ (r22 : Int), en_isWord (1751474548) (zup st 194 ((st 170 42) - 1 : Int).toNat 0) r22 → ((r22 = (0 : Int) → (170 = 170 ∧ (∀ (r23 : Int), en_isWord (2036687218) (zup st 194 ((st 170 42) - 1 : Int).toNat 0) r23 → ((r23 = (0 : Int) → (170 = 170 ∧ (∀ (r24 : Int), en_isWord (1953459300) (zup st 194 ((st 170 42) - 1 : Int).toNat 0) r24 → ((r24 = (0 : Int) → (170 = 170 ∧ (∀ (r25 : Int), en_isWord (1886743660) (zup st 194 ((st 170 42) - 1 : Int).toNat 0) r25 → ((r25 = (0 : Int) → (170 = 170 ∧ (∀ (r26 : Int), en_isWord (1937007984) (zup st 194 ((st 170 42) - 1 : Int).toNat 0) r26 → ((r26 = (0 : Int) → (170 = 170 ∧ (∀ (r27 : Int), en_isWord (1650812270) (zup st 194 ((st 170 42) - 1 : Int).toNat 0) r27 → ((r27 = (0 : Int) → (170 = 170 ∧ (∀ (r28 : Int), en_isWord (495874044019) (zup st 194 ((st 170 42) - 1 : Int).toNat 0) r28 → ((r28 = (0 : Int) → _) ∧ (¬ (r28 = (0 : Int)) → (((7 : Int) < (3 : Int) → _) ∧ (¬ ((7 : Int) < (3 : Int)) → (((7 : Int) ≤ (6 : Int) → _) ∧ (¬ ((7 : Int) ≤ (6 : Int)) → (((1 : Int) = st 170 36 → _) ∧ (¬ ((1 : Int) = st 170 36) → ((¬ ((-1) : Int) = ((-1) : Int) → _) ∧ (¬ (¬ ((-1) : Int) = ((-1) : Int)) → (170 = 170 ∧ (rq_blame (1) (st 170 4) (zup st 194 ((st 170 42) - 1 : Int).toNat 0) ∧ (∀ (s29 : zS), en_blame (1) (st 170 4) (zup st 194 ((st 170 42) - 1 : Int).toNat 0) s29 → ((s29 170 8 ≤ (0 : Int) → _) ∧ (¬ (s29 170 8 ≤ (0 : Int)) → ((1 = (0 : Int) ∨ 1 = (1 : Int)) ∧ Q (some (.inl 1)) s29))))))))))))))))))) ∧ (¬ (r27 = (0 : Int)) → _))))) ∧ (¬ (r26 = (0 : Int)) → _))))) ∧ (¬ (r25 = (0 : Int)) → _))))) ∧ (¬ (r24 = (0 : Int)) → _))))) ∧ (¬ (r23 = (0 : Int)) → _))))) ∧ (¬ (r22 = (0 : Int)) → _))))) ∧ (¬ (¬ st 170 3 = (2 : Int)) → _))) ∧ (¬ (r21 = (0 : Int)) → _))))))))))))) ∧ (¬ (r18 = (0 : Int)) → _))))) ∧ (¬ ((0 : Int) = (0 : Int)) → _))) ∧ (¬ ((0 : Int) = (0 : Int)) → _))))) ∧ (¬ ((0 : Int) = (0 : Int)) → _))) ∧ (¬ (r17 = (0 : Int)) → ((0 ≤ (st 170 42) - 1 ∧ (st 170 42) - 1 < 20) ∧ ((st 194 ((st 170 42) - 1 : Int).toNat = (0 : Int) → (((0 : Int) = (0 : Int) → ((0 ≤ (st 170 42) - 1 ∧ (st 170 42) - 1 < 20) ∧ ((0 = (0 : Int) ∨ 0 = (1 : Int)) ∧ (((0 : Int) = (0 : Int) → (((0 : Int) = (0 : Int) → (170 = 170 ∧ (∀ (r30 : Int), en_isSign (40) (zup st 194 ((st 170 42) - 1 : Int).toNat 0) r30 → ((r30 = (0 : Int) → (170 = 170 ∧ (∀ (r31 : Int), en_isWord (7170414) (zup st 194 ((st 170 42) - 1 : Int).toNat 0) r31 → ((¬ r31 = (0 : Int) → _) ∧ (¬ (¬ r31 = (0 : Int)) → (170 = 170 ∧ (∀ (r32 : Int), en_isWord (7168376) (zup st 194 ((st 170 42) - 1 : Int).toNat 0) r32 → ((¬ r32 = (0 : Int) → _) ∧ (¬ (¬ r32 = (0 : Int)) → (170 = 170 ∧ (∀ (r33 : Int), en_isWord (26982) (zup st 194 ((st 170 42) - 1 : Int).toNat 0) r33 → ((r33 = (0 : Int) → ((¬ st 170 3 = (2 : Int) → (170 = 170 ∧ (∀ (r34 : Int), en_isWord (1751474548) (zup st 194 ((st 170 42) - 1 : Int).toNat 0) r34 → ((r34 = (0 : Int) → (170 = 170 ∧ (∀ (r35 : Int), en_isWord (2036687218) (zup st 194 ((st 170 42) - 1 : Int).toNat 0) r35 → ((r35 = (0 : Int) → (170 = 170 ∧ (∀ (r36 : Int), en_isWord (1953459300) (zup st 194 ((st 170 42) - 1 : Int).toNat 0) r36 → ((r36 = (0 : Int) → (170 = 170 ∧ (∀ (r37 : Int), en_isWord (1886743660) (zup st 194 ((st 170 42) - 1 : Int).toNat 0) r37 → ((r37 = (0 : Int) → (170 = 170 ∧ (∀ (r38 : Int), en_isWord (1937007984) (zup st 194 ((st 170 42) - 1 : Int).toNat 0) r38 → ((r38 = (0 : Int) → (170 = 170 ∧ (∀ (r39 : Int), en_isWord (1650812270) (zup st 194 ((st 170 42) - 1 : Int).toNat 0) r39 → ((r39 = (0 : Int) → (170 = 170 ∧ (∀ (r40 : Int), en_isWord (495874044019) (zup st 194 ((st 170 42) - 1 : Int).toNat 0) r40 → ((r40 = (0 : Int) → _) ∧ (¬ (r40 = (0 : Int)) → (((7 : Int) < (3 : Int) → _) ∧ (¬ ((7 : Int) < (3 : Int)) → (((7 : Int) ≤ (6 : Int) → _) ∧ (¬ ((7 : Int) ≤ (6 : Int)) → (((1 : Int) = st 170 36 → _) ∧ (¬ ((1 : Int) = st 170 36) → ((¬ ((-1) : Int) = ((-1) : Int) → _) ∧ (¬ (¬ ((-1) : Int) = ((-1) : Int)) → (170 = 170 ∧ (rq_blame (1) (st 170 4) (zup st 194 ((st 170 42) - 1 : Int).toNat 0) ∧ (∀ (s41 : zS), en_blame (1) (st 170 4) (zup st 194 ((st 170 42) - 1 : Int).toNat 0) s41 → ((s41 170 8 ≤ (0 : Int) → _) ∧ (¬ (s41 170 8 ≤ (0 : Int)) → ((1 = (0 : Int) ∨ 1 = (1 : Int)) ∧ Q (some (.inl 1)) s41))))))))))))))))))) ∧ (¬ (r39 = (0 : Int)) → _))))) ∧ (¬ (r38 = (0 : Int)) → _))))) ∧ (¬ (r37 = (0 : Int)) → _))))) ∧ (¬ (r36 = (0 : Int)) → _))))) ∧ (¬ (r35 = (0 : Int)) → _))))) ∧ (¬ (r34 = (0 : Int)) → _))))) ∧ (¬ (¬ st 170 3 = (2 : Int)) → _))) ∧ (¬ (r33 = (0 : Int)) → _))))))))))))) ∧ (¬ (r30 = (0 : Int)) → _))))) ∧ (¬ ((0 : Int) = (0 : Int)) → _))) ∧ (¬ ((0 : Int) = (0 : Int)) → _))))) ∧ (¬ ((0 : Int) = (0 : Int)) → _))) ∧ (¬ (st 194 ((st 170 42) - 1 : Int).toNat = (0 : Int)) → (((1 : Int) = (0 : Int) → _) ∧ (¬ ((1 : Int) = (0 : Int)) → (170 = 170 ∧ (∀ (r42 : Int), en_isWord (7237492) st r42 → ((r42 = (0 : Int) → ((0 ≤ (st 170 42) - 1 ∧ (st 170 42) - 1 < 20) ∧ ((0 = (0 : Int) ∨ 0 = (1 : Int)) ∧ (((1 : Int) = (0 : Int) → _) ∧ (¬ ((1 : Int) = (0 : Int)) → (170 = 170 ∧ (∀ (r43 : Int), en_isSign (91) (zup st 194 ((st 170 42) - 1 : Int).toNat 0) r43 → ((r43 = (0 : Int) → (((1 : Int) = (0 : Int) → _) ∧ (¬ ((1 : Int) = (0 : Int)) → (170 = 170 ∧ (∀ (r44 : Int), en_isWord (6384748) (zup st 194 ((st 170 42) - 1 : Int).toNat 0) r44 → ((r44 = (0 : Int) → (170 = 170 ∧ (∀ (r45 : Int), en_isSign (40) (zup st 194 ((st 170 42) - 1 : Int).toNat 0) r45 → ((r45 = (0 : Int) → (170 = 170 ∧ (∀ (r46 : Int), en_isWord (7170414) (zup st 194 ((st 170 42) - 1 : Int).toNat 0) r46 → ((¬ r46 = (0 : Int) → _) ∧ (¬ (¬ r46 = (0 : Int)) → (170 = 170 ∧ (∀ (r47 : Int), en_isWord (7168376) (zup st 194 ((st 170 42) - 1 : Int).toNat 0) r47 → ((¬ r47 = (0 : Int) → _) ∧ (¬ (¬ r47 = (0 : Int)) → (170 = 170 ∧ (∀ (r48 : Int), en_isWord (26982) (zup st 194 ((st 170 42) - 1 : Int).toNat 0) r48 → ((r48 = (0 : Int) → ((¬ st 170 3 = (2 : Int) → (170 = 170 ∧ (∀ (r49 : Int), en_isWord (1751474548) (zup st 194 ((st 170 42) - 1 : Int).toNat 0) r49 → ((r49 = (0 : Int) → (170 = 170 ∧ (∀ (r50 : Int), en_isWord (2036687218) (zup st 194 ((st 170 42) - 1 : Int).toNat 0) r50 → ((r50 = (0 : Int) → (170 = 170 ∧ (∀ (r51 : Int), en_isWord (1953459300) (zup st 194 ((st 170 42) - 1 : Int).toNat 0) r51 → ((r51 = (0 : Int) → (170 = 170 ∧ (∀ (r52 : Int), en_isWord (1886743660) (zup st 194 ((st 170 42) - 1 : Int).toNat 0) r52 → ((r52 = (0 : Int) → (170 = 170 ∧ (∀ (r53 : Int), en_isWord (1937007984) (zup st 194 ((st 170 42) - 1 : Int).toNat 0) r53 → ((r53 = (0 : Int) → (170 = 170 ∧ (∀ (r54 : Int), en_isWord (1650812270) (zup st 194 ((st 170 42) - 1 : Int).toNat 0) r54 → ((r54 = (0 : Int) → (170 = 170 ∧ (∀ (r55 : Int), en_isWord (495874044019) (zup st 194 ((st 170 42) - 1 : Int).toNat 0) r55 → ((r55 = (0 : Int) → _) ∧ (¬ (r55 = (0 : Int)) → (((7 : Int) < (3 : Int) → _) ∧ (¬ ((7 : Int) < (3 : Int)) → (((7 : Int) ≤ (6 : Int) → _) ∧ (¬ ((7 : Int) ≤ (6 : Int)) → (((1 : Int) = st 170 36 → _) ∧ (¬ ((1 : Int) = st 170 36) → ((¬ ((-1) : Int) = ((-1) : Int) → _) ∧ (¬ (¬ ((-1) : Int) = ((-1) : Int)) → (170 = 170 ∧ (rq_blame (1) (st 170 4) (zup st 194 ((st 170 42) - 1 : Int).toNat 0) ∧ (∀ (s56 : zS), en_blame (1) (st 170 4) (zup st 194 ((st 170 42) - 1 : Int).toNat 0) s56 → ((s56 170 8 ≤ (0 : Int) → _) ∧ (¬ (s56 170 8 ≤ (0 : Int)) → ((1 = (0 : Int) ∨ 1 = (1 : Int)) ∧ Q (some (.inl 1)) s56))))))))))))))))))) ∧ (¬ (r54 = (0 : Int)) → _))))) ∧ (¬ (r53 = (0 : Int)) → _))))) ∧ (¬ (r52 = (0 : Int)) → _))))) ∧ (¬ (r51 = (0 : Int)) → _))))) ∧ (¬ (r50 = (0 : Int)) → _))))) ∧ (¬ (r49 = (0 : Int)) → _))))) ∧ (¬ (¬ st 170 3 = (2 : Int)) → _))) ∧ (¬ (r48 = (0 : Int)) → _))))))))))))) ∧ (¬ (r45 = (0 : Int)) → _))))) ∧ (¬ (r44 = (0 : Int)) → _))))))) ∧ (¬ (r43 = (0 : Int)) → _))))))))) ∧ (¬ (r42 = (0 : Int)) → _))))))))))))))) ∧ (¬ (st 170 8 ≤ (0 : Int)) → _)))))
  refine ⟨rfl, ⟨hG, (show st 170 12 = -1 from by omega)⟩, ?_⟩
  refine ⟨fun h57 => ?_, fun h57 => (by exfalso; omega)⟩
  refine ⟨by omega, ?_⟩
  have g58 := g_frame hG ((st 170 42) - 1 : Int).toNat
  refine ⟨by omega, ?_⟩
  refine fun r17 q17 => ?_
  have b17 := q17
  change (r17 = 0 ∨ r17 = 1) ∧ (r17 = 1 ↔ (st 192 ((st 170 42) - 1 : Int).toNat) = 1 ∨ (st 192 ((st 170 42) - 1 : Int).toNat) = 5 ∨ (st 192 ((st 170 42) - 1 : Int).toNat) = 6) at b17
  refine ⟨fun h59 => ?_, fun h59 => ?_⟩
  · refine ⟨fun h60 => ?_, fun h60 => absurd (by decide) h60⟩
    refine ⟨by omega, ?_⟩
    refine ⟨by omega, ?_⟩
    refine ⟨fun h61 => ?_, fun h61 => absurd (by decide) h61⟩
    refine ⟨fun h62 => ?_, fun h62 => absurd (by decide) h62⟩
    refine ⟨rfl, fun r18 q18 => ?_⟩
    have b18 := q18
    change (r18 = 0 ∨ r18 = 1) ∧ (r18 = 1 ↔ st 170 3 = 3 ∧ st 170 6 = (40)) at b18
    refine ⟨fun h63 => ?_, fun h63 => (by exfalso; clear hQ; omega)⟩
    clear h63 b18
    refine ⟨rfl, fun r19 q19 => ?_⟩
    have b19 := q19
    change (r19 = 0 ∨ r19 = 1) ∧ (r19 = 1 ↔ st 170 3 = 1 ∧ st 170 7 = (7170414)) at b19
    refine ⟨fun h64 => (by exfalso; clear hQ; omega), fun h64 => ?_⟩
    clear h64 b19
    refine ⟨rfl, fun r20 q20 => ?_⟩
    have b20 := q20
    change (r20 = 0 ∨ r20 = 1) ∧ (r20 = 1 ↔ st 170 3 = 1 ∧ st 170 7 = (7168376)) at b20
    refine ⟨fun h65 => (by exfalso; clear hQ; omega), fun h65 => ?_⟩
    clear h65 b20
    refine ⟨rfl, fun r21 q21 => ?_⟩
    have b21 := q21
    change (r21 = 0 ∨ r21 = 1) ∧ (r21 = 1 ↔ st 170 3 = 1 ∧ st 170 7 = (26982)) at b21
    refine ⟨fun h66 => ?_, fun h66 => (by exfalso; clear hQ; omega)⟩
    clear h66 b21
    refine ⟨fun h67 => ?_, fun h67 => (by exfalso; omega)⟩
    refine ⟨rfl, fun r22 q22 => ?_⟩
    have b22 := q22
    change (r22 = 0 ∨ r22 = 1) ∧ (r22 = 1 ↔ st 170 3 = 1 ∧ st 170 7 = (1751474548)) at b22
    refine ⟨fun h68 => ?_, fun h68 => (by exfalso; clear hQ; omega)⟩
    clear h68 b22
    refine ⟨rfl, fun r23 q23 => ?_⟩
    have b23 := q23
    change (r23 = 0 ∨ r23 = 1) ∧ (r23 = 1 ↔ st 170 3 = 1 ∧ st 170 7 = (2036687218)) at b23
    refine ⟨fun h69 => ?_, fun h69 => (by exfalso; clear hQ; omega)⟩
    clear h69 b23
    refine ⟨rfl, fun r24 q24 => ?_⟩
    have b24 := q24
    change (r24 = 0 ∨ r24 = 1) ∧ (r24 = 1 ↔ st 170 3 = 1 ∧ st 170 7 = (1953459300)) at b24
    refine ⟨fun h70 => ?_, fun h70 => (by exfalso; clear hQ; omega)⟩
    clear h70 b24
    refine ⟨rfl, fun r25 q25 => ?_⟩
    have b25 := q25
    change (r25 = 0 ∨ r25 = 1) ∧ (r25 = 1 ↔ st 170 3 = 1 ∧ st 170 7 = (1886743660)) at b25
    refine ⟨fun h71 => ?_, fun h71 => (by exfalso; clear hQ; omega)⟩
    clear h71 b25
    refine ⟨rfl, fun r26 q26 => ?_⟩
    have b26 := q26
    change (r26 = 0 ∨ r26 = 1) ∧ (r26 = 1 ↔ st 170 3 = 1 ∧ st 170 7 = (1937007984)) at b26
    refine ⟨fun h72 => ?_, fun h72 => (by exfalso; clear hQ; omega)⟩
    clear h72 b26
    refine ⟨rfl, fun r27 q27 => ?_⟩
    have b27 := q27
    change (r27 = 0 ∨ r27 = 1) ∧ (r27 = 1 ↔ st 170 3 = 1 ∧ st 170 7 = (1650812270)) at b27
    refine ⟨fun h73 => ?_, fun h73 => (by exfalso; clear hQ; omega)⟩
    clear h73 b27
    refine ⟨rfl, fun r28 q28 => ?_⟩
    have b28 := q28
    change (r28 = 0 ∨ r28 = 1) ∧ (r28 = 1 ↔ st 170 3 = 1 ∧ st 170 7 = (495874044019)) at b28
    refine ⟨fun h74 => (by exfalso; clear hQ; omega), fun h74 => ?_⟩
    clear h74 b28
    refine ⟨fun h75 => absurd h75 (by decide), fun h75 => ?_⟩
    refine ⟨fun h76 => absurd h76 (by decide), fun h76 => ?_⟩
    refine ⟨fun h77 => (by exfalso; omega), fun h77 => ?_⟩
    refine ⟨fun h78 => absurd h78 (by decide), fun h78 => ?_⟩
    refine ⟨rfl, ⟨(gInv_up hG (p_begins (by omega))), (show 1 ≤ (1) ∧ (1) ≤ 6 from by omega), (show -2147483648 ≤ (st 170 4) ∧ (st 170 4) ≤ 2147483647 from by omega)⟩, fun s29 q29 => ?_⟩
    obtain ⟨gs29, fs29, p29⟩ := q29
    change (st 170 8 = 0 → s29 170 8 = (1)) ∧ (0 < st 170 8 → s29 170 8 = st 170 8) at p29
    have g79 := g_faultKind gs29
    refine ⟨fun h80 => (by exfalso; omega), fun h80 => ?_⟩
    refine ⟨by omega, ?_⟩
    exact hQ _ _ ⟨gs29, (fr_tr (fr_a (fr_rf _ _) rfl) fs29 rfl), (Z9_tr (Z9_up (Z9_rf _) (by decide)) ((show aFr m_rOpF97 st (zup st 194 ((st 170 42) - 1 : Int).toNat 0) from (fr_a (fr_rf _ _) rfl)) 170 35 rfl rfl) (Z9_fr fs29 (fun _ => rfl) rfl)), (show 0 < s29 170 8 ∧ ((1 : Int) = 0 ∨ (1 : Int) = 1) from by omega)⟩
  · have g81 := g_begins hG ((st 170 42) - 1 : Int).toNat
    refine ⟨by omega, ?_⟩
    refine ⟨fun h82 => ?_, fun h82 => ?_⟩
    · refine ⟨fun h83 => ?_, fun h83 => absurd (by decide) h83⟩
      refine ⟨by omega, ?_⟩
      refine ⟨by omega, ?_⟩
      refine ⟨fun h84 => ?_, fun h84 => absurd (by decide) h84⟩
      refine ⟨fun h85 => ?_, fun h85 => absurd (by decide) h85⟩
      refine ⟨rfl, fun r30 q30 => ?_⟩
      have b30 := q30
      change (r30 = 0 ∨ r30 = 1) ∧ (r30 = 1 ↔ st 170 3 = 3 ∧ st 170 6 = (40)) at b30
      refine ⟨fun h86 => ?_, fun h86 => (by exfalso; clear hQ; omega)⟩
      clear h86 b30
      refine ⟨rfl, fun r31 q31 => ?_⟩
      have b31 := q31
      change (r31 = 0 ∨ r31 = 1) ∧ (r31 = 1 ↔ st 170 3 = 1 ∧ st 170 7 = (7170414)) at b31
      refine ⟨fun h87 => (by exfalso; clear hQ; omega), fun h87 => ?_⟩
      clear h87 b31
      refine ⟨rfl, fun r32 q32 => ?_⟩
      have b32 := q32
      change (r32 = 0 ∨ r32 = 1) ∧ (r32 = 1 ↔ st 170 3 = 1 ∧ st 170 7 = (7168376)) at b32
      refine ⟨fun h88 => (by exfalso; clear hQ; omega), fun h88 => ?_⟩
      clear h88 b32
      refine ⟨rfl, fun r33 q33 => ?_⟩
      have b33 := q33
      change (r33 = 0 ∨ r33 = 1) ∧ (r33 = 1 ↔ st 170 3 = 1 ∧ st 170 7 = (26982)) at b33
      refine ⟨fun h89 => ?_, fun h89 => (by exfalso; clear hQ; omega)⟩
      clear h89 b33
      refine ⟨fun h90 => ?_, fun h90 => (by exfalso; omega)⟩
      refine ⟨rfl, fun r34 q34 => ?_⟩
      have b34 := q34
      change (r34 = 0 ∨ r34 = 1) ∧ (r34 = 1 ↔ st 170 3 = 1 ∧ st 170 7 = (1751474548)) at b34
      refine ⟨fun h91 => ?_, fun h91 => (by exfalso; clear hQ; omega)⟩
      clear h91 b34
      refine ⟨rfl, fun r35 q35 => ?_⟩
      have b35 := q35
      change (r35 = 0 ∨ r35 = 1) ∧ (r35 = 1 ↔ st 170 3 = 1 ∧ st 170 7 = (2036687218)) at b35
      refine ⟨fun h92 => ?_, fun h92 => (by exfalso; clear hQ; omega)⟩
      clear h92 b35
      refine ⟨rfl, fun r36 q36 => ?_⟩
      have b36 := q36
      change (r36 = 0 ∨ r36 = 1) ∧ (r36 = 1 ↔ st 170 3 = 1 ∧ st 170 7 = (1953459300)) at b36
      refine ⟨fun h93 => ?_, fun h93 => (by exfalso; clear hQ; omega)⟩
      clear h93 b36
      refine ⟨rfl, fun r37 q37 => ?_⟩
      have b37 := q37
      change (r37 = 0 ∨ r37 = 1) ∧ (r37 = 1 ↔ st 170 3 = 1 ∧ st 170 7 = (1886743660)) at b37
      refine ⟨fun h94 => ?_, fun h94 => (by exfalso; clear hQ; omega)⟩
      clear h94 b37
      refine ⟨rfl, fun r38 q38 => ?_⟩
      have b38 := q38
      change (r38 = 0 ∨ r38 = 1) ∧ (r38 = 1 ↔ st 170 3 = 1 ∧ st 170 7 = (1937007984)) at b38
      refine ⟨fun h95 => ?_, fun h95 => (by exfalso; clear hQ; omega)⟩
      clear h95 b38
      refine ⟨rfl, fun r39 q39 => ?_⟩
      have b39 := q39
      change (r39 = 0 ∨ r39 = 1) ∧ (r39 = 1 ↔ st 170 3 = 1 ∧ st 170 7 = (1650812270)) at b39
      refine ⟨fun h96 => ?_, fun h96 => (by exfalso; clear hQ; omega)⟩
      clear h96 b39
      refine ⟨rfl, fun r40 q40 => ?_⟩
      have b40 := q40
      change (r40 = 0 ∨ r40 = 1) ∧ (r40 = 1 ↔ st 170 3 = 1 ∧ st 170 7 = (495874044019)) at b40
      refine ⟨fun h97 => (by exfalso; clear hQ; omega), fun h97 => ?_⟩
      clear h97 b40
      refine ⟨fun h98 => absurd h98 (by decide), fun h98 => ?_⟩
      refine ⟨fun h99 => absurd h99 (by decide), fun h99 => ?_⟩
      refine ⟨fun h100 => (by exfalso; omega), fun h100 => ?_⟩
      refine ⟨fun h101 => absurd h101 (by decide), fun h101 => ?_⟩
      refine ⟨rfl, ⟨(gInv_up hG (p_begins (by omega))), (show 1 ≤ (1) ∧ (1) ≤ 6 from by omega), (show -2147483648 ≤ (st 170 4) ∧ (st 170 4) ≤ 2147483647 from by omega)⟩, fun s41 q41 => ?_⟩
      obtain ⟨gs41, fs41, p41⟩ := q41
      change (st 170 8 = 0 → s41 170 8 = (1)) ∧ (0 < st 170 8 → s41 170 8 = st 170 8) at p41
      have g102 := g_faultKind gs41
      refine ⟨fun h103 => (by exfalso; omega), fun h103 => ?_⟩
      refine ⟨by omega, ?_⟩
      exact hQ _ _ ⟨gs41, (fr_tr (fr_a (fr_rf _ _) rfl) fs41 rfl), (Z9_tr (Z9_up (Z9_rf _) (by decide)) ((show aFr m_rOpF97 st (zup st 194 ((st 170 42) - 1 : Int).toNat 0) from (fr_a (fr_rf _ _) rfl)) 170 35 rfl rfl) (Z9_fr fs41 (fun _ => rfl) rfl)), (show 0 < s41 170 8 ∧ ((1 : Int) = 0 ∨ (1 : Int) = 1) from by omega)⟩
    · refine ⟨fun h104 => absurd h104 (by decide), fun h104 => ?_⟩
      refine ⟨rfl, fun r42 q42 => ?_⟩
      have b42 := q42
      change (r42 = 0 ∨ r42 = 1) ∧ (r42 = 1 ↔ st 170 3 = 1 ∧ st 170 7 = (7237492)) at b42
      refine ⟨fun h105 => ?_, fun h105 => (by exfalso; clear hQ; omega)⟩
      clear h105 b42
      refine ⟨by omega, ?_⟩
      refine ⟨by omega, ?_⟩
      refine ⟨fun h106 => absurd h106 (by decide), fun h106 => ?_⟩
      refine ⟨rfl, fun r43 q43 => ?_⟩
      have b43 := q43
      change (r43 = 0 ∨ r43 = 1) ∧ (r43 = 1 ↔ st 170 3 = 3 ∧ st 170 6 = (91)) at b43
      refine ⟨fun h107 => ?_, fun h107 => (by exfalso; clear hQ; omega)⟩
      clear h107 b43
      refine ⟨fun h108 => absurd h108 (by decide), fun h108 => ?_⟩
      refine ⟨rfl, fun r44 q44 => ?_⟩
      have b44 := q44
      change (r44 = 0 ∨ r44 = 1) ∧ (r44 = 1 ↔ st 170 3 = 1 ∧ st 170 7 = (6384748)) at b44
      refine ⟨fun h109 => ?_, fun h109 => (by exfalso; clear hQ; omega)⟩
      clear h109 b44
      refine ⟨rfl, fun r45 q45 => ?_⟩
      have b45 := q45
      change (r45 = 0 ∨ r45 = 1) ∧ (r45 = 1 ↔ st 170 3 = 3 ∧ st 170 6 = (40)) at b45
      refine ⟨fun h110 => ?_, fun h110 => (by exfalso; clear hQ; omega)⟩
      clear h110 b45
      refine ⟨rfl, fun r46 q46 => ?_⟩
      have b46 := q46
      change (r46 = 0 ∨ r46 = 1) ∧ (r46 = 1 ↔ st 170 3 = 1 ∧ st 170 7 = (7170414)) at b46
      refine ⟨fun h111 => (by exfalso; clear hQ; omega), fun h111 => ?_⟩
      clear h111 b46
      refine ⟨rfl, fun r47 q47 => ?_⟩
      have b47 := q47
      change (r47 = 0 ∨ r47 = 1) ∧ (r47 = 1 ↔ st 170 3 = 1 ∧ st 170 7 = (7168376)) at b47
      refine ⟨fun h112 => (by exfalso; clear hQ; omega), fun h112 => ?_⟩
      clear h112 b47
      refine ⟨rfl, fun r48 q48 => ?_⟩
      have b48 := q48
      change (r48 = 0 ∨ r48 = 1) ∧ (r48 = 1 ↔ st 170 3 = 1 ∧ st 170 7 = (26982)) at b48
      refine ⟨fun h113 => ?_, fun h113 => (by exfalso; clear hQ; omega)⟩
      clear h113 b48
      refine ⟨fun h114 => ?_, fun h114 => (by exfalso; omega)⟩
      refine ⟨rfl, fun r49 q49 => ?_⟩
      have b49 := q49
      change (r49 = 0 ∨ r49 = 1) ∧ (r49 = 1 ↔ st 170 3 = 1 ∧ st 170 7 = (1751474548)) at b49
      refine ⟨fun h115 => ?_, fun h115 => (by exfalso; clear hQ; omega)⟩
      clear h115 b49
      refine ⟨rfl, fun r50 q50 => ?_⟩
      have b50 := q50
      change (r50 = 0 ∨ r50 = 1) ∧ (r50 = 1 ↔ st 170 3 = 1 ∧ st 170 7 = (2036687218)) at b50
      refine ⟨fun h116 => ?_, fun h116 => (by exfalso; clear hQ; omega)⟩
      clear h116 b50
      refine ⟨rfl, fun r51 q51 => ?_⟩
      have b51 := q51
      change (r51 = 0 ∨ r51 = 1) ∧ (r51 = 1 ↔ st 170 3 = 1 ∧ st 170 7 = (1953459300)) at b51
      refine ⟨fun h117 => ?_, fun h117 => (by exfalso; clear hQ; omega)⟩
      clear h117 b51
      refine ⟨rfl, fun r52 q52 => ?_⟩
      have b52 := q52
      change (r52 = 0 ∨ r52 = 1) ∧ (r52 = 1 ↔ st 170 3 = 1 ∧ st 170 7 = (1886743660)) at b52
      refine ⟨fun h118 => ?_, fun h118 => (by exfalso; clear hQ; omega)⟩
      clear h118 b52
      refine ⟨rfl, fun r53 q53 => ?_⟩
      have b53 := q53
      change (r53 = 0 ∨ r53 = 1) ∧ (r53 = 1 ↔ st 170 3 = 1 ∧ st 170 7 = (1937007984)) at b53
      refine ⟨fun h119 => ?_, fun h119 => (by exfalso; clear hQ; omega)⟩
      clear h119 b53
      refine ⟨rfl, fun r54 q54 => ?_⟩
      have b54 := q54
      change (r54 = 0 ∨ r54 = 1) ∧ (r54 = 1 ↔ st 170 3 = 1 ∧ st 170 7 = (1650812270)) at b54
      refine ⟨fun h120 => ?_, fun h120 => (by exfalso; clear hQ; omega)⟩
      clear h120 b54
      refine ⟨rfl, fun r55 q55 => ?_⟩
      have b55 := q55
      change (r55 = 0 ∨ r55 = 1) ∧ (r55 = 1 ↔ st 170 3 = 1 ∧ st 170 7 = (495874044019)) at b55
      refine ⟨fun h121 => (by exfalso; clear hQ; omega), fun h121 => ?_⟩
      clear h121 b55
      refine ⟨fun h122 => absurd h122 (by decide), fun h122 => ?_⟩
      refine ⟨fun h123 => absurd h123 (by decide), fun h123 => ?_⟩
      refine ⟨fun h124 => (by exfalso; omega), fun h124 => ?_⟩
      refine ⟨fun h125 => absurd h125 (by decide), fun h125 => ?_⟩
      refine ⟨rfl, ⟨(gInv_up hG (p_begins (by omega))), (show 1 ≤ (1) ∧ (1) ≤ 6 from by omega), (show -2147483648 ≤ (st 170 4) ∧ (st 170 4) ≤ 2147483647 from by omega)⟩, fun s56 q56 => ?_⟩
      obtain ⟨gs56, fs56, p56⟩ := q56
      change (st 170 8 = 0 → s56 170 8 = (1)) ∧ (0 < st 170 8 → s56 170 8 = st 170 8) at p56
      have g126 := g_faultKind gs56
      refine ⟨fun h127 => (by exfalso; omega), fun h127 => ?_⟩
      refine ⟨by omega, ?_⟩
      exact hQ _ _ ⟨gs56, (fr_tr (fr_a (fr_rf _ _) rfl) fs56 rfl), (Z9_tr (Z9_up (Z9_rf _) (by decide)) ((show aFr m_rOpF97 st (zup st 194 ((st 170 42) - 1 : Int).toNat 0) from (fr_a (fr_rf _ _) rfl)) 170 35 rfl rfl) (Z9_fr fs56 (fun _ => rfl) rfl)), (show 0 < s56 170 8 ∧ ((1 : Int) = 0 ∨ (1 : Int) = 1) from by omega)⟩
theorem k_rOpF97_m (hTb : aTb zSh rx_tb cl) {t : Int → Int} {n k ph bg pr o p e : Int} {w c : List Int} {fs : List mFr} {D : Nat} (hD : 3 ≤ D) : ∀ as st (Q Q' : zQ), (∀ r st', Q r st' → Q' r st') → (k_rOpF97 t n k ph bg pr o p e w c fs) 196 as st Q → cl D 196 as st Q' := by
  intro as st Q Q' hQ h
  unfold k_rOpF97 at h
  split at h
  · obtain ⟨rfl, h⟩ := h
    exact c_rOpF97 hTb hD (ct_rOpF97_m hQ h)
  · exact h.elim
set_option maxHeartbeats 4000000 in
set_option maxRecDepth 100000 in
theorem c_rOpF98 (hTb : aTb zSh rx_tb cl) {t : Int → Int} {n k ph bg pr o p e : Int} {w c : List Int} {fs : List mFr} {D : Nat} (hD : 3 ≤ D) {st : zS} {Q : zQ} (h : ct_rOpF98 t n k ph bg pr o p e w c fs st Q) : cl D 196 [.inr (.inr (.inl 170))] st Q := by
  obtain ⟨d, rfl⟩ : ∃ d, D = d + 1 := ⟨D - 1, by omega⟩
  refine hTb d 196 (rx_m196, 4, 0, 0, 2) rfl _ _ _ (Nat.le_of_ble_eq_true rfl) (fun K hcl hsf hsl => ?_)
  have hcm : zmo (wcL [(181, k_rLex), (195, k_isTest), (183, k_isWord), (182, k_isSign), (178, k_blame), (194, k_rOpensF), (189, k_add), (149, k_rNext t n), (192, k_holdsBack)]) (cl d) := (wcL_m (wm_cons (k_rLex_m hTb (by omega)) (wm_cons (k_isTest_m hTb (by omega)) (wm_cons (k_isWord_m hTb (by omega)) (wm_cons (k_isSign_m hTb (by omega)) (wm_cons (k_blame_m hTb (by omega)) (wm_cons (k_rOpensF_m hTb (by omega)) (wm_cons (k_add_m hTb (by omega)) (wm_cons (k_rNext_m hTb (by omega)) (wm_cons (k_holdsBack_m hTb (by omega)) wm_nil))))))))))
  obtain ⟨hR, hQ⟩ := h
  obtain ⟨hG, mp, ht⟩ := hR
  change mcP t n st ((k, ph, bg, pr, w) :: fs) 0 (o) (c) (p) at mp
  change tk t n p 1 1953066341 e ∧ st 170 36 = 0 at ht
  have g1 := g_isClever hG
  obtain ⟨mf, mo, mn, mpp, mrd, mq, mbd, mz1, mz2, mz3⟩ := mp
  rw [List.length_cons] at mz3
  have mq0 := mq
  obtain ⟨mfr, mwb, mcd⟩ := mq
  have mt := FR_top mfr
  have mb := FR_bnd _ _ _ mwb mfr
  rw [List.length_cons] at mb
  have ml := WB_hd mwb
  have mcl := mcd.1
  have mlw := FR_len mb.2.1 mfr
  have tf := r_wrd mrd (by rw [mpp]; exact ht.1)
  have g2 := g_codes hG
  have g3 := g_in hG
  have g4 := g_deep hG
  have g5 := g_open hG
  have g6 := g_opMany hG
  have g7 := g_signAt hG
  have g8 := g_signEnd hG
  have g9 := g_faultKind hG
  have g10 := g_size hG
  have g11 := g_sign hG
  have g12 := g_lexAt hG
  have g13 := g_value hG
  have g14 := g_word hG
  have g15 := g_operand hG
  refine yr1_ok (Rt := Q) (wc := (wcL [(181, k_rLex), (195, k_isTest), (183, k_isWord), (182, k_isSign), (178, k_blame), (194, k_rOpensF), (189, k_add), (149, k_rNext t n), (192, k_holdsBack)])) (stp := []) hcm hcl [] 400 ?_
  show (170 = 170 ∧ (rq_rLex  st ∧ (((st 170 8 ≤ (0 : Int) → ((-2147483648 ≤ (st 170 42) - 1 ∧ (st 170 42) - 1 ≤ 2147483647) ∧ ((0 ≤ (st 170 42) - 1 ∧ (st 170 42) - 1 < 20) ∧ (∀ (r17 : Int), en_isTest (st 192 ((st 170 42) - 1 : Int).toNat) st r17 → ((r17 = (0 : Int) → (((0 : Int) = (0 : Int) → ((0 ≤ (st 170 42) - 1 ∧ (st 170 42) - 1 < 20) ∧ ((0 = (0 : Int) ∨ 0 = (1 : Int)) ∧ (((0 : Int) = (0 : Int) → (((0 : Int) = (0 : Int) → (170 = 170 ∧ (∀ (r18 : Int), en_isSign (40) (zup st 194 ((st 170 42) - 1 : Int).toNat 0) r18 → ((r18 = (0 : Int) → (170 = 170 ∧ (∀ (r19 : Int), en_isWord (7170414) (zup st 194 ((st 170 42) - 1 : Int).toNat 0) r19 → ((¬ r19 = (0 : Int) → _) ∧ (¬ (¬ r19 = (0 : Int)) → (170 = 170 ∧ (∀ (r20 : Int), en_isWord (7168376) (zup st 194 ((st 170 42) - 1 : Int).toNat 0) r20 → ((¬ r20 = (0 : Int) → _) ∧ (¬ (¬ r20 = (0 : Int)) → (170 = 170 ∧ (∀ (r21 : Int), en_isWord (26982) (zup st 194 ((st 170 42) - 1 : Int).toNat 0) r21 → ((r21 = (0 : Int) → ((¬ st 170 3 = (2 : Int) → (170 = 170 ∧ (∀ (r22 : Int), en_isWord (1751474548) (zup st 194 ((st 170 42) - 1 : Int).toNat 0) r22 → ((r22 = (0 : Int) → (170 = 170 ∧ (∀ (r23 : Int), en_isWord (2036687218) (zup st 194 ((st 170 42) - 1 : Int).toNat 0) r23 → ((r23 = (0 : Int) → (170 = 170 ∧ (∀ (r24 : Int), en_isWord (1953459300) (zup st 194 ((st 170 42) - 1 : Int).toNat 0) r24 → ((r24 = (0 : Int) → (170 = 170 ∧ (∀ (r25 : Int), en_isWord (1886743660) (zup st 194 ((st 170 42) - 1 : Int).toNat 0) r25 → ((r25 = (0 : Int) → (170 = 170 ∧ (∀ (r26 : Int), en_isWord (1937007984) (zup st 194 ((st 170 42) - 1 : Int).toNat 0) r26 → ((r26 = (0 : Int) → (170 = 170 ∧ (∀ (r27 : Int), en_isWord (1650812270) (zup st 194 ((st 170 42) - 1 : Int).toNat 0) r27 → ((r27 = (0 : Int) → (170 = 170 ∧ (∀ (r28 : Int), en_isWord (495874044019) (zup st 194 ((st 170 42) - 1 : Int).toNat 0) r28 → ((r28 = (0 : Int) → (170 = 170 ∧ (∀ (r29 : Int), en_isWord (1953066341) (zup st 194 ((st 170 42) - 1 : Int).toNat 0) r29 → ((r29 = (0 : Int) → _) ∧ (¬ (r29 = (0 : Int)) → (((8 : Int) < (3 : Int) → _) ∧ (¬ ((8 : Int) < (3 : Int)) → (((8 : Int) ≤ (6 : Int) → _) ∧ (¬ ((8 : Int) ≤ (6 : Int)) → (((1 : Int) = st 170 36 → _) ∧ (¬ ((1 : Int) = st 170 36) → ((¬ ((-1) : Int) = ((-1) : Int) → _) ∧ (¬ (¬ ((-1) : Int) = ((-1) : Int)) → (170 = 170 ∧ (rq_blame (1) (st 170 4) (zup st 194 ((st 170 42) - 1 : Int).toNat 0) ∧ (∀ (s30 : zS), en_blame (1) (st 170 4) (zup st 194 ((st 170 42) - 1 : Int).toNat 0) s30 → ((s30 170 8 ≤ (0 : Int) → _) ∧ (¬ (s30 170 8 ≤ (0 : Int)) → ((1 = (0 : Int) ∨ 1 = (1 : Int)) ∧ Q (some (.inl 1)) s30))))))))))))))))))) ∧ (¬ (r28 = (0 : Int)) → _))))) ∧ (¬ (r27 = (0 : Int)) → _))))) ∧ (¬ (r26 = (0 : Int)) → _))))) ∧ (¬ (r25 = (0 : Int)) → _))))) ∧ (¬ (r24 = (0 : Int)) → _))))) ∧ (¬ (r23 = (0 : Int)) → _))))) ∧ (¬ (r22 = (0 : Int)) → _))))) ∧ (¬ (¬ st 170 3 = (2 : Int)) → _))) ∧ (¬ (r21 = (0 : Int)) → _))))))))))))) ∧ (¬ (r18 = (0 : Int)) → _))))) ∧ (¬ ((0 : Int) = (0 : Int)) → _))) ∧ (¬ ((0 : Int) = (0 : Int)) → _))))) ∧ (¬ ((0 : Int) = (0 : Int)) → _))) ∧ (¬ (r17 = (0 : Int)) → ((0 ≤ (st 170 42) - 1 ∧ (st 170 42) - 1 < 20) ∧ ((st 194 ((st 170 42) - 1 : Int).toNat = (0 : Int) → (((0 : Int) = (0 : Int) → ((0 ≤ (st 170 42) - 1 ∧ (st 170 42) - 1 < 20) ∧ ((0 = (0 : Int) ∨ 0 = (1 : Int)) ∧ (((0 : Int) = (0 : Int) → (((0 : Int) = (0 : Int) → (170 = 170 ∧ (∀ (r31 : Int), en_isSign (40) (zup st 194 ((st 170 42) - 1 : Int).toNat 0) r31 → ((r31 = (0 : Int) → (170 = 170 ∧ (∀ (r32 : Int), en_isWord (7170414) (zup st 194 ((st 170 42) - 1 : Int).toNat 0) r32 → ((¬ r32 = (0 : Int) → _) ∧ (¬ (¬ r32 = (0 : Int)) → (170 = 170 ∧ (∀ (r33 : Int), en_isWord (7168376) (zup st 194 ((st 170 42) - 1 : Int).toNat 0) r33 → ((¬ r33 = (0 : Int) → _) ∧ (¬ (¬ r33 = (0 : Int)) → (170 = 170 ∧ (∀ (r34 : Int), en_isWord (26982) (zup st 194 ((st 170 42) - 1 : Int).toNat 0) r34 → ((r34 = (0 : Int) → ((¬ st 170 3 = (2 : Int) → (170 = 170 ∧ (∀ (r35 : Int), en_isWord (1751474548) (zup st 194 ((st 170 42) - 1 : Int).toNat 0) r35 → ((r35 = (0 : Int) → (170 = 170 ∧ (∀ (r36 : Int), en_isWord (2036687218) (zup st 194 ((st 170 42) - 1 : Int).toNat 0) r36 → ((r36 = (0 : Int) → (170 = 170 ∧ (∀ (r37 : Int), en_isWord (1953459300) (zup st 194 ((st 170 42) - 1 : Int).toNat 0) r37 → ((r37 = (0 : Int) → (170 = 170 ∧ (∀ (r38 : Int), en_isWord (1886743660) (zup st 194 ((st 170 42) - 1 : Int).toNat 0) r38 → ((r38 = (0 : Int) → (170 = 170 ∧ (∀ (r39 : Int), en_isWord (1937007984) (zup st 194 ((st 170 42) - 1 : Int).toNat 0) r39 → ((r39 = (0 : Int) → (170 = 170 ∧ (∀ (r40 : Int), en_isWord (1650812270) (zup st 194 ((st 170 42) - 1 : Int).toNat 0) r40 → ((r40 = (0 : Int) → (170 = 170 ∧ (∀ (r41 : Int), en_isWord (495874044019) (zup st 194 ((st 170 42) - 1 : Int).toNat 0) r41 → ((r41 = (0 : Int) → (170 = 170 ∧ (∀ (r42 : Int), en_isWord (1953066341) (zup st 194 ((st 170 42) - 1 : Int).toNat 0) r42 → ((r42 = (0 : Int) → _) ∧ (¬ (r42 = (0 : Int)) → (((8 : Int) < (3 : Int) → _) ∧ (¬ ((8 : Int) < (3 : Int)) → (((8 : Int) ≤ (6 : Int) → _) ∧ (¬ ((8 : Int) ≤ (6 : Int)) → (((1 : Int) = st 170 36 → _) ∧ (¬ ((1 : Int) = st 170 36) → ((¬ ((-1) : Int) = ((-1) : Int) → _) ∧ (¬ (¬ ((-1) : Int) = ((-1) : Int)) → (170 = 170 ∧ (rq_blame (1) (st 170 4) (zup st 194 ((st 170 42) - 1 : Int).toNat 0) ∧ (∀ (s43 : zS), en_blame (1) (st 170 4) (zup st 194 ((st 170 42) - 1 : Int).toNat 0) s43 → ((s43 170 8 ≤ (0 : Int) → _) ∧ (¬ (s43 170 8 ≤ (0 : Int)) → ((1 = (0 : Int) ∨ 1 = (1 : Int)) ∧ Q (some (.inl 1)) s43))))))))))))))))))) ∧ (¬ (r41 = (0 : Int)) → _))))) ∧ (¬ (r40 = (0 : Int)) → _))))) ∧ (¬ (r39 = (0 : Int)) → _))))) ∧ (¬ (r38 = (0 : Int)) → _))))) ∧ (¬ (r37 = (0 : Int)) → _))))) ∧ (¬ (r36 = (0 : Int)) → _))))) ∧ (¬ (r35 = (0 : Int)) → _))))) ∧ (¬ (¬ st 170 3 = (2 : Int)) → _))) ∧ (¬ (r34 = (0 : Int)) → _))))))))))))) ∧ (¬ (r31 = (0 : Int)) → _))))) ∧ (¬ ((0 : Int) = (0 : Int)) → _))) ∧ (¬ ((0 : Int) = (0 : Int)) → _))))) ∧ (¬ ((0 : Int) = (0 : Int)) → _))) ∧ (¬ (st 194 ((st 170 42) - 1 : Int).toNat = (0 : Int)) → (((1 : Int) = (0 : Int) → _) ∧ (¬ ((1 : Int) = (0 : Int)) → (170 = 170 ∧ (∀ (r44 : Int), en_isWord (7237492) st r44 → ((r44 = (0 : Int) → ((0 ≤ (st 170 42) - 1 ∧ (st 170 42) - 1 < 20) ∧ ((0 = (0 : Int) ∨ 0 = (1 : Int)) ∧ (((1 : Int) = (0 : Int) → _) ∧ (¬ ((1 : Int) = (0 : Int)) → (170 = 170 ∧ (∀ (r45 : Int), en_isSign (91) (zup st 194 ((st 170 42) - 1 : Int).toNat 0) r45 → ((r45 = (0 : Int) → (((1 : Int) = (0 : Int) → _) ∧ (¬ ((1 : Int) = (0 : Int)) → (170 = 170 ∧ (∀ (r46 : Int), en_isWord (6384748) (zup st 194 ((st 170 42) - 1 : Int).toNat 0) r46 → ((r46 = (0 : Int) → (170 = 170 ∧ (∀ (r47 : Int), en_isSign (40) (zup st 194 ((st 170 42) - 1 : Int).toNat 0) r47 → ((r47 = (0 : Int) → (170 = 170 ∧ (∀ (r48 : Int), en_isWord (7170414) (zup st 194 ((st 170 42) - 1 : Int).toNat 0) r48 → ((¬ r48 = (0 : Int) → _) ∧ (¬ (¬ r48 = (0 : Int)) → (170 = 170 ∧ (∀ (r49 : Int), en_isWord (7168376) (zup st 194 ((st 170 42) - 1 : Int).toNat 0) r49 → ((¬ r49 = (0 : Int) → _) ∧ (¬ (¬ r49 = (0 : Int)) → (170 = 170 ∧ (∀ (r50 : Int), en_isWord (26982) (zup st 194 ((st 170 42) - 1 : Int).toNat 0) r50 → ((r50 = (0 : Int) → ((¬ st 170 3 = (2 : Int) → (170 = 170 ∧ (∀ (r51 : Int), en_isWord (1751474548) (zup st 194 ((st 170 42) - 1 : Int).toNat 0) r51 → ((r51 = (0 : Int) → (170 = 170 ∧ (∀ (r52 : Int), en_isWord (2036687218) (zup st 194 ((st 170 42) - 1 : Int).toNat 0) r52 → ((r52 = (0 : Int) → (170 = 170 ∧ (∀ (r53 : Int), en_isWord (1953459300) (zup st 194 ((st 170 42) - 1 : Int).toNat 0) r53 → ((r53 = (0 : Int) → (170 = 170 ∧ (∀ (r54 : Int), en_isWord (1886743660) (zup st 194 ((st 170 42) - 1 : Int).toNat 0) r54 → ((r54 = (0 : Int) → (170 = 170 ∧ (∀ (r55 : Int), en_isWord (1937007984) (zup st 194 ((st 170 42) - 1 : Int).toNat 0) r55 → ((r55 = (0 : Int) → (170 = 170 ∧ (∀ (r56 : Int), en_isWord (1650812270) (zup st 194 ((st 170 42) - 1 : Int).toNat 0) r56 → ((r56 = (0 : Int) → (170 = 170 ∧ (∀ (r57 : Int), en_isWord (495874044019) (zup st 194 ((st 170 42) - 1 : Int).toNat 0) r57 → ((r57 = (0 : Int) → (170 = 170 ∧ (∀ (r58 : Int), en_isWord (1953066341) (zup st 194 ((st 170 42) - 1 : Int).toNat 0) r58 → ((r58 = (0 : Int) → _) ∧ (¬ (r58 = (0 : Int)) → (((8 : Int) < (3 : Int) → _) ∧ (¬ ((8 : Int) < (3 : Int)) → (((8 : Int) ≤ (6 : Int) → _) ∧ (¬ ((8 : Int) ≤ (6 : Int)) → (((1 : Int) = st 170 36 → _) ∧ (¬ ((1 : Int) = st 170 36) → ((¬ ((-1) : Int) = ((-1) : Int) → _) ∧ (¬ (¬ ((-1) : Int) = ((-1) : Int)) → (170 = 170 ∧ (rq_blame (1) (st 170 4) (zup st 194 ((st 170 42) - 1 : Int).toNat 0) ∧ (∀ (s59 : zS), en_blame (1) (st 170 4) (zup st 194 ((st 170 42) - 1 : Int).toNat 0) s59 → ((s59 170 8 ≤ (0 : Int) → _) ∧ (¬ (s59 170 8 ≤ (0 : Int)) → ((1 = (0 : Int) ∨ 1 = (1 : Int)) ∧ Q (some (.inl 1)) s59))))))))))))))))))) ∧ (¬ (r57 = (0 : Int)) → _))))) ∧ (¬ (r56 = (0 : Int)) → _))))) ∧ (¬ (r55 = (0 : Int)) → _))))) ∧ (¬ (r54 = (0 : Int)) → _))))) ∧ (¬ (r53 = (0 : Int)) → _))))) ∧ (¬ (r52 = (0 : Int)) → _))))) ∧ (¬ (r51 = (0 : Int)) → _))))) ∧ (¬ (¬ st 170 3 = (2 : Int)) → _))) ∧ (¬ (r50 = (0 : Int)) → _))))))))))))) ∧ (¬ (r47 = (0 : Int)) → _))))) ∧ (¬ (r46 = (0 : Int)) → _))))))) ∧ (¬ (r45 = (0 : Int)) → _))))))))) ∧ (¬ (r44 = (0 : Int)) → _))))))))))))))) ∧ (¬ (st 170 8 ≤ (0 : Int)) → _)))))
  refine ⟨rfl, ⟨hG, (show st 170 12 = -1 from by omega)⟩, ?_⟩
  refine ⟨fun h60 => ?_, fun h60 => (by exfalso; omega)⟩
  refine ⟨by omega, ?_⟩
  have g61 := g_frame hG ((st 170 42) - 1 : Int).toNat
  refine ⟨by omega, ?_⟩
  refine fun r17 q17 => ?_
  have b17 := q17
  change (r17 = 0 ∨ r17 = 1) ∧ (r17 = 1 ↔ (st 192 ((st 170 42) - 1 : Int).toNat) = 1 ∨ (st 192 ((st 170 42) - 1 : Int).toNat) = 5 ∨ (st 192 ((st 170 42) - 1 : Int).toNat) = 6) at b17
  refine ⟨fun h62 => ?_, fun h62 => ?_⟩
  · refine ⟨fun h63 => ?_, fun h63 => absurd (by decide) h63⟩
    refine ⟨by omega, ?_⟩
    refine ⟨by omega, ?_⟩
    refine ⟨fun h64 => ?_, fun h64 => absurd (by decide) h64⟩
    refine ⟨fun h65 => ?_, fun h65 => absurd (by decide) h65⟩
    refine ⟨rfl, fun r18 q18 => ?_⟩
    have b18 := q18
    change (r18 = 0 ∨ r18 = 1) ∧ (r18 = 1 ↔ st 170 3 = 3 ∧ st 170 6 = (40)) at b18
    refine ⟨fun h66 => ?_, fun h66 => (by exfalso; clear hQ; omega)⟩
    clear h66 b18
    refine ⟨rfl, fun r19 q19 => ?_⟩
    have b19 := q19
    change (r19 = 0 ∨ r19 = 1) ∧ (r19 = 1 ↔ st 170 3 = 1 ∧ st 170 7 = (7170414)) at b19
    refine ⟨fun h67 => (by exfalso; clear hQ; omega), fun h67 => ?_⟩
    clear h67 b19
    refine ⟨rfl, fun r20 q20 => ?_⟩
    have b20 := q20
    change (r20 = 0 ∨ r20 = 1) ∧ (r20 = 1 ↔ st 170 3 = 1 ∧ st 170 7 = (7168376)) at b20
    refine ⟨fun h68 => (by exfalso; clear hQ; omega), fun h68 => ?_⟩
    clear h68 b20
    refine ⟨rfl, fun r21 q21 => ?_⟩
    have b21 := q21
    change (r21 = 0 ∨ r21 = 1) ∧ (r21 = 1 ↔ st 170 3 = 1 ∧ st 170 7 = (26982)) at b21
    refine ⟨fun h69 => ?_, fun h69 => (by exfalso; clear hQ; omega)⟩
    clear h69 b21
    refine ⟨fun h70 => ?_, fun h70 => (by exfalso; omega)⟩
    refine ⟨rfl, fun r22 q22 => ?_⟩
    have b22 := q22
    change (r22 = 0 ∨ r22 = 1) ∧ (r22 = 1 ↔ st 170 3 = 1 ∧ st 170 7 = (1751474548)) at b22
    refine ⟨fun h71 => ?_, fun h71 => (by exfalso; clear hQ; omega)⟩
    clear h71 b22
    refine ⟨rfl, fun r23 q23 => ?_⟩
    have b23 := q23
    change (r23 = 0 ∨ r23 = 1) ∧ (r23 = 1 ↔ st 170 3 = 1 ∧ st 170 7 = (2036687218)) at b23
    refine ⟨fun h72 => ?_, fun h72 => (by exfalso; clear hQ; omega)⟩
    clear h72 b23
    refine ⟨rfl, fun r24 q24 => ?_⟩
    have b24 := q24
    change (r24 = 0 ∨ r24 = 1) ∧ (r24 = 1 ↔ st 170 3 = 1 ∧ st 170 7 = (1953459300)) at b24
    refine ⟨fun h73 => ?_, fun h73 => (by exfalso; clear hQ; omega)⟩
    clear h73 b24
    refine ⟨rfl, fun r25 q25 => ?_⟩
    have b25 := q25
    change (r25 = 0 ∨ r25 = 1) ∧ (r25 = 1 ↔ st 170 3 = 1 ∧ st 170 7 = (1886743660)) at b25
    refine ⟨fun h74 => ?_, fun h74 => (by exfalso; clear hQ; omega)⟩
    clear h74 b25
    refine ⟨rfl, fun r26 q26 => ?_⟩
    have b26 := q26
    change (r26 = 0 ∨ r26 = 1) ∧ (r26 = 1 ↔ st 170 3 = 1 ∧ st 170 7 = (1937007984)) at b26
    refine ⟨fun h75 => ?_, fun h75 => (by exfalso; clear hQ; omega)⟩
    clear h75 b26
    refine ⟨rfl, fun r27 q27 => ?_⟩
    have b27 := q27
    change (r27 = 0 ∨ r27 = 1) ∧ (r27 = 1 ↔ st 170 3 = 1 ∧ st 170 7 = (1650812270)) at b27
    refine ⟨fun h76 => ?_, fun h76 => (by exfalso; clear hQ; omega)⟩
    clear h76 b27
    refine ⟨rfl, fun r28 q28 => ?_⟩
    have b28 := q28
    change (r28 = 0 ∨ r28 = 1) ∧ (r28 = 1 ↔ st 170 3 = 1 ∧ st 170 7 = (495874044019)) at b28
    refine ⟨fun h77 => ?_, fun h77 => (by exfalso; clear hQ; omega)⟩
    clear h77 b28
    refine ⟨rfl, fun r29 q29 => ?_⟩
    have b29 := q29
    change (r29 = 0 ∨ r29 = 1) ∧ (r29 = 1 ↔ st 170 3 = 1 ∧ st 170 7 = (1953066341)) at b29
    refine ⟨fun h78 => (by exfalso; clear hQ; omega), fun h78 => ?_⟩
    clear h78 b29
    refine ⟨fun h79 => absurd h79 (by decide), fun h79 => ?_⟩
    refine ⟨fun h80 => absurd h80 (by decide), fun h80 => ?_⟩
    refine ⟨fun h81 => (by exfalso; omega), fun h81 => ?_⟩
    refine ⟨fun h82 => absurd h82 (by decide), fun h82 => ?_⟩
    refine ⟨rfl, ⟨(gInv_up hG (p_begins (by omega))), (show 1 ≤ (1) ∧ (1) ≤ 6 from by omega), (show -2147483648 ≤ (st 170 4) ∧ (st 170 4) ≤ 2147483647 from by omega)⟩, fun s30 q30 => ?_⟩
    obtain ⟨gs30, fs30, p30⟩ := q30
    change (st 170 8 = 0 → s30 170 8 = (1)) ∧ (0 < st 170 8 → s30 170 8 = st 170 8) at p30
    have g83 := g_faultKind gs30
    refine ⟨fun h84 => (by exfalso; omega), fun h84 => ?_⟩
    refine ⟨by omega, ?_⟩
    exact hQ _ _ ⟨gs30, (fr_tr (fr_a (fr_rf _ _) rfl) fs30 rfl), (Z9_tr (Z9_up (Z9_rf _) (by decide)) ((show aFr m_rOpF98 st (zup st 194 ((st 170 42) - 1 : Int).toNat 0) from (fr_a (fr_rf _ _) rfl)) 170 35 rfl rfl) (Z9_fr fs30 (fun _ => rfl) rfl)), (show 0 < s30 170 8 ∧ ((1 : Int) = 0 ∨ (1 : Int) = 1) from by omega)⟩
  · have g85 := g_begins hG ((st 170 42) - 1 : Int).toNat
    refine ⟨by omega, ?_⟩
    refine ⟨fun h86 => ?_, fun h86 => ?_⟩
    · refine ⟨fun h87 => ?_, fun h87 => absurd (by decide) h87⟩
      refine ⟨by omega, ?_⟩
      refine ⟨by omega, ?_⟩
      refine ⟨fun h88 => ?_, fun h88 => absurd (by decide) h88⟩
      refine ⟨fun h89 => ?_, fun h89 => absurd (by decide) h89⟩
      refine ⟨rfl, fun r31 q31 => ?_⟩
      have b31 := q31
      change (r31 = 0 ∨ r31 = 1) ∧ (r31 = 1 ↔ st 170 3 = 3 ∧ st 170 6 = (40)) at b31
      refine ⟨fun h90 => ?_, fun h90 => (by exfalso; clear hQ; omega)⟩
      clear h90 b31
      refine ⟨rfl, fun r32 q32 => ?_⟩
      have b32 := q32
      change (r32 = 0 ∨ r32 = 1) ∧ (r32 = 1 ↔ st 170 3 = 1 ∧ st 170 7 = (7170414)) at b32
      refine ⟨fun h91 => (by exfalso; clear hQ; omega), fun h91 => ?_⟩
      clear h91 b32
      refine ⟨rfl, fun r33 q33 => ?_⟩
      have b33 := q33
      change (r33 = 0 ∨ r33 = 1) ∧ (r33 = 1 ↔ st 170 3 = 1 ∧ st 170 7 = (7168376)) at b33
      refine ⟨fun h92 => (by exfalso; clear hQ; omega), fun h92 => ?_⟩
      clear h92 b33
      refine ⟨rfl, fun r34 q34 => ?_⟩
      have b34 := q34
      change (r34 = 0 ∨ r34 = 1) ∧ (r34 = 1 ↔ st 170 3 = 1 ∧ st 170 7 = (26982)) at b34
      refine ⟨fun h93 => ?_, fun h93 => (by exfalso; clear hQ; omega)⟩
      clear h93 b34
      refine ⟨fun h94 => ?_, fun h94 => (by exfalso; omega)⟩
      refine ⟨rfl, fun r35 q35 => ?_⟩
      have b35 := q35
      change (r35 = 0 ∨ r35 = 1) ∧ (r35 = 1 ↔ st 170 3 = 1 ∧ st 170 7 = (1751474548)) at b35
      refine ⟨fun h95 => ?_, fun h95 => (by exfalso; clear hQ; omega)⟩
      clear h95 b35
      refine ⟨rfl, fun r36 q36 => ?_⟩
      have b36 := q36
      change (r36 = 0 ∨ r36 = 1) ∧ (r36 = 1 ↔ st 170 3 = 1 ∧ st 170 7 = (2036687218)) at b36
      refine ⟨fun h96 => ?_, fun h96 => (by exfalso; clear hQ; omega)⟩
      clear h96 b36
      refine ⟨rfl, fun r37 q37 => ?_⟩
      have b37 := q37
      change (r37 = 0 ∨ r37 = 1) ∧ (r37 = 1 ↔ st 170 3 = 1 ∧ st 170 7 = (1953459300)) at b37
      refine ⟨fun h97 => ?_, fun h97 => (by exfalso; clear hQ; omega)⟩
      clear h97 b37
      refine ⟨rfl, fun r38 q38 => ?_⟩
      have b38 := q38
      change (r38 = 0 ∨ r38 = 1) ∧ (r38 = 1 ↔ st 170 3 = 1 ∧ st 170 7 = (1886743660)) at b38
      refine ⟨fun h98 => ?_, fun h98 => (by exfalso; clear hQ; omega)⟩
      clear h98 b38
      refine ⟨rfl, fun r39 q39 => ?_⟩
      have b39 := q39
      change (r39 = 0 ∨ r39 = 1) ∧ (r39 = 1 ↔ st 170 3 = 1 ∧ st 170 7 = (1937007984)) at b39
      refine ⟨fun h99 => ?_, fun h99 => (by exfalso; clear hQ; omega)⟩
      clear h99 b39
      refine ⟨rfl, fun r40 q40 => ?_⟩
      have b40 := q40
      change (r40 = 0 ∨ r40 = 1) ∧ (r40 = 1 ↔ st 170 3 = 1 ∧ st 170 7 = (1650812270)) at b40
      refine ⟨fun h100 => ?_, fun h100 => (by exfalso; clear hQ; omega)⟩
      clear h100 b40
      refine ⟨rfl, fun r41 q41 => ?_⟩
      have b41 := q41
      change (r41 = 0 ∨ r41 = 1) ∧ (r41 = 1 ↔ st 170 3 = 1 ∧ st 170 7 = (495874044019)) at b41
      refine ⟨fun h101 => ?_, fun h101 => (by exfalso; clear hQ; omega)⟩
      clear h101 b41
      refine ⟨rfl, fun r42 q42 => ?_⟩
      have b42 := q42
      change (r42 = 0 ∨ r42 = 1) ∧ (r42 = 1 ↔ st 170 3 = 1 ∧ st 170 7 = (1953066341)) at b42
      refine ⟨fun h102 => (by exfalso; clear hQ; omega), fun h102 => ?_⟩
      clear h102 b42
      refine ⟨fun h103 => absurd h103 (by decide), fun h103 => ?_⟩
      refine ⟨fun h104 => absurd h104 (by decide), fun h104 => ?_⟩
      refine ⟨fun h105 => (by exfalso; omega), fun h105 => ?_⟩
      refine ⟨fun h106 => absurd h106 (by decide), fun h106 => ?_⟩
      refine ⟨rfl, ⟨(gInv_up hG (p_begins (by omega))), (show 1 ≤ (1) ∧ (1) ≤ 6 from by omega), (show -2147483648 ≤ (st 170 4) ∧ (st 170 4) ≤ 2147483647 from by omega)⟩, fun s43 q43 => ?_⟩
      obtain ⟨gs43, fs43, p43⟩ := q43
      change (st 170 8 = 0 → s43 170 8 = (1)) ∧ (0 < st 170 8 → s43 170 8 = st 170 8) at p43
      have g107 := g_faultKind gs43
      refine ⟨fun h108 => (by exfalso; omega), fun h108 => ?_⟩
      refine ⟨by omega, ?_⟩
      exact hQ _ _ ⟨gs43, (fr_tr (fr_a (fr_rf _ _) rfl) fs43 rfl), (Z9_tr (Z9_up (Z9_rf _) (by decide)) ((show aFr m_rOpF98 st (zup st 194 ((st 170 42) - 1 : Int).toNat 0) from (fr_a (fr_rf _ _) rfl)) 170 35 rfl rfl) (Z9_fr fs43 (fun _ => rfl) rfl)), (show 0 < s43 170 8 ∧ ((1 : Int) = 0 ∨ (1 : Int) = 1) from by omega)⟩
    · refine ⟨fun h109 => absurd h109 (by decide), fun h109 => ?_⟩
      refine ⟨rfl, fun r44 q44 => ?_⟩
      have b44 := q44
      change (r44 = 0 ∨ r44 = 1) ∧ (r44 = 1 ↔ st 170 3 = 1 ∧ st 170 7 = (7237492)) at b44
      refine ⟨fun h110 => ?_, fun h110 => (by exfalso; clear hQ; omega)⟩
      clear h110 b44
      refine ⟨by omega, ?_⟩
      refine ⟨by omega, ?_⟩
      refine ⟨fun h111 => absurd h111 (by decide), fun h111 => ?_⟩
      refine ⟨rfl, fun r45 q45 => ?_⟩
      have b45 := q45
      change (r45 = 0 ∨ r45 = 1) ∧ (r45 = 1 ↔ st 170 3 = 3 ∧ st 170 6 = (91)) at b45
      refine ⟨fun h112 => ?_, fun h112 => (by exfalso; clear hQ; omega)⟩
      clear h112 b45
      refine ⟨fun h113 => absurd h113 (by decide), fun h113 => ?_⟩
      refine ⟨rfl, fun r46 q46 => ?_⟩
      have b46 := q46
      change (r46 = 0 ∨ r46 = 1) ∧ (r46 = 1 ↔ st 170 3 = 1 ∧ st 170 7 = (6384748)) at b46
      refine ⟨fun h114 => ?_, fun h114 => (by exfalso; clear hQ; omega)⟩
      clear h114 b46
      refine ⟨rfl, fun r47 q47 => ?_⟩
      have b47 := q47
      change (r47 = 0 ∨ r47 = 1) ∧ (r47 = 1 ↔ st 170 3 = 3 ∧ st 170 6 = (40)) at b47
      refine ⟨fun h115 => ?_, fun h115 => (by exfalso; clear hQ; omega)⟩
      clear h115 b47
      refine ⟨rfl, fun r48 q48 => ?_⟩
      have b48 := q48
      change (r48 = 0 ∨ r48 = 1) ∧ (r48 = 1 ↔ st 170 3 = 1 ∧ st 170 7 = (7170414)) at b48
      refine ⟨fun h116 => (by exfalso; clear hQ; omega), fun h116 => ?_⟩
      clear h116 b48
      refine ⟨rfl, fun r49 q49 => ?_⟩
      have b49 := q49
      change (r49 = 0 ∨ r49 = 1) ∧ (r49 = 1 ↔ st 170 3 = 1 ∧ st 170 7 = (7168376)) at b49
      refine ⟨fun h117 => (by exfalso; clear hQ; omega), fun h117 => ?_⟩
      clear h117 b49
      refine ⟨rfl, fun r50 q50 => ?_⟩
      have b50 := q50
      change (r50 = 0 ∨ r50 = 1) ∧ (r50 = 1 ↔ st 170 3 = 1 ∧ st 170 7 = (26982)) at b50
      refine ⟨fun h118 => ?_, fun h118 => (by exfalso; clear hQ; omega)⟩
      clear h118 b50
      refine ⟨fun h119 => ?_, fun h119 => (by exfalso; omega)⟩
      refine ⟨rfl, fun r51 q51 => ?_⟩
      have b51 := q51
      change (r51 = 0 ∨ r51 = 1) ∧ (r51 = 1 ↔ st 170 3 = 1 ∧ st 170 7 = (1751474548)) at b51
      refine ⟨fun h120 => ?_, fun h120 => (by exfalso; clear hQ; omega)⟩
      clear h120 b51
      refine ⟨rfl, fun r52 q52 => ?_⟩
      have b52 := q52
      change (r52 = 0 ∨ r52 = 1) ∧ (r52 = 1 ↔ st 170 3 = 1 ∧ st 170 7 = (2036687218)) at b52
      refine ⟨fun h121 => ?_, fun h121 => (by exfalso; clear hQ; omega)⟩
      clear h121 b52
      refine ⟨rfl, fun r53 q53 => ?_⟩
      have b53 := q53
      change (r53 = 0 ∨ r53 = 1) ∧ (r53 = 1 ↔ st 170 3 = 1 ∧ st 170 7 = (1953459300)) at b53
      refine ⟨fun h122 => ?_, fun h122 => (by exfalso; clear hQ; omega)⟩
      clear h122 b53
      refine ⟨rfl, fun r54 q54 => ?_⟩
      have b54 := q54
      change (r54 = 0 ∨ r54 = 1) ∧ (r54 = 1 ↔ st 170 3 = 1 ∧ st 170 7 = (1886743660)) at b54
      refine ⟨fun h123 => ?_, fun h123 => (by exfalso; clear hQ; omega)⟩
      clear h123 b54
      refine ⟨rfl, fun r55 q55 => ?_⟩
      have b55 := q55
      change (r55 = 0 ∨ r55 = 1) ∧ (r55 = 1 ↔ st 170 3 = 1 ∧ st 170 7 = (1937007984)) at b55
      refine ⟨fun h124 => ?_, fun h124 => (by exfalso; clear hQ; omega)⟩
      clear h124 b55
      refine ⟨rfl, fun r56 q56 => ?_⟩
      have b56 := q56
      change (r56 = 0 ∨ r56 = 1) ∧ (r56 = 1 ↔ st 170 3 = 1 ∧ st 170 7 = (1650812270)) at b56
      refine ⟨fun h125 => ?_, fun h125 => (by exfalso; clear hQ; omega)⟩
      clear h125 b56
      refine ⟨rfl, fun r57 q57 => ?_⟩
      have b57 := q57
      change (r57 = 0 ∨ r57 = 1) ∧ (r57 = 1 ↔ st 170 3 = 1 ∧ st 170 7 = (495874044019)) at b57
      refine ⟨fun h126 => ?_, fun h126 => (by exfalso; clear hQ; omega)⟩
      clear h126 b57
      refine ⟨rfl, fun r58 q58 => ?_⟩
      have b58 := q58
      change (r58 = 0 ∨ r58 = 1) ∧ (r58 = 1 ↔ st 170 3 = 1 ∧ st 170 7 = (1953066341)) at b58
      refine ⟨fun h127 => (by exfalso; clear hQ; omega), fun h127 => ?_⟩
      clear h127 b58
      refine ⟨fun h128 => absurd h128 (by decide), fun h128 => ?_⟩
      refine ⟨fun h129 => absurd h129 (by decide), fun h129 => ?_⟩
      refine ⟨fun h130 => (by exfalso; omega), fun h130 => ?_⟩
      refine ⟨fun h131 => absurd h131 (by decide), fun h131 => ?_⟩
      refine ⟨rfl, ⟨(gInv_up hG (p_begins (by omega))), (show 1 ≤ (1) ∧ (1) ≤ 6 from by omega), (show -2147483648 ≤ (st 170 4) ∧ (st 170 4) ≤ 2147483647 from by omega)⟩, fun s59 q59 => ?_⟩
      obtain ⟨gs59, fs59, p59⟩ := q59
      change (st 170 8 = 0 → s59 170 8 = (1)) ∧ (0 < st 170 8 → s59 170 8 = st 170 8) at p59
      have g132 := g_faultKind gs59
      refine ⟨fun h133 => (by exfalso; omega), fun h133 => ?_⟩
      refine ⟨by omega, ?_⟩
      exact hQ _ _ ⟨gs59, (fr_tr (fr_a (fr_rf _ _) rfl) fs59 rfl), (Z9_tr (Z9_up (Z9_rf _) (by decide)) ((show aFr m_rOpF98 st (zup st 194 ((st 170 42) - 1 : Int).toNat 0) from (fr_a (fr_rf _ _) rfl)) 170 35 rfl rfl) (Z9_fr fs59 (fun _ => rfl) rfl)), (show 0 < s59 170 8 ∧ ((1 : Int) = 0 ∨ (1 : Int) = 1) from by omega)⟩
theorem k_rOpF98_m (hTb : aTb zSh rx_tb cl) {t : Int → Int} {n k ph bg pr o p e : Int} {w c : List Int} {fs : List mFr} {D : Nat} (hD : 3 ≤ D) : ∀ as st (Q Q' : zQ), (∀ r st', Q r st' → Q' r st') → (k_rOpF98 t n k ph bg pr o p e w c fs) 196 as st Q → cl D 196 as st Q' := by
  intro as st Q Q' hQ h
  unfold k_rOpF98 at h
  split at h
  · obtain ⟨rfl, h⟩ := h
    exact c_rOpF98 hTb hD (ct_rOpF98_m hQ h)
  · exact h.elim
set_option maxHeartbeats 4000000 in
set_option maxRecDepth 100000 in
theorem c_rOpF99 (hTb : aTb zSh rx_tb cl) {t : Int → Int} {n k ph bg pr o p e : Int} {w c : List Int} {fs : List mFr} {D : Nat} (hD : 3 ≤ D) {st : zS} {Q : zQ} (h : ct_rOpF99 t n k ph bg pr o p e w c fs st Q) : cl D 196 [.inr (.inr (.inl 170))] st Q := by
  obtain ⟨d, rfl⟩ : ∃ d, D = d + 1 := ⟨D - 1, by omega⟩
  refine hTb d 196 (rx_m196, 4, 0, 0, 2) rfl _ _ _ (Nat.le_of_ble_eq_true rfl) (fun K hcl hsf hsl => ?_)
  have hcm : zmo (wcL [(181, k_rLex), (195, k_isTest), (183, k_isWord), (182, k_isSign), (178, k_blame), (194, k_rOpensF), (189, k_add), (149, k_rNext t n), (192, k_holdsBack)]) (cl d) := (wcL_m (wm_cons (k_rLex_m hTb (by omega)) (wm_cons (k_isTest_m hTb (by omega)) (wm_cons (k_isWord_m hTb (by omega)) (wm_cons (k_isSign_m hTb (by omega)) (wm_cons (k_blame_m hTb (by omega)) (wm_cons (k_rOpensF_m hTb (by omega)) (wm_cons (k_add_m hTb (by omega)) (wm_cons (k_rNext_m hTb (by omega)) (wm_cons (k_holdsBack_m hTb (by omega)) wm_nil))))))))))
  obtain ⟨hR, hQ⟩ := h
  obtain ⟨hG, mp, ht⟩ := hR
  change mcP t n st ((k, ph, bg, pr, w) :: fs) 0 (o) (c) (p) at mp
  change tk t n p 1 465726042227 e ∧ st 170 36 = 0 at ht
  have g1 := g_isClever hG
  obtain ⟨mf, mo, mn, mpp, mrd, mq, mbd, mz1, mz2, mz3⟩ := mp
  rw [List.length_cons] at mz3
  have mq0 := mq
  obtain ⟨mfr, mwb, mcd⟩ := mq
  have mt := FR_top mfr
  have mb := FR_bnd _ _ _ mwb mfr
  rw [List.length_cons] at mb
  have ml := WB_hd mwb
  have mcl := mcd.1
  have mlw := FR_len mb.2.1 mfr
  have tf := r_wrd mrd (by rw [mpp]; exact ht.1)
  have g2 := g_codes hG
  have g3 := g_in hG
  have g4 := g_deep hG
  have g5 := g_open hG
  have g6 := g_opMany hG
  have g7 := g_signAt hG
  have g8 := g_signEnd hG
  have g9 := g_faultKind hG
  have g10 := g_size hG
  have g11 := g_sign hG
  have g12 := g_lexAt hG
  have g13 := g_value hG
  have g14 := g_word hG
  have g15 := g_operand hG
  refine yr1_ok (Rt := Q) (wc := (wcL [(181, k_rLex), (195, k_isTest), (183, k_isWord), (182, k_isSign), (178, k_blame), (194, k_rOpensF), (189, k_add), (149, k_rNext t n), (192, k_holdsBack)])) (stp := []) hcm hcl [] 400 ?_
  show (170 = 170 ∧ (rq_rLex  st ∧ (((st 170 8 ≤ (0 : Int) → ((-2147483648 ≤ (st 170 42) - 1 ∧ (st 170 42) - 1 ≤ 2147483647) ∧ ((0 ≤ (st 170 42) - 1 ∧ (st 170 42) - 1 < 20) ∧ (∀ (r17 : Int), en_isTest (st 192 ((st 170 42) - 1 : Int).toNat) st r17 → ((r17 = (0 : Int) → (((0 : Int) = (0 : Int) → ((0 ≤ (st 170 42) - 1 ∧ (st 170 42) - 1 < 20) ∧ ((0 = (0 : Int) ∨ 0 = (1 : Int)) ∧ (((0 : Int) = (0 : Int) → (((0 : Int) = (0 : Int) → (170 = 170 ∧ (∀ (r18 : Int), en_isSign (40) (zup st 194 ((st 170 42) - 1 : Int).toNat 0) r18 → ((r18 = (0 : Int) → (170 = 170 ∧ (∀ (r19 : Int), en_isWord (7170414) (zup st 194 ((st 170 42) - 1 : Int).toNat 0) r19 → ((¬ r19 = (0 : Int) → _) ∧ (¬ (¬ r19 = (0 : Int)) → (170 = 170 ∧ (∀ (r20 : Int), en_isWord (7168376) (zup st 194 ((st 170 42) - 1 : Int).toNat 0) r20 → ((¬ r20 = (0 : Int) → _) ∧ (¬ (¬ r20 = (0 : Int)) → (170 = 170 ∧ (∀ (r21 : Int), en_isWord (26982) (zup st 194 ((st 170 42) - 1 : Int).toNat 0) r21 → ((r21 = (0 : Int) → ((¬ st 170 3 = (2 : Int) → (170 = 170 ∧ (∀ (r22 : Int), en_isWord (1751474548) (zup st 194 ((st 170 42) - 1 : Int).toNat 0) r22 → ((r22 = (0 : Int) → (170 = 170 ∧ (∀ (r23 : Int), en_isWord (2036687218) (zup st 194 ((st 170 42) - 1 : Int).toNat 0) r23 → ((r23 = (0 : Int) → (170 = 170 ∧ (∀ (r24 : Int), en_isWord (1953459300) (zup st 194 ((st 170 42) - 1 : Int).toNat 0) r24 → ((r24 = (0 : Int) → (170 = 170 ∧ (∀ (r25 : Int), en_isWord (1886743660) (zup st 194 ((st 170 42) - 1 : Int).toNat 0) r25 → ((r25 = (0 : Int) → (170 = 170 ∧ (∀ (r26 : Int), en_isWord (1937007984) (zup st 194 ((st 170 42) - 1 : Int).toNat 0) r26 → ((r26 = (0 : Int) → (170 = 170 ∧ (∀ (r27 : Int), en_isWord (1650812270) (zup st 194 ((st 170 42) - 1 : Int).toNat 0) r27 → ((r27 = (0 : Int) → (170 = 170 ∧ (∀ (r28 : Int), en_isWord (495874044019) (zup st 194 ((st 170 42) - 1 : Int).toNat 0) r28 → ((r28 = (0 : Int) → (170 = 170 ∧ (∀ (r29 : Int), en_isWord (1953066341) (zup st 194 ((st 170 42) - 1 : Int).toNat 0) r29 → ((r29 = (0 : Int) → (170 = 170 ∧ (∀ (r30 : Int), en_isWord (465726042227) (zup st 194 ((st 170 42) - 1 : Int).toNat 0) r30 → ((r30 = (0 : Int) → _) ∧ (¬ (r30 = (0 : Int)) → (((9 : Int) < (3 : Int) → _) ∧ (¬ ((9 : Int) < (3 : Int)) → (((9 : Int) ≤ (6 : Int) → _) ∧ (¬ ((9 : Int) ≤ (6 : Int)) → (((1 : Int) = st 170 36 → _) ∧ (¬ ((1 : Int) = st 170 36) → ((¬ ((-1) : Int) = ((-1) : Int) → _) ∧ (¬ (¬ ((-1) : Int) = ((-1) : Int)) → (170 = 170 ∧ (rq_blame (1) (st 170 4) (zup st 194 ((st 170 42) - 1 : Int).toNat 0) ∧ (∀ (s31 : zS), en_blame (1) (st 170 4) (zup st 194 ((st 170 42) - 1 : Int).toNat 0) s31 → ((s31 170 8 ≤ (0 : Int) → _) ∧ (¬ (s31 170 8 ≤ (0 : Int)) → ((1 = (0 : Int) ∨ 1 = (1 : Int)) ∧ Q (some (.inl 1)) s31))))))))))))))))))) ∧ (¬ (r29 = (0 : Int)) → _))))) ∧ (¬ (r28 = (0 : Int)) → _))))) ∧ (¬ (r27 = (0 : Int)) → _))))) ∧ (¬ (r26 = (0 : Int)) → _))))) ∧ (¬ (r25 = (0 : Int)) → _))))) ∧ (¬ (r24 = (0 : Int)) → _))))) ∧ (¬ (r23 = (0 : Int)) → _))))) ∧ (¬ (r22 = (0 : Int)) → _))))) ∧ (¬ (¬ st 170 3 = (2 : Int)) → _))) ∧ (¬ (r21 = (0 : Int)) → _))))))))))))) ∧ (¬ (r18 = (0 : Int)) → _))))) ∧ (¬ ((0 : Int) = (0 : Int)) → _))) ∧ (¬ ((0 : Int) = (0 : Int)) → _))))) ∧ (¬ ((0 : Int) = (0 : Int)) → _))) ∧ (¬ (r17 = (0 : Int)) → ((0 ≤ (st 170 42) - 1 ∧ (st 170 42) - 1 < 20) ∧ ((st 194 ((st 170 42) - 1 : Int).toNat = (0 : Int) → (((0 : Int) = (0 : Int) → ((0 ≤ (st 170 42) - 1 ∧ (st 170 42) - 1 < 20) ∧ ((0 = (0 : Int) ∨ 0 = (1 : Int)) ∧ (((0 : Int) = (0 : Int) → (((0 : Int) = (0 : Int) → (170 = 170 ∧ (∀ (r32 : Int), en_isSign (40) (zup st 194 ((st 170 42) - 1 : Int).toNat 0) r32 → ((r32 = (0 : Int) → (170 = 170 ∧ (∀ (r33 : Int), en_isWord (7170414) (zup st 194 ((st 170 42) - 1 : Int).toNat 0) r33 → ((¬ r33 = (0 : Int) → _) ∧ (¬ (¬ r33 = (0 : Int)) → (170 = 170 ∧ (∀ (r34 : Int), en_isWord (7168376) (zup st 194 ((st 170 42) - 1 : Int).toNat 0) r34 → ((¬ r34 = (0 : Int) → _) ∧ (¬ (¬ r34 = (0 : Int)) → (170 = 170 ∧ (∀ (r35 : Int), en_isWord (26982) (zup st 194 ((st 170 42) - 1 : Int).toNat 0) r35 → ((r35 = (0 : Int) → ((¬ st 170 3 = (2 : Int) → (170 = 170 ∧ (∀ (r36 : Int), en_isWord (1751474548) (zup st 194 ((st 170 42) - 1 : Int).toNat 0) r36 → ((r36 = (0 : Int) → (170 = 170 ∧ (∀ (r37 : Int), en_isWord (2036687218) (zup st 194 ((st 170 42) - 1 : Int).toNat 0) r37 → ((r37 = (0 : Int) → (170 = 170 ∧ (∀ (r38 : Int), en_isWord (1953459300) (zup st 194 ((st 170 42) - 1 : Int).toNat 0) r38 → ((r38 = (0 : Int) → (170 = 170 ∧ (∀ (r39 : Int), en_isWord (1886743660) (zup st 194 ((st 170 42) - 1 : Int).toNat 0) r39 → ((r39 = (0 : Int) → (170 = 170 ∧ (∀ (r40 : Int), en_isWord (1937007984) (zup st 194 ((st 170 42) - 1 : Int).toNat 0) r40 → ((r40 = (0 : Int) → (170 = 170 ∧ (∀ (r41 : Int), en_isWord (1650812270) (zup st 194 ((st 170 42) - 1 : Int).toNat 0) r41 → ((r41 = (0 : Int) → (170 = 170 ∧ (∀ (r42 : Int), en_isWord (495874044019) (zup st 194 ((st 170 42) - 1 : Int).toNat 0) r42 → ((r42 = (0 : Int) → (170 = 170 ∧ (∀ (r43 : Int), en_isWord (1953066341) (zup st 194 ((st 170 42) - 1 : Int).toNat 0) r43 → ((r43 = (0 : Int) → (170 = 170 ∧ (∀ (r44 : Int), en_isWord (465726042227) (zup st 194 ((st 170 42) - 1 : Int).toNat 0) r44 → ((r44 = (0 : Int) → _) ∧ (¬ (r44 = (0 : Int)) → (((9 : Int) < (3 : Int) → _) ∧ (¬ ((9 : Int) < (3 : Int)) → (((9 : Int) ≤ (6 : Int) → _) ∧ (¬ ((9 : Int) ≤ (6 : Int)) → (((1 : Int) = st 170 36 → _) ∧ (¬ ((1 : Int) = st 170 36) → ((¬ ((-1) : Int) = ((-1) : Int) → _) ∧ (¬ (¬ ((-1) : Int) = ((-1) : Int)) → (170 = 170 ∧ (rq_blame (1) (st 170 4) (zup st 194 ((st 170 42) - 1 : Int).toNat 0) ∧ (∀ (s45 : zS), en_blame (1) (st 170 4) (zup st 194 ((st 170 42) - 1 : Int).toNat 0) s45 → ((s45 170 8 ≤ (0 : Int) → _) ∧ (¬ (s45 170 8 ≤ (0 : Int)) → ((1 = (0 : Int) ∨ 1 = (1 : Int)) ∧ Q (some (.inl 1)) s45))))))))))))))))))) ∧ (¬ (r43 = (0 : Int)) → _))))) ∧ (¬ (r42 = (0 : Int)) → _))))) ∧ (¬ (r41 = (0 : Int)) → _))))) ∧ (¬ (r40 = (0 : Int)) → _))))) ∧ (¬ (r39 = (0 : Int)) → _))))) ∧ (¬ (r38 = (0 : Int)) → _))))) ∧ (¬ (r37 = (0 : Int)) → _))))) ∧ (¬ (r36 = (0 : Int)) → _))))) ∧ (¬ (¬ st 170 3 = (2 : Int)) → _))) ∧ (¬ (r35 = (0 : Int)) → _))))))))))))) ∧ (¬ (r32 = (0 : Int)) → _))))) ∧ (¬ ((0 : Int) = (0 : Int)) → _))) ∧ (¬ ((0 : Int) = (0 : Int)) → _))))) ∧ (¬ ((0 : Int) = (0 : Int)) → _))) ∧ (¬ (st 194 ((st 170 42) - 1 : Int).toNat = (0 : Int)) → (((1 : Int) = (0 : Int) → _) ∧ (¬ ((1 : Int) = (0 : Int)) → (170 = 170 ∧ (∀ (r46 : Int), en_isWord (7237492) st r46 → ((r46 = (0 : Int) → ((0 ≤ (st 170 42) - 1 ∧ (st 170 42) - 1 < 20) ∧ ((0 = (0 : Int) ∨ 0 = (1 : Int)) ∧ (((1 : Int) = (0 : Int) → _) ∧ (¬ ((1 : Int) = (0 : Int)) → (170 = 170 ∧ (∀ (r47 : Int), en_isSign (91) (zup st 194 ((st 170 42) - 1 : Int).toNat 0) r47 → ((r47 = (0 : Int) → (((1 : Int) = (0 : Int) → _) ∧ (¬ ((1 : Int) = (0 : Int)) → (170 = 170 ∧ (∀ (r48 : Int), en_isWord (6384748) (zup st 194 ((st 170 42) - 1 : Int).toNat 0) r48 → ((r48 = (0 : Int) → (170 = 170 ∧ (∀ (r49 : Int), en_isSign (40) (zup st 194 ((st 170 42) - 1 : Int).toNat 0) r49 → ((r49 = (0 : Int) → (170 = 170 ∧ (∀ (r50 : Int), en_isWord (7170414) (zup st 194 ((st 170 42) - 1 : Int).toNat 0) r50 → ((¬ r50 = (0 : Int) → _) ∧ (¬ (¬ r50 = (0 : Int)) → (170 = 170 ∧ (∀ (r51 : Int), en_isWord (7168376) (zup st 194 ((st 170 42) - 1 : Int).toNat 0) r51 → ((¬ r51 = (0 : Int) → _) ∧ (¬ (¬ r51 = (0 : Int)) → (170 = 170 ∧ (∀ (r52 : Int), en_isWord (26982) (zup st 194 ((st 170 42) - 1 : Int).toNat 0) r52 → ((r52 = (0 : Int) → ((¬ st 170 3 = (2 : Int) → (170 = 170 ∧ (∀ (r53 : Int), en_isWord (1751474548) (zup st 194 ((st 170 42) - 1 : Int).toNat 0) r53 → ((r53 = (0 : Int) → (170 = 170 ∧ (∀ (r54 : Int), en_isWord (2036687218) (zup st 194 ((st 170 42) - 1 : Int).toNat 0) r54 → ((r54 = (0 : Int) → (170 = 170 ∧ (∀ (r55 : Int), en_isWord (1953459300) (zup st 194 ((st 170 42) - 1 : Int).toNat 0) r55 → ((r55 = (0 : Int) → (170 = 170 ∧ (∀ (r56 : Int), en_isWord (1886743660) (zup st 194 ((st 170 42) - 1 : Int).toNat 0) r56 → ((r56 = (0 : Int) → (170 = 170 ∧ (∀ (r57 : Int), en_isWord (1937007984) (zup st 194 ((st 170 42) - 1 : Int).toNat 0) r57 → ((r57 = (0 : Int) → (170 = 170 ∧ (∀ (r58 : Int), en_isWord (1650812270) (zup st 194 ((st 170 42) - 1 : Int).toNat 0) r58 → ((r58 = (0 : Int) → (170 = 170 ∧ (∀ (r59 : Int), en_isWord (495874044019) (zup st 194 ((st 170 42) - 1 : Int).toNat 0) r59 → ((r59 = (0 : Int) → (170 = 170 ∧ (∀ (r60 : Int), en_isWord (1953066341) (zup st 194 ((st 170 42) - 1 : Int).toNat 0) r60 → ((r60 = (0 : Int) → (170 = 170 ∧ (∀ (r61 : Int), en_isWord (465726042227) (zup st 194 ((st 170 42) - 1 : Int).toNat 0) r61 → ((r61 = (0 : Int) → _) ∧ (¬ (r61 = (0 : Int)) → (((9 : Int) < (3 : Int) → _) ∧ (¬ ((9 : Int) < (3 : Int)) → (((9 : Int) ≤ (6 : Int) → _) ∧ (¬ ((9 : Int) ≤ (6 : Int)) → (((1 : Int) = st 170 36 → _) ∧ (¬ ((1 : Int) = st 170 36) → ((¬ ((-1) : Int) = ((-1) : Int) → _) ∧ (¬ (¬ ((-1) : Int) = ((-1) : Int)) → (170 = 170 ∧ (rq_blame (1) (st 170 4) (zup st 194 ((st 170 42) - 1 : Int).toNat 0) ∧ (∀ (s62 : zS), en_blame (1) (st 170 4) (zup st 194 ((st 170 42) - 1 : Int).toNat 0) s62 → ((s62 170 8 ≤ (0 : Int) → _) ∧ (¬ (s62 170 8 ≤ (0 : Int)) → ((1 = (0 : Int) ∨ 1 = (1 : Int)) ∧ Q (some (.inl 1)) s62))))))))))))))))))) ∧ (¬ (r60 = (0 : Int)) → _))))) ∧ (¬ (r59 = (0 : Int)) → _))))) ∧ (¬ (r58 = (0 : Int)) → _))))) ∧ (¬ (r57 = (0 : Int)) → _))))) ∧ (¬ (r56 = (0 : Int)) → _))))) ∧ (¬ (r55 = (0 : Int)) → _))))) ∧ (¬ (r54 = (0 : Int)) → _))))) ∧ (¬ (r53 = (0 : Int)) → _))))) ∧ (¬ (¬ st 170 3 = (2 : Int)) → _))) ∧ (¬ (r52 = (0 : Int)) → _))))))))))))) ∧ (¬ (r49 = (0 : Int)) → _))))) ∧ (¬ (r48 = (0 : Int)) → _))))))) ∧ (¬ (r47 = (0 : Int)) → _))))))))) ∧ (¬ (r46 = (0 : Int)) → _))))))))))))))) ∧ (¬ (st 170 8 ≤ (0 : Int)) → _)))))
  refine ⟨rfl, ⟨hG, (show st 170 12 = -1 from by omega)⟩, ?_⟩
  refine ⟨fun h63 => ?_, fun h63 => (by exfalso; omega)⟩
  refine ⟨by omega, ?_⟩
  have g64 := g_frame hG ((st 170 42) - 1 : Int).toNat
  refine ⟨by omega, ?_⟩
  refine fun r17 q17 => ?_
  have b17 := q17
  change (r17 = 0 ∨ r17 = 1) ∧ (r17 = 1 ↔ (st 192 ((st 170 42) - 1 : Int).toNat) = 1 ∨ (st 192 ((st 170 42) - 1 : Int).toNat) = 5 ∨ (st 192 ((st 170 42) - 1 : Int).toNat) = 6) at b17
  refine ⟨fun h65 => ?_, fun h65 => ?_⟩
  · refine ⟨fun h66 => ?_, fun h66 => absurd (by decide) h66⟩
    refine ⟨by omega, ?_⟩
    refine ⟨by omega, ?_⟩
    refine ⟨fun h67 => ?_, fun h67 => absurd (by decide) h67⟩
    refine ⟨fun h68 => ?_, fun h68 => absurd (by decide) h68⟩
    refine ⟨rfl, fun r18 q18 => ?_⟩
    have b18 := q18
    change (r18 = 0 ∨ r18 = 1) ∧ (r18 = 1 ↔ st 170 3 = 3 ∧ st 170 6 = (40)) at b18
    refine ⟨fun h69 => ?_, fun h69 => (by exfalso; clear hQ; omega)⟩
    clear h69 b18
    refine ⟨rfl, fun r19 q19 => ?_⟩
    have b19 := q19
    change (r19 = 0 ∨ r19 = 1) ∧ (r19 = 1 ↔ st 170 3 = 1 ∧ st 170 7 = (7170414)) at b19
    refine ⟨fun h70 => (by exfalso; clear hQ; omega), fun h70 => ?_⟩
    clear h70 b19
    refine ⟨rfl, fun r20 q20 => ?_⟩
    have b20 := q20
    change (r20 = 0 ∨ r20 = 1) ∧ (r20 = 1 ↔ st 170 3 = 1 ∧ st 170 7 = (7168376)) at b20
    refine ⟨fun h71 => (by exfalso; clear hQ; omega), fun h71 => ?_⟩
    clear h71 b20
    refine ⟨rfl, fun r21 q21 => ?_⟩
    have b21 := q21
    change (r21 = 0 ∨ r21 = 1) ∧ (r21 = 1 ↔ st 170 3 = 1 ∧ st 170 7 = (26982)) at b21
    refine ⟨fun h72 => ?_, fun h72 => (by exfalso; clear hQ; omega)⟩
    clear h72 b21
    refine ⟨fun h73 => ?_, fun h73 => (by exfalso; omega)⟩
    refine ⟨rfl, fun r22 q22 => ?_⟩
    have b22 := q22
    change (r22 = 0 ∨ r22 = 1) ∧ (r22 = 1 ↔ st 170 3 = 1 ∧ st 170 7 = (1751474548)) at b22
    refine ⟨fun h74 => ?_, fun h74 => (by exfalso; clear hQ; omega)⟩
    clear h74 b22
    refine ⟨rfl, fun r23 q23 => ?_⟩
    have b23 := q23
    change (r23 = 0 ∨ r23 = 1) ∧ (r23 = 1 ↔ st 170 3 = 1 ∧ st 170 7 = (2036687218)) at b23
    refine ⟨fun h75 => ?_, fun h75 => (by exfalso; clear hQ; omega)⟩
    clear h75 b23
    refine ⟨rfl, fun r24 q24 => ?_⟩
    have b24 := q24
    change (r24 = 0 ∨ r24 = 1) ∧ (r24 = 1 ↔ st 170 3 = 1 ∧ st 170 7 = (1953459300)) at b24
    refine ⟨fun h76 => ?_, fun h76 => (by exfalso; clear hQ; omega)⟩
    clear h76 b24
    refine ⟨rfl, fun r25 q25 => ?_⟩
    have b25 := q25
    change (r25 = 0 ∨ r25 = 1) ∧ (r25 = 1 ↔ st 170 3 = 1 ∧ st 170 7 = (1886743660)) at b25
    refine ⟨fun h77 => ?_, fun h77 => (by exfalso; clear hQ; omega)⟩
    clear h77 b25
    refine ⟨rfl, fun r26 q26 => ?_⟩
    have b26 := q26
    change (r26 = 0 ∨ r26 = 1) ∧ (r26 = 1 ↔ st 170 3 = 1 ∧ st 170 7 = (1937007984)) at b26
    refine ⟨fun h78 => ?_, fun h78 => (by exfalso; clear hQ; omega)⟩
    clear h78 b26
    refine ⟨rfl, fun r27 q27 => ?_⟩
    have b27 := q27
    change (r27 = 0 ∨ r27 = 1) ∧ (r27 = 1 ↔ st 170 3 = 1 ∧ st 170 7 = (1650812270)) at b27
    refine ⟨fun h79 => ?_, fun h79 => (by exfalso; clear hQ; omega)⟩
    clear h79 b27
    refine ⟨rfl, fun r28 q28 => ?_⟩
    have b28 := q28
    change (r28 = 0 ∨ r28 = 1) ∧ (r28 = 1 ↔ st 170 3 = 1 ∧ st 170 7 = (495874044019)) at b28
    refine ⟨fun h80 => ?_, fun h80 => (by exfalso; clear hQ; omega)⟩
    clear h80 b28
    refine ⟨rfl, fun r29 q29 => ?_⟩
    have b29 := q29
    change (r29 = 0 ∨ r29 = 1) ∧ (r29 = 1 ↔ st 170 3 = 1 ∧ st 170 7 = (1953066341)) at b29
    refine ⟨fun h81 => ?_, fun h81 => (by exfalso; clear hQ; omega)⟩
    clear h81 b29
    refine ⟨rfl, fun r30 q30 => ?_⟩
    have b30 := q30
    change (r30 = 0 ∨ r30 = 1) ∧ (r30 = 1 ↔ st 170 3 = 1 ∧ st 170 7 = (465726042227)) at b30
    refine ⟨fun h82 => (by exfalso; clear hQ; omega), fun h82 => ?_⟩
    clear h82 b30
    refine ⟨fun h83 => absurd h83 (by decide), fun h83 => ?_⟩
    refine ⟨fun h84 => absurd h84 (by decide), fun h84 => ?_⟩
    refine ⟨fun h85 => (by exfalso; omega), fun h85 => ?_⟩
    refine ⟨fun h86 => absurd h86 (by decide), fun h86 => ?_⟩
    refine ⟨rfl, ⟨(gInv_up hG (p_begins (by omega))), (show 1 ≤ (1) ∧ (1) ≤ 6 from by omega), (show -2147483648 ≤ (st 170 4) ∧ (st 170 4) ≤ 2147483647 from by omega)⟩, fun s31 q31 => ?_⟩
    obtain ⟨gs31, fs31, p31⟩ := q31
    change (st 170 8 = 0 → s31 170 8 = (1)) ∧ (0 < st 170 8 → s31 170 8 = st 170 8) at p31
    have g87 := g_faultKind gs31
    refine ⟨fun h88 => (by exfalso; omega), fun h88 => ?_⟩
    refine ⟨by omega, ?_⟩
    exact hQ _ _ ⟨gs31, (fr_tr (fr_a (fr_rf _ _) rfl) fs31 rfl), (Z9_tr (Z9_up (Z9_rf _) (by decide)) ((show aFr m_rOpF99 st (zup st 194 ((st 170 42) - 1 : Int).toNat 0) from (fr_a (fr_rf _ _) rfl)) 170 35 rfl rfl) (Z9_fr fs31 (fun _ => rfl) rfl)), (show 0 < s31 170 8 ∧ ((1 : Int) = 0 ∨ (1 : Int) = 1) from by omega)⟩
  · have g89 := g_begins hG ((st 170 42) - 1 : Int).toNat
    refine ⟨by omega, ?_⟩
    refine ⟨fun h90 => ?_, fun h90 => ?_⟩
    · refine ⟨fun h91 => ?_, fun h91 => absurd (by decide) h91⟩
      refine ⟨by omega, ?_⟩
      refine ⟨by omega, ?_⟩
      refine ⟨fun h92 => ?_, fun h92 => absurd (by decide) h92⟩
      refine ⟨fun h93 => ?_, fun h93 => absurd (by decide) h93⟩
      refine ⟨rfl, fun r32 q32 => ?_⟩
      have b32 := q32
      change (r32 = 0 ∨ r32 = 1) ∧ (r32 = 1 ↔ st 170 3 = 3 ∧ st 170 6 = (40)) at b32
      refine ⟨fun h94 => ?_, fun h94 => (by exfalso; clear hQ; omega)⟩
      clear h94 b32
      refine ⟨rfl, fun r33 q33 => ?_⟩
      have b33 := q33
      change (r33 = 0 ∨ r33 = 1) ∧ (r33 = 1 ↔ st 170 3 = 1 ∧ st 170 7 = (7170414)) at b33
      refine ⟨fun h95 => (by exfalso; clear hQ; omega), fun h95 => ?_⟩
      clear h95 b33
      refine ⟨rfl, fun r34 q34 => ?_⟩
      have b34 := q34
      change (r34 = 0 ∨ r34 = 1) ∧ (r34 = 1 ↔ st 170 3 = 1 ∧ st 170 7 = (7168376)) at b34
      refine ⟨fun h96 => (by exfalso; clear hQ; omega), fun h96 => ?_⟩
      clear h96 b34
      refine ⟨rfl, fun r35 q35 => ?_⟩
      have b35 := q35
      change (r35 = 0 ∨ r35 = 1) ∧ (r35 = 1 ↔ st 170 3 = 1 ∧ st 170 7 = (26982)) at b35
      refine ⟨fun h97 => ?_, fun h97 => (by exfalso; clear hQ; omega)⟩
      clear h97 b35
      refine ⟨fun h98 => ?_, fun h98 => (by exfalso; omega)⟩
      refine ⟨rfl, fun r36 q36 => ?_⟩
      have b36 := q36
      change (r36 = 0 ∨ r36 = 1) ∧ (r36 = 1 ↔ st 170 3 = 1 ∧ st 170 7 = (1751474548)) at b36
      refine ⟨fun h99 => ?_, fun h99 => (by exfalso; clear hQ; omega)⟩
      clear h99 b36
      refine ⟨rfl, fun r37 q37 => ?_⟩
      have b37 := q37
      change (r37 = 0 ∨ r37 = 1) ∧ (r37 = 1 ↔ st 170 3 = 1 ∧ st 170 7 = (2036687218)) at b37
      refine ⟨fun h100 => ?_, fun h100 => (by exfalso; clear hQ; omega)⟩
      clear h100 b37
      refine ⟨rfl, fun r38 q38 => ?_⟩
      have b38 := q38
      change (r38 = 0 ∨ r38 = 1) ∧ (r38 = 1 ↔ st 170 3 = 1 ∧ st 170 7 = (1953459300)) at b38
      refine ⟨fun h101 => ?_, fun h101 => (by exfalso; clear hQ; omega)⟩
      clear h101 b38
      refine ⟨rfl, fun r39 q39 => ?_⟩
      have b39 := q39
      change (r39 = 0 ∨ r39 = 1) ∧ (r39 = 1 ↔ st 170 3 = 1 ∧ st 170 7 = (1886743660)) at b39
      refine ⟨fun h102 => ?_, fun h102 => (by exfalso; clear hQ; omega)⟩
      clear h102 b39
      refine ⟨rfl, fun r40 q40 => ?_⟩
      have b40 := q40
      change (r40 = 0 ∨ r40 = 1) ∧ (r40 = 1 ↔ st 170 3 = 1 ∧ st 170 7 = (1937007984)) at b40
      refine ⟨fun h103 => ?_, fun h103 => (by exfalso; clear hQ; omega)⟩
      clear h103 b40
      refine ⟨rfl, fun r41 q41 => ?_⟩
      have b41 := q41
      change (r41 = 0 ∨ r41 = 1) ∧ (r41 = 1 ↔ st 170 3 = 1 ∧ st 170 7 = (1650812270)) at b41
      refine ⟨fun h104 => ?_, fun h104 => (by exfalso; clear hQ; omega)⟩
      clear h104 b41
      refine ⟨rfl, fun r42 q42 => ?_⟩
      have b42 := q42
      change (r42 = 0 ∨ r42 = 1) ∧ (r42 = 1 ↔ st 170 3 = 1 ∧ st 170 7 = (495874044019)) at b42
      refine ⟨fun h105 => ?_, fun h105 => (by exfalso; clear hQ; omega)⟩
      clear h105 b42
      refine ⟨rfl, fun r43 q43 => ?_⟩
      have b43 := q43
      change (r43 = 0 ∨ r43 = 1) ∧ (r43 = 1 ↔ st 170 3 = 1 ∧ st 170 7 = (1953066341)) at b43
      refine ⟨fun h106 => ?_, fun h106 => (by exfalso; clear hQ; omega)⟩
      clear h106 b43
      refine ⟨rfl, fun r44 q44 => ?_⟩
      have b44 := q44
      change (r44 = 0 ∨ r44 = 1) ∧ (r44 = 1 ↔ st 170 3 = 1 ∧ st 170 7 = (465726042227)) at b44
      refine ⟨fun h107 => (by exfalso; clear hQ; omega), fun h107 => ?_⟩
      clear h107 b44
      refine ⟨fun h108 => absurd h108 (by decide), fun h108 => ?_⟩
      refine ⟨fun h109 => absurd h109 (by decide), fun h109 => ?_⟩
      refine ⟨fun h110 => (by exfalso; omega), fun h110 => ?_⟩
      refine ⟨fun h111 => absurd h111 (by decide), fun h111 => ?_⟩
      refine ⟨rfl, ⟨(gInv_up hG (p_begins (by omega))), (show 1 ≤ (1) ∧ (1) ≤ 6 from by omega), (show -2147483648 ≤ (st 170 4) ∧ (st 170 4) ≤ 2147483647 from by omega)⟩, fun s45 q45 => ?_⟩
      obtain ⟨gs45, fs45, p45⟩ := q45
      change (st 170 8 = 0 → s45 170 8 = (1)) ∧ (0 < st 170 8 → s45 170 8 = st 170 8) at p45
      have g112 := g_faultKind gs45
      refine ⟨fun h113 => (by exfalso; omega), fun h113 => ?_⟩
      refine ⟨by omega, ?_⟩
      exact hQ _ _ ⟨gs45, (fr_tr (fr_a (fr_rf _ _) rfl) fs45 rfl), (Z9_tr (Z9_up (Z9_rf _) (by decide)) ((show aFr m_rOpF99 st (zup st 194 ((st 170 42) - 1 : Int).toNat 0) from (fr_a (fr_rf _ _) rfl)) 170 35 rfl rfl) (Z9_fr fs45 (fun _ => rfl) rfl)), (show 0 < s45 170 8 ∧ ((1 : Int) = 0 ∨ (1 : Int) = 1) from by omega)⟩
    · refine ⟨fun h114 => absurd h114 (by decide), fun h114 => ?_⟩
      refine ⟨rfl, fun r46 q46 => ?_⟩
      have b46 := q46
      change (r46 = 0 ∨ r46 = 1) ∧ (r46 = 1 ↔ st 170 3 = 1 ∧ st 170 7 = (7237492)) at b46
      refine ⟨fun h115 => ?_, fun h115 => (by exfalso; clear hQ; omega)⟩
      clear h115 b46
      refine ⟨by omega, ?_⟩
      refine ⟨by omega, ?_⟩
      refine ⟨fun h116 => absurd h116 (by decide), fun h116 => ?_⟩
      refine ⟨rfl, fun r47 q47 => ?_⟩
      have b47 := q47
      change (r47 = 0 ∨ r47 = 1) ∧ (r47 = 1 ↔ st 170 3 = 3 ∧ st 170 6 = (91)) at b47
      refine ⟨fun h117 => ?_, fun h117 => (by exfalso; clear hQ; omega)⟩
      clear h117 b47
      refine ⟨fun h118 => absurd h118 (by decide), fun h118 => ?_⟩
      refine ⟨rfl, fun r48 q48 => ?_⟩
      have b48 := q48
      change (r48 = 0 ∨ r48 = 1) ∧ (r48 = 1 ↔ st 170 3 = 1 ∧ st 170 7 = (6384748)) at b48
      refine ⟨fun h119 => ?_, fun h119 => (by exfalso; clear hQ; omega)⟩
      clear h119 b48
      refine ⟨rfl, fun r49 q49 => ?_⟩
      have b49 := q49
      change (r49 = 0 ∨ r49 = 1) ∧ (r49 = 1 ↔ st 170 3 = 3 ∧ st 170 6 = (40)) at b49
      refine ⟨fun h120 => ?_, fun h120 => (by exfalso; clear hQ; omega)⟩
      clear h120 b49
      refine ⟨rfl, fun r50 q50 => ?_⟩
      have b50 := q50
      change (r50 = 0 ∨ r50 = 1) ∧ (r50 = 1 ↔ st 170 3 = 1 ∧ st 170 7 = (7170414)) at b50
      refine ⟨fun h121 => (by exfalso; clear hQ; omega), fun h121 => ?_⟩
      clear h121 b50
      refine ⟨rfl, fun r51 q51 => ?_⟩
      have b51 := q51
      change (r51 = 0 ∨ r51 = 1) ∧ (r51 = 1 ↔ st 170 3 = 1 ∧ st 170 7 = (7168376)) at b51
      refine ⟨fun h122 => (by exfalso; clear hQ; omega), fun h122 => ?_⟩
      clear h122 b51
      refine ⟨rfl, fun r52 q52 => ?_⟩
      have b52 := q52
      change (r52 = 0 ∨ r52 = 1) ∧ (r52 = 1 ↔ st 170 3 = 1 ∧ st 170 7 = (26982)) at b52
      refine ⟨fun h123 => ?_, fun h123 => (by exfalso; clear hQ; omega)⟩
      clear h123 b52
      refine ⟨fun h124 => ?_, fun h124 => (by exfalso; omega)⟩
      refine ⟨rfl, fun r53 q53 => ?_⟩
      have b53 := q53
      change (r53 = 0 ∨ r53 = 1) ∧ (r53 = 1 ↔ st 170 3 = 1 ∧ st 170 7 = (1751474548)) at b53
      refine ⟨fun h125 => ?_, fun h125 => (by exfalso; clear hQ; omega)⟩
      clear h125 b53
      refine ⟨rfl, fun r54 q54 => ?_⟩
      have b54 := q54
      change (r54 = 0 ∨ r54 = 1) ∧ (r54 = 1 ↔ st 170 3 = 1 ∧ st 170 7 = (2036687218)) at b54
      refine ⟨fun h126 => ?_, fun h126 => (by exfalso; clear hQ; omega)⟩
      clear h126 b54
      refine ⟨rfl, fun r55 q55 => ?_⟩
      have b55 := q55
      change (r55 = 0 ∨ r55 = 1) ∧ (r55 = 1 ↔ st 170 3 = 1 ∧ st 170 7 = (1953459300)) at b55
      refine ⟨fun h127 => ?_, fun h127 => (by exfalso; clear hQ; omega)⟩
      clear h127 b55
      refine ⟨rfl, fun r56 q56 => ?_⟩
      have b56 := q56
      change (r56 = 0 ∨ r56 = 1) ∧ (r56 = 1 ↔ st 170 3 = 1 ∧ st 170 7 = (1886743660)) at b56
      refine ⟨fun h128 => ?_, fun h128 => (by exfalso; clear hQ; omega)⟩
      clear h128 b56
      refine ⟨rfl, fun r57 q57 => ?_⟩
      have b57 := q57
      change (r57 = 0 ∨ r57 = 1) ∧ (r57 = 1 ↔ st 170 3 = 1 ∧ st 170 7 = (1937007984)) at b57
      refine ⟨fun h129 => ?_, fun h129 => (by exfalso; clear hQ; omega)⟩
      clear h129 b57
      refine ⟨rfl, fun r58 q58 => ?_⟩
      have b58 := q58
      change (r58 = 0 ∨ r58 = 1) ∧ (r58 = 1 ↔ st 170 3 = 1 ∧ st 170 7 = (1650812270)) at b58
      refine ⟨fun h130 => ?_, fun h130 => (by exfalso; clear hQ; omega)⟩
      clear h130 b58
      refine ⟨rfl, fun r59 q59 => ?_⟩
      have b59 := q59
      change (r59 = 0 ∨ r59 = 1) ∧ (r59 = 1 ↔ st 170 3 = 1 ∧ st 170 7 = (495874044019)) at b59
      refine ⟨fun h131 => ?_, fun h131 => (by exfalso; clear hQ; omega)⟩
      clear h131 b59
      refine ⟨rfl, fun r60 q60 => ?_⟩
      have b60 := q60
      change (r60 = 0 ∨ r60 = 1) ∧ (r60 = 1 ↔ st 170 3 = 1 ∧ st 170 7 = (1953066341)) at b60
      refine ⟨fun h132 => ?_, fun h132 => (by exfalso; clear hQ; omega)⟩
      clear h132 b60
      refine ⟨rfl, fun r61 q61 => ?_⟩
      have b61 := q61
      change (r61 = 0 ∨ r61 = 1) ∧ (r61 = 1 ↔ st 170 3 = 1 ∧ st 170 7 = (465726042227)) at b61
      refine ⟨fun h133 => (by exfalso; clear hQ; omega), fun h133 => ?_⟩
      clear h133 b61
      refine ⟨fun h134 => absurd h134 (by decide), fun h134 => ?_⟩
      refine ⟨fun h135 => absurd h135 (by decide), fun h135 => ?_⟩
      refine ⟨fun h136 => (by exfalso; omega), fun h136 => ?_⟩
      refine ⟨fun h137 => absurd h137 (by decide), fun h137 => ?_⟩
      refine ⟨rfl, ⟨(gInv_up hG (p_begins (by omega))), (show 1 ≤ (1) ∧ (1) ≤ 6 from by omega), (show -2147483648 ≤ (st 170 4) ∧ (st 170 4) ≤ 2147483647 from by omega)⟩, fun s62 q62 => ?_⟩
      obtain ⟨gs62, fs62, p62⟩ := q62
      change (st 170 8 = 0 → s62 170 8 = (1)) ∧ (0 < st 170 8 → s62 170 8 = st 170 8) at p62
      have g138 := g_faultKind gs62
      refine ⟨fun h139 => (by exfalso; omega), fun h139 => ?_⟩
      refine ⟨by omega, ?_⟩
      exact hQ _ _ ⟨gs62, (fr_tr (fr_a (fr_rf _ _) rfl) fs62 rfl), (Z9_tr (Z9_up (Z9_rf _) (by decide)) ((show aFr m_rOpF99 st (zup st 194 ((st 170 42) - 1 : Int).toNat 0) from (fr_a (fr_rf _ _) rfl)) 170 35 rfl rfl) (Z9_fr fs62 (fun _ => rfl) rfl)), (show 0 < s62 170 8 ∧ ((1 : Int) = 0 ∨ (1 : Int) = 1) from by omega)⟩
theorem k_rOpF99_m (hTb : aTb zSh rx_tb cl) {t : Int → Int} {n k ph bg pr o p e : Int} {w c : List Int} {fs : List mFr} {D : Nat} (hD : 3 ≤ D) : ∀ as st (Q Q' : zQ), (∀ r st', Q r st' → Q' r st') → (k_rOpF99 t n k ph bg pr o p e w c fs) 196 as st Q → cl D 196 as st Q' := by
  intro as st Q Q' hQ h
  unfold k_rOpF99 at h
  split at h
  · obtain ⟨rfl, h⟩ := h
    exact c_rOpF99 hTb hD (ct_rOpF99_m hQ h)
  · exact h.elim
set_option maxHeartbeats 4000000 in
set_option maxRecDepth 100000 in
theorem c_rOpF0 (hTb : aTb zSh rx_tb cl) {t : Int → Int} {n k ph bg pr o p e : Int} {w c : List Int} {fs : List mFr} {v : Int} {D : Nat} (hD : 3 ≤ D) {st : zS} {Q : zQ} (h : ct_rOpF0 t n k ph bg pr o p e w c fs v st Q) : cl D 196 [.inr (.inr (.inl 170))] st Q := by
  obtain ⟨d, rfl⟩ : ∃ d, D = d + 1 := ⟨D - 1, by omega⟩
  refine hTb d 196 (rx_m196, 4, 0, 0, 2) rfl _ _ _ (Nat.le_of_ble_eq_true rfl) (fun K hcl hsf hsl => ?_)
  have hcm : zmo (wcL [(181, k_rLexA)]) (cl d) := (wcL_m (wm_cons (k_rLexA_m hTb (by omega)) wm_nil))
  obtain ⟨hR, hQ⟩ := h
  obtain ⟨hG, mp, ht⟩ := hR
  change mcP t n st ((k, ph, bg, pr, w) :: fs) 0 (o) (c) (p) at mp
  change tk t n p 5 v e at ht
  obtain ⟨mf, mo, mn, mpp, mrd, mq, mbd, mz1, mz2, mz3⟩ := mp
  rw [List.length_cons] at mz3
  have mq0 := mq
  obtain ⟨mfr, mwb, mcd⟩ := mq
  have mt := FR_top mfr
  have mb := FR_bnd _ _ _ mwb mfr
  rw [List.length_cons] at mb
  have ml := WB_hd mwb
  have mcl := mcd.1
  have mlw := FR_len mb.2.1 mfr
  have tf := RDr_rv mrd (by rw [mpp]; exact ht)
  unfold RV at tf
  have g1 := g_codes hG
  have g2 := g_in hG
  have g3 := g_isClever hG
  have g4 := g_deep hG
  have g5 := g_open hG
  have g6 := g_opMany hG
  have g7 := g_signAt hG
  have g8 := g_signEnd hG
  have g9 := g_faultKind hG
  have g10 := g_size hG
  have g11 := g_sign hG
  have g12 := g_lexAt hG
  have g13 := g_value hG
  have g14 := g_word hG
  have g15 := g_operand hG
  refine yr1_ok (Rt := Q) (wc := (wcL [(181, k_rLexA)])) (stp := []) hcm hcl [] 400 ?_
  show (170 = 170 ∧ (rq_rLexA  st ∧ (∀ (s16 : zS), en_rLexA  st s16 → ((s16 170 8 ≤ (0 : Int) → _) ∧ (¬ (s16 170 8 ≤ (0 : Int)) → ((1 = (0 : Int) ∨ 1 = (1 : Int)) ∧ Q (some (.inl 1)) s16))))))
  refine ⟨rfl, hG, fun s16 q16 => ?_⟩
  obtain ⟨gs16, fs16, x16⟩ := q16
  change (st 170 12 = -1 → s16 170 8 = st 170 8) ∧ (¬ st 170 12 = -1 → 0 < s16 170 8) ∧ (0 < st 170 8 → 0 < s16 170 8) at x16
  have g17 := g_faultKind gs16
  have e18 : s16 170 3 = st 170 3 := fs16 170 3 rfl rfl
  have e19 : s16 170 6 = st 170 6 := fs16 170 6 rfl rfl
  have e20 : s16 170 7 = st 170 7 := fs16 170 7 rfl rfl
  have e21 : s16 170 12 = st 170 12 := fs16 170 12 rfl rfl
  have e22 : s16 170 4 = st 170 4 := fs16 170 4 rfl rfl
  have e23 : s16 170 43 = st 170 43 := fs16 170 43 rfl rfl
  have e24 : s16 170 42 = st 170 42 := fs16 170 42 rfl rfl
  have e25 : s16 170 45 = st 170 45 := fs16 170 45 rfl rfl
  have e26 : s16 170 5 = st 170 5 := fs16 170 5 rfl rfl
  refine ⟨fun h27 => (by exfalso; omega), fun h27 => ?_⟩
  refine ⟨by omega, ?_⟩
  exact hQ _ _ ⟨gs16, (fr_tr (fr_rf _ _) fs16 rfl), (Z9_fr fs16 (fun _ => rfl) rfl), (show 0 < s16 170 8 ∧ ((1 : Int) = 0 ∨ (1 : Int) = 1) from by omega)⟩
theorem k_rOpF0_m (hTb : aTb zSh rx_tb cl) {t : Int → Int} {n k ph bg pr o p e : Int} {w c : List Int} {fs : List mFr} {v : Int} {D : Nat} (hD : 3 ≤ D) : ∀ as st (Q Q' : zQ), (∀ r st', Q r st' → Q' r st') → (k_rOpF0 t n k ph bg pr o p e w c fs v) 196 as st Q → cl D 196 as st Q' := by
  intro as st Q Q' hQ h
  unfold k_rOpF0 at h
  split at h
  · obtain ⟨rfl, h⟩ := h
    exact c_rOpF0 hTb hD (ct_rOpF0_m hQ h)
  · exact h.elim
end Rz3
