/-! printed by wip/pw/r/q2.py: the reference's operand, by rules -/
def m_rOp1 : aM := ([(170, 3), (170, 4), (170, 5), (170, 6), (170, 7), (170, 8), (170, 9), (170, 12), (170, 34), (170, 42), (170, 43), (170, 45)], [188, 189, 192, 193, 194, 195, 196, 197])
def rq_rOp1 (t : Int → Int) (n k ph bg pr o p e : Int) (w c : List Int) (fs : List mFr) (st : zS) : Prop := gInv zgt st ∧ (mcP t n st ((k, ph, bg, pr, w) :: fs) 0 (o) (c) (p)) ∧ (isT k ∧ bg = 1 ∧ tk t n p 1 7237492 e ∧ o < 7 ∧ w.length ≤ 14)
def en_rOp1 (t : Int → Int) (n k ph bg pr o p e : Int) (w c : List Int) (fs : List mFr) (st : zS) (r : Int) (s1 : zS) : Prop := gInv zgt s1 ∧ aFr m_rOp1 st s1 ∧ Z9 st s1 ∧ (r = 0 ∧ mcP t n s1 ((k, ph, bg, pr, 43 :: w) :: fs) 0 (o + 1) (c) (e))
def ct_rOp1 (t : Int → Int) (n k ph bg pr o p e : Int) (w c : List Int) (fs : List mFr) (st : zS) (Q : zQ) : Prop := rq_rOp1 t n k ph bg pr o p e w c fs st ∧ (∀ (r : Int) (s1 : zS), en_rOp1 t n k ph bg pr o p e w c fs st r s1 → Q (some (.inl r)) s1)
theorem ct_rOp1_m {t : Int → Int} {n k ph bg pr o p e : Int} {w c : List Int} {fs : List mFr} {st : zS} {Q Q' : zQ} (hQ : ∀ r st', Q r st' → Q' r st') (h : ct_rOp1 t n k ph bg pr o p e w c fs st Q) : ct_rOp1 t n k ph bg pr o p e w c fs st Q' := ⟨h.1, fun x0 x1 x2 => hQ _ _ (h.2 x0 x1 x2)⟩
def k_rOp1 (t : Int → Int) (n k ph bg pr o p e : Int) (w c : List Int) (fs : List mFr) : zCall := fun _ as st Q => match as with
  | [.inr (.inr (.inl z_o))] => z_o = 170 ∧ ct_rOp1 t n k ph bg pr o p e w c fs st Q
  | _ => False
def m_rOp3 : aM := ([(170, 3), (170, 4), (170, 5), (170, 6), (170, 7), (170, 8), (170, 9), (170, 12), (170, 34), (170, 42), (170, 43), (170, 45)], [188, 189, 192, 193, 194, 195, 196, 197])
def rq_rOp3 (t : Int → Int) (n k ph bg pr o p e : Int) (w c : List Int) (fs : List mFr) (st : zS) : Prop := gInv zgt st ∧ (mcP t n st ((k, ph, bg, pr, w) :: fs) 0 (o) (c) (p)) ∧ (isT k ∧ bg = 1 ∧ tk t n p 1 6384748 e)
def en_rOp3 (t : Int → Int) (n k ph bg pr o p e : Int) (w c : List Int) (fs : List mFr) (st : zS) (r : Int) (s1 : zS) : Prop := gInv zgt s1 ∧ aFr m_rOp3 st s1 ∧ Z9 st s1 ∧ (r = 1 ∧ mcP t n s1 ((k, 2, 0, pr, w) :: fs) 0 (o) (c ++ [30]) (e))
def ct_rOp3 (t : Int → Int) (n k ph bg pr o p e : Int) (w c : List Int) (fs : List mFr) (st : zS) (Q : zQ) : Prop := rq_rOp3 t n k ph bg pr o p e w c fs st ∧ (∀ (r : Int) (s1 : zS), en_rOp3 t n k ph bg pr o p e w c fs st r s1 → Q (some (.inl r)) s1)
theorem ct_rOp3_m {t : Int → Int} {n k ph bg pr o p e : Int} {w c : List Int} {fs : List mFr} {st : zS} {Q Q' : zQ} (hQ : ∀ r st', Q r st' → Q' r st') (h : ct_rOp3 t n k ph bg pr o p e w c fs st Q) : ct_rOp3 t n k ph bg pr o p e w c fs st Q' := ⟨h.1, fun x0 x1 x2 => hQ _ _ (h.2 x0 x1 x2)⟩
def k_rOp3 (t : Int → Int) (n k ph bg pr o p e : Int) (w c : List Int) (fs : List mFr) : zCall := fun _ as st Q => match as with
  | [.inr (.inr (.inl z_o))] => z_o = 170 ∧ ct_rOp3 t n k ph bg pr o p e w c fs st Q
  | _ => False
def m_rOp6 : aM := ([(170, 3), (170, 4), (170, 5), (170, 6), (170, 7), (170, 8), (170, 9), (170, 12), (170, 34), (170, 42), (170, 43), (170, 45)], [188, 189, 192, 193, 194, 195, 196, 197])
def rq_rOp6 (t : Int → Int) (n k ph bg pr o p e : Int) (w c : List Int) (fs : List mFr) (v : Int) (st : zS) : Prop := gInv zgt st ∧ (mcP t n st ((k, ph, bg, pr, w) :: fs) 0 (o) (c) (p)) ∧ (tk t n p 2 v e)
def en_rOp6 (t : Int → Int) (n k ph bg pr o p e : Int) (w c : List Int) (fs : List mFr) (v : Int) (st : zS) (r : Int) (s1 : zS) : Prop := gInv zgt s1 ∧ aFr m_rOp6 st s1 ∧ Z9 st s1 ∧ (r = 1 ∧ mcP t n s1 ((k, ph, 0, pr, w) :: fs) 0 (o) (c ++ [64 * v]) (e))
def ct_rOp6 (t : Int → Int) (n k ph bg pr o p e : Int) (w c : List Int) (fs : List mFr) (v : Int) (st : zS) (Q : zQ) : Prop := rq_rOp6 t n k ph bg pr o p e w c fs v st ∧ (∀ (r : Int) (s1 : zS), en_rOp6 t n k ph bg pr o p e w c fs v st r s1 → Q (some (.inl r)) s1)
theorem ct_rOp6_m {t : Int → Int} {n k ph bg pr o p e : Int} {w c : List Int} {fs : List mFr} {v : Int} {st : zS} {Q Q' : zQ} (hQ : ∀ r st', Q r st' → Q' r st') (h : ct_rOp6 t n k ph bg pr o p e w c fs v st Q) : ct_rOp6 t n k ph bg pr o p e w c fs v st Q' := ⟨h.1, fun x0 x1 x2 => hQ _ _ (h.2 x0 x1 x2)⟩
def k_rOp6 (t : Int → Int) (n k ph bg pr o p e : Int) (w c : List Int) (fs : List mFr) (v : Int) : zCall := fun _ as st Q => match as with
  | [.inr (.inr (.inl z_o))] => z_o = 170 ∧ ct_rOp6 t n k ph bg pr o p e w c fs v st Q
  | _ => False
def m_rOp71 : aM := ([(170, 3), (170, 4), (170, 5), (170, 6), (170, 7), (170, 8), (170, 9), (170, 12), (170, 34), (170, 42), (170, 43), (170, 45)], [188, 189, 192, 193, 194, 195, 196, 197])
def rq_rOp71 (t : Int → Int) (n k ph bg pr o p e : Int) (w c : List Int) (fs : List mFr) (st : zS) : Prop := gInv zgt st ∧ (mcP t n st ((k, ph, bg, pr, w) :: fs) 0 (o) (c) (p)) ∧ (tk t n p 1 1751474548 e ∧ True)
def en_rOp71 (t : Int → Int) (n k ph bg pr o p e : Int) (w c : List Int) (fs : List mFr) (st : zS) (r : Int) (s1 : zS) : Prop := gInv zgt s1 ∧ aFr m_rOp71 st s1 ∧ Z9 st s1 ∧ (r = 1 ∧ mcP t n s1 ((k, ph, 0, pr, w) :: fs) 0 (o) (c ++ [1]) (e))
def ct_rOp71 (t : Int → Int) (n k ph bg pr o p e : Int) (w c : List Int) (fs : List mFr) (st : zS) (Q : zQ) : Prop := rq_rOp71 t n k ph bg pr o p e w c fs st ∧ (∀ (r : Int) (s1 : zS), en_rOp71 t n k ph bg pr o p e w c fs st r s1 → Q (some (.inl r)) s1)
theorem ct_rOp71_m {t : Int → Int} {n k ph bg pr o p e : Int} {w c : List Int} {fs : List mFr} {st : zS} {Q Q' : zQ} (hQ : ∀ r st', Q r st' → Q' r st') (h : ct_rOp71 t n k ph bg pr o p e w c fs st Q) : ct_rOp71 t n k ph bg pr o p e w c fs st Q' := ⟨h.1, fun x0 x1 x2 => hQ _ _ (h.2 x0 x1 x2)⟩
def k_rOp71 (t : Int → Int) (n k ph bg pr o p e : Int) (w c : List Int) (fs : List mFr) : zCall := fun _ as st Q => match as with
  | [.inr (.inr (.inl z_o))] => z_o = 170 ∧ ct_rOp71 t n k ph bg pr o p e w c fs st Q
  | _ => False
def m_rOp72 : aM := ([(170, 3), (170, 4), (170, 5), (170, 6), (170, 7), (170, 8), (170, 9), (170, 12), (170, 34), (170, 42), (170, 43), (170, 45)], [188, 189, 192, 193, 194, 195, 196, 197])
def rq_rOp72 (t : Int → Int) (n k ph bg pr o p e : Int) (w c : List Int) (fs : List mFr) (st : zS) : Prop := gInv zgt st ∧ (mcP t n st ((k, ph, bg, pr, w) :: fs) 0 (o) (c) (p)) ∧ (tk t n p 1 2036687218 e ∧ True)
def en_rOp72 (t : Int → Int) (n k ph bg pr o p e : Int) (w c : List Int) (fs : List mFr) (st : zS) (r : Int) (s1 : zS) : Prop := gInv zgt s1 ∧ aFr m_rOp72 st s1 ∧ Z9 st s1 ∧ (r = 1 ∧ mcP t n s1 ((k, ph, 0, pr, w) :: fs) 0 (o) (c ++ [2]) (e))
def ct_rOp72 (t : Int → Int) (n k ph bg pr o p e : Int) (w c : List Int) (fs : List mFr) (st : zS) (Q : zQ) : Prop := rq_rOp72 t n k ph bg pr o p e w c fs st ∧ (∀ (r : Int) (s1 : zS), en_rOp72 t n k ph bg pr o p e w c fs st r s1 → Q (some (.inl r)) s1)
theorem ct_rOp72_m {t : Int → Int} {n k ph bg pr o p e : Int} {w c : List Int} {fs : List mFr} {st : zS} {Q Q' : zQ} (hQ : ∀ r st', Q r st' → Q' r st') (h : ct_rOp72 t n k ph bg pr o p e w c fs st Q) : ct_rOp72 t n k ph bg pr o p e w c fs st Q' := ⟨h.1, fun x0 x1 x2 => hQ _ _ (h.2 x0 x1 x2)⟩
def k_rOp72 (t : Int → Int) (n k ph bg pr o p e : Int) (w c : List Int) (fs : List mFr) : zCall := fun _ as st Q => match as with
  | [.inr (.inr (.inl z_o))] => z_o = 170 ∧ ct_rOp72 t n k ph bg pr o p e w c fs st Q
  | _ => False
def m_rOp73 : aM := ([(170, 3), (170, 4), (170, 5), (170, 6), (170, 7), (170, 8), (170, 9), (170, 12), (170, 34), (170, 42), (170, 43), (170, 45)], [188, 189, 192, 193, 194, 195, 196, 197])
def rq_rOp73 (t : Int → Int) (n k ph bg pr o p e : Int) (w c : List Int) (fs : List mFr) (st : zS) : Prop := gInv zgt st ∧ (mcP t n st ((k, ph, bg, pr, w) :: fs) 0 (o) (c) (p)) ∧ (tk t n p 1 1953459300 e ∧ st 170 36 = 0)
def en_rOp73 (t : Int → Int) (n k ph bg pr o p e : Int) (w c : List Int) (fs : List mFr) (st : zS) (r : Int) (s1 : zS) : Prop := gInv zgt s1 ∧ aFr m_rOp73 st s1 ∧ Z9 st s1 ∧ (r = 1 ∧ mcP t n s1 ((k, ph, 0, pr, w) :: fs) 0 (o) (c ++ [3]) (e))
def ct_rOp73 (t : Int → Int) (n k ph bg pr o p e : Int) (w c : List Int) (fs : List mFr) (st : zS) (Q : zQ) : Prop := rq_rOp73 t n k ph bg pr o p e w c fs st ∧ (∀ (r : Int) (s1 : zS), en_rOp73 t n k ph bg pr o p e w c fs st r s1 → Q (some (.inl r)) s1)
theorem ct_rOp73_m {t : Int → Int} {n k ph bg pr o p e : Int} {w c : List Int} {fs : List mFr} {st : zS} {Q Q' : zQ} (hQ : ∀ r st', Q r st' → Q' r st') (h : ct_rOp73 t n k ph bg pr o p e w c fs st Q) : ct_rOp73 t n k ph bg pr o p e w c fs st Q' := ⟨h.1, fun x0 x1 x2 => hQ _ _ (h.2 x0 x1 x2)⟩
def k_rOp73 (t : Int → Int) (n k ph bg pr o p e : Int) (w c : List Int) (fs : List mFr) : zCall := fun _ as st Q => match as with
  | [.inr (.inr (.inl z_o))] => z_o = 170 ∧ ct_rOp73 t n k ph bg pr o p e w c fs st Q
  | _ => False
def m_rOp74 : aM := ([(170, 3), (170, 4), (170, 5), (170, 6), (170, 7), (170, 8), (170, 9), (170, 12), (170, 34), (170, 42), (170, 43), (170, 45)], [188, 189, 192, 193, 194, 195, 196, 197])
def rq_rOp74 (t : Int → Int) (n k ph bg pr o p e : Int) (w c : List Int) (fs : List mFr) (st : zS) : Prop := gInv zgt st ∧ (mcP t n st ((k, ph, bg, pr, w) :: fs) 0 (o) (c) (p)) ∧ (tk t n p 1 1886743660 e ∧ st 170 36 = 0)
def en_rOp74 (t : Int → Int) (n k ph bg pr o p e : Int) (w c : List Int) (fs : List mFr) (st : zS) (r : Int) (s1 : zS) : Prop := gInv zgt s1 ∧ aFr m_rOp74 st s1 ∧ Z9 st s1 ∧ (r = 1 ∧ mcP t n s1 ((k, ph, 0, pr, w) :: fs) 0 (o) (c ++ [4]) (e))
def ct_rOp74 (t : Int → Int) (n k ph bg pr o p e : Int) (w c : List Int) (fs : List mFr) (st : zS) (Q : zQ) : Prop := rq_rOp74 t n k ph bg pr o p e w c fs st ∧ (∀ (r : Int) (s1 : zS), en_rOp74 t n k ph bg pr o p e w c fs st r s1 → Q (some (.inl r)) s1)
theorem ct_rOp74_m {t : Int → Int} {n k ph bg pr o p e : Int} {w c : List Int} {fs : List mFr} {st : zS} {Q Q' : zQ} (hQ : ∀ r st', Q r st' → Q' r st') (h : ct_rOp74 t n k ph bg pr o p e w c fs st Q) : ct_rOp74 t n k ph bg pr o p e w c fs st Q' := ⟨h.1, fun x0 x1 x2 => hQ _ _ (h.2 x0 x1 x2)⟩
def k_rOp74 (t : Int → Int) (n k ph bg pr o p e : Int) (w c : List Int) (fs : List mFr) : zCall := fun _ as st Q => match as with
  | [.inr (.inr (.inl z_o))] => z_o = 170 ∧ ct_rOp74 t n k ph bg pr o p e w c fs st Q
  | _ => False
def m_rOp75 : aM := ([(170, 3), (170, 4), (170, 5), (170, 6), (170, 7), (170, 8), (170, 9), (170, 12), (170, 34), (170, 42), (170, 43), (170, 45)], [188, 189, 192, 193, 194, 195, 196, 197])
def rq_rOp75 (t : Int → Int) (n k ph bg pr o p e : Int) (w c : List Int) (fs : List mFr) (st : zS) : Prop := gInv zgt st ∧ (mcP t n st ((k, ph, bg, pr, w) :: fs) 0 (o) (c) (p)) ∧ (tk t n p 1 1937007984 e ∧ st 170 36 = 0)
def en_rOp75 (t : Int → Int) (n k ph bg pr o p e : Int) (w c : List Int) (fs : List mFr) (st : zS) (r : Int) (s1 : zS) : Prop := gInv zgt s1 ∧ aFr m_rOp75 st s1 ∧ Z9 st s1 ∧ (r = 1 ∧ mcP t n s1 ((k, ph, 0, pr, w) :: fs) 0 (o) (c ++ [5]) (e))
def ct_rOp75 (t : Int → Int) (n k ph bg pr o p e : Int) (w c : List Int) (fs : List mFr) (st : zS) (Q : zQ) : Prop := rq_rOp75 t n k ph bg pr o p e w c fs st ∧ (∀ (r : Int) (s1 : zS), en_rOp75 t n k ph bg pr o p e w c fs st r s1 → Q (some (.inl r)) s1)
theorem ct_rOp75_m {t : Int → Int} {n k ph bg pr o p e : Int} {w c : List Int} {fs : List mFr} {st : zS} {Q Q' : zQ} (hQ : ∀ r st', Q r st' → Q' r st') (h : ct_rOp75 t n k ph bg pr o p e w c fs st Q) : ct_rOp75 t n k ph bg pr o p e w c fs st Q' := ⟨h.1, fun x0 x1 x2 => hQ _ _ (h.2 x0 x1 x2)⟩
def k_rOp75 (t : Int → Int) (n k ph bg pr o p e : Int) (w c : List Int) (fs : List mFr) : zCall := fun _ as st Q => match as with
  | [.inr (.inr (.inl z_o))] => z_o = 170 ∧ ct_rOp75 t n k ph bg pr o p e w c fs st Q
  | _ => False
def m_rOp76 : aM := ([(170, 3), (170, 4), (170, 5), (170, 6), (170, 7), (170, 8), (170, 9), (170, 12), (170, 34), (170, 42), (170, 43), (170, 45)], [188, 189, 192, 193, 194, 195, 196, 197])
def rq_rOp76 (t : Int → Int) (n k ph bg pr o p e : Int) (w c : List Int) (fs : List mFr) (st : zS) : Prop := gInv zgt st ∧ (mcP t n st ((k, ph, bg, pr, w) :: fs) 0 (o) (c) (p)) ∧ (tk t n p 1 1650812270 e ∧ st 170 36 = 0)
def en_rOp76 (t : Int → Int) (n k ph bg pr o p e : Int) (w c : List Int) (fs : List mFr) (st : zS) (r : Int) (s1 : zS) : Prop := gInv zgt s1 ∧ aFr m_rOp76 st s1 ∧ Z9 st s1 ∧ (r = 1 ∧ mcP t n s1 ((k, ph, 0, pr, w) :: fs) 0 (o) (c ++ [6]) (e))
def ct_rOp76 (t : Int → Int) (n k ph bg pr o p e : Int) (w c : List Int) (fs : List mFr) (st : zS) (Q : zQ) : Prop := rq_rOp76 t n k ph bg pr o p e w c fs st ∧ (∀ (r : Int) (s1 : zS), en_rOp76 t n k ph bg pr o p e w c fs st r s1 → Q (some (.inl r)) s1)
theorem ct_rOp76_m {t : Int → Int} {n k ph bg pr o p e : Int} {w c : List Int} {fs : List mFr} {st : zS} {Q Q' : zQ} (hQ : ∀ r st', Q r st' → Q' r st') (h : ct_rOp76 t n k ph bg pr o p e w c fs st Q) : ct_rOp76 t n k ph bg pr o p e w c fs st Q' := ⟨h.1, fun x0 x1 x2 => hQ _ _ (h.2 x0 x1 x2)⟩
def k_rOp76 (t : Int → Int) (n k ph bg pr o p e : Int) (w c : List Int) (fs : List mFr) : zCall := fun _ as st Q => match as with
  | [.inr (.inr (.inl z_o))] => z_o = 170 ∧ ct_rOp76 t n k ph bg pr o p e w c fs st Q
  | _ => False
def m_rOp77 : aM := ([(170, 3), (170, 4), (170, 5), (170, 6), (170, 7), (170, 8), (170, 9), (170, 12), (170, 34), (170, 42), (170, 43), (170, 45)], [188, 189, 192, 193, 194, 195, 196, 197])
def rq_rOp77 (t : Int → Int) (n k ph bg pr o p e : Int) (w c : List Int) (fs : List mFr) (st : zS) : Prop := gInv zgt st ∧ (mcP t n st ((k, ph, bg, pr, w) :: fs) 0 (o) (c) (p)) ∧ (tk t n p 1 495874044019 e ∧ st 170 36 = 1)
def en_rOp77 (t : Int → Int) (n k ph bg pr o p e : Int) (w c : List Int) (fs : List mFr) (st : zS) (r : Int) (s1 : zS) : Prop := gInv zgt s1 ∧ aFr m_rOp77 st s1 ∧ Z9 st s1 ∧ (r = 1 ∧ mcP t n s1 ((k, ph, 0, pr, w) :: fs) 0 (o) (c ++ [7]) (e))
def ct_rOp77 (t : Int → Int) (n k ph bg pr o p e : Int) (w c : List Int) (fs : List mFr) (st : zS) (Q : zQ) : Prop := rq_rOp77 t n k ph bg pr o p e w c fs st ∧ (∀ (r : Int) (s1 : zS), en_rOp77 t n k ph bg pr o p e w c fs st r s1 → Q (some (.inl r)) s1)
theorem ct_rOp77_m {t : Int → Int} {n k ph bg pr o p e : Int} {w c : List Int} {fs : List mFr} {st : zS} {Q Q' : zQ} (hQ : ∀ r st', Q r st' → Q' r st') (h : ct_rOp77 t n k ph bg pr o p e w c fs st Q) : ct_rOp77 t n k ph bg pr o p e w c fs st Q' := ⟨h.1, fun x0 x1 x2 => hQ _ _ (h.2 x0 x1 x2)⟩
def k_rOp77 (t : Int → Int) (n k ph bg pr o p e : Int) (w c : List Int) (fs : List mFr) : zCall := fun _ as st Q => match as with
  | [.inr (.inr (.inl z_o))] => z_o = 170 ∧ ct_rOp77 t n k ph bg pr o p e w c fs st Q
  | _ => False
def m_rOp78 : aM := ([(170, 3), (170, 4), (170, 5), (170, 6), (170, 7), (170, 8), (170, 9), (170, 12), (170, 34), (170, 42), (170, 43), (170, 45)], [188, 189, 192, 193, 194, 195, 196, 197])
def rq_rOp78 (t : Int → Int) (n k ph bg pr o p e : Int) (w c : List Int) (fs : List mFr) (st : zS) : Prop := gInv zgt st ∧ (mcP t n st ((k, ph, bg, pr, w) :: fs) 0 (o) (c) (p)) ∧ (tk t n p 1 1953066341 e ∧ st 170 36 = 1)
def en_rOp78 (t : Int → Int) (n k ph bg pr o p e : Int) (w c : List Int) (fs : List mFr) (st : zS) (r : Int) (s1 : zS) : Prop := gInv zgt s1 ∧ aFr m_rOp78 st s1 ∧ Z9 st s1 ∧ (r = 1 ∧ mcP t n s1 ((k, ph, 0, pr, w) :: fs) 0 (o) (c ++ [8]) (e))
def ct_rOp78 (t : Int → Int) (n k ph bg pr o p e : Int) (w c : List Int) (fs : List mFr) (st : zS) (Q : zQ) : Prop := rq_rOp78 t n k ph bg pr o p e w c fs st ∧ (∀ (r : Int) (s1 : zS), en_rOp78 t n k ph bg pr o p e w c fs st r s1 → Q (some (.inl r)) s1)
theorem ct_rOp78_m {t : Int → Int} {n k ph bg pr o p e : Int} {w c : List Int} {fs : List mFr} {st : zS} {Q Q' : zQ} (hQ : ∀ r st', Q r st' → Q' r st') (h : ct_rOp78 t n k ph bg pr o p e w c fs st Q) : ct_rOp78 t n k ph bg pr o p e w c fs st Q' := ⟨h.1, fun x0 x1 x2 => hQ _ _ (h.2 x0 x1 x2)⟩
def k_rOp78 (t : Int → Int) (n k ph bg pr o p e : Int) (w c : List Int) (fs : List mFr) : zCall := fun _ as st Q => match as with
  | [.inr (.inr (.inl z_o))] => z_o = 170 ∧ ct_rOp78 t n k ph bg pr o p e w c fs st Q
  | _ => False
def m_rOp79 : aM := ([(170, 3), (170, 4), (170, 5), (170, 6), (170, 7), (170, 8), (170, 9), (170, 12), (170, 34), (170, 42), (170, 43), (170, 45)], [188, 189, 192, 193, 194, 195, 196, 197])
def rq_rOp79 (t : Int → Int) (n k ph bg pr o p e : Int) (w c : List Int) (fs : List mFr) (st : zS) : Prop := gInv zgt st ∧ (mcP t n st ((k, ph, bg, pr, w) :: fs) 0 (o) (c) (p)) ∧ (tk t n p 1 465726042227 e ∧ st 170 36 = 1)
def en_rOp79 (t : Int → Int) (n k ph bg pr o p e : Int) (w c : List Int) (fs : List mFr) (st : zS) (r : Int) (s1 : zS) : Prop := gInv zgt s1 ∧ aFr m_rOp79 st s1 ∧ Z9 st s1 ∧ (r = 1 ∧ mcP t n s1 ((k, ph, 0, pr, w) :: fs) 0 (o) (c ++ [9]) (e))
def ct_rOp79 (t : Int → Int) (n k ph bg pr o p e : Int) (w c : List Int) (fs : List mFr) (st : zS) (Q : zQ) : Prop := rq_rOp79 t n k ph bg pr o p e w c fs st ∧ (∀ (r : Int) (s1 : zS), en_rOp79 t n k ph bg pr o p e w c fs st r s1 → Q (some (.inl r)) s1)
theorem ct_rOp79_m {t : Int → Int} {n k ph bg pr o p e : Int} {w c : List Int} {fs : List mFr} {st : zS} {Q Q' : zQ} (hQ : ∀ r st', Q r st' → Q' r st') (h : ct_rOp79 t n k ph bg pr o p e w c fs st Q) : ct_rOp79 t n k ph bg pr o p e w c fs st Q' := ⟨h.1, fun x0 x1 x2 => hQ _ _ (h.2 x0 x1 x2)⟩
def k_rOp79 (t : Int → Int) (n k ph bg pr o p e : Int) (w c : List Int) (fs : List mFr) : zCall := fun _ as st Q => match as with
  | [.inr (.inr (.inl z_o))] => z_o = 170 ∧ ct_rOp79 t n k ph bg pr o p e w c fs st Q
  | _ => False
def m_rOp2 : aM := ([(170, 3), (170, 4), (170, 5), (170, 6), (170, 7), (170, 8), (170, 9), (170, 12), (170, 34), (170, 42), (170, 43), (170, 45)], [188, 189, 192, 193, 194, 195, 196, 197])
def rq_rOp2 (t : Int → Int) (n k ph bg pr o p e : Int) (w c : List Int) (fs : List mFr) (st : zS) : Prop := gInv zgt st ∧ (mcP t n st ((k, ph, bg, pr, w) :: fs) 0 (o) (c) (p)) ∧ (isT k ∧ bg = 1 ∧ tk t n p 3 91 e ∧ o < 7 ∧ fs.length ≤ 7)
def en_rOp2 (t : Int → Int) (n k ph bg pr o p e : Int) (w c : List Int) (fs : List mFr) (st : zS) (r : Int) (s1 : zS) : Prop := gInv zgt s1 ∧ aFr m_rOp2 st s1 ∧ Z9 st s1 ∧ (r = 0 ∧ ∃ rr : Int, mcP t n s1 ((5, 0, 1, rr, []) :: (k, ph, 0, pr, w) :: fs) 0 (o + 1) (c) (e))
def ct_rOp2 (t : Int → Int) (n k ph bg pr o p e : Int) (w c : List Int) (fs : List mFr) (st : zS) (Q : zQ) : Prop := rq_rOp2 t n k ph bg pr o p e w c fs st ∧ (∀ (r : Int) (s1 : zS), en_rOp2 t n k ph bg pr o p e w c fs st r s1 → Q (some (.inl r)) s1)
theorem ct_rOp2_m {t : Int → Int} {n k ph bg pr o p e : Int} {w c : List Int} {fs : List mFr} {st : zS} {Q Q' : zQ} (hQ : ∀ r st', Q r st' → Q' r st') (h : ct_rOp2 t n k ph bg pr o p e w c fs st Q) : ct_rOp2 t n k ph bg pr o p e w c fs st Q' := ⟨h.1, fun x0 x1 x2 => hQ _ _ (h.2 x0 x1 x2)⟩
def k_rOp2 (t : Int → Int) (n k ph bg pr o p e : Int) (w c : List Int) (fs : List mFr) : zCall := fun _ as st Q => match as with
  | [.inr (.inr (.inl z_o))] => z_o = 170 ∧ ct_rOp2 t n k ph bg pr o p e w c fs st Q
  | _ => False
def m_rOp4 : aM := ([(170, 3), (170, 4), (170, 5), (170, 6), (170, 7), (170, 8), (170, 9), (170, 12), (170, 34), (170, 42), (170, 43), (170, 45)], [188, 189, 192, 193, 194, 195, 196, 197])
def rq_rOp4 (t : Int → Int) (n k ph bg pr o p e : Int) (w c : List Int) (fs : List mFr) (st : zS) : Prop := gInv zgt st ∧ (mcP t n st ((k, ph, bg, pr, w) :: fs) 0 (o) (c) (p)) ∧ (tk t n p 3 40 e ∧ o < 7 ∧ fs.length ≤ 7)
def en_rOp4 (t : Int → Int) (n k ph bg pr o p e : Int) (w c : List Int) (fs : List mFr) (st : zS) (r : Int) (s1 : zS) : Prop := gInv zgt s1 ∧ aFr m_rOp4 st s1 ∧ Z9 st s1 ∧ (r = 0 ∧ ∃ rr : Int, mcP t n s1 ((2, 0, 1, rr, []) :: (k, ph, 0, pr, w) :: fs) 0 (o + 1) (c) (e))
def ct_rOp4 (t : Int → Int) (n k ph bg pr o p e : Int) (w c : List Int) (fs : List mFr) (st : zS) (Q : zQ) : Prop := rq_rOp4 t n k ph bg pr o p e w c fs st ∧ (∀ (r : Int) (s1 : zS), en_rOp4 t n k ph bg pr o p e w c fs st r s1 → Q (some (.inl r)) s1)
theorem ct_rOp4_m {t : Int → Int} {n k ph bg pr o p e : Int} {w c : List Int} {fs : List mFr} {st : zS} {Q Q' : zQ} (hQ : ∀ r st', Q r st' → Q' r st') (h : ct_rOp4 t n k ph bg pr o p e w c fs st Q) : ct_rOp4 t n k ph bg pr o p e w c fs st Q' := ⟨h.1, fun x0 x1 x2 => hQ _ _ (h.2 x0 x1 x2)⟩
def k_rOp4 (t : Int → Int) (n k ph bg pr o p e : Int) (w c : List Int) (fs : List mFr) : zCall := fun _ as st Q => match as with
  | [.inr (.inr (.inl z_o))] => z_o = 170 ∧ ct_rOp4 t n k ph bg pr o p e w c fs st Q
  | _ => False
section Rz2
variable {cl : Nat → zCall}
set_option maxHeartbeats 4000000 in
set_option maxRecDepth 100000 in
theorem c_rOp1 (hTb : aTb zSh rx_tb cl) {t : Int → Int} {n k ph bg pr o p e : Int} {w c : List Int} {fs : List mFr} {D : Nat} (hD : 4 ≤ D) {st : zS} {Q : zQ} (h : ct_rOp1 t n k ph bg pr o p e w c fs st Q) : cl D 196 [.inr (.inr (.inl 170))] st Q := by
  obtain ⟨d, rfl⟩ : ∃ d, D = d + 1 := ⟨D - 1, by omega⟩
  refine hTb d 196 (rx_m196, 4, 0, 0, 2) rfl _ _ _ (Nat.le_of_ble_eq_true rfl) (fun K hcl hsf hsl => ?_)
  have hcm : zmo (wcL [(181, k_rLex), (195, k_isTest), (183, k_isWord), (182, k_isSign), (149, k_rNext t n), (189, k_add), (192, k_holdsBack), (194, k_rOpens t n)]) (cl d) := (wcL_m (wm_cons (k_rLex_m hTb (by omega)) (wm_cons (k_isTest_m hTb (by omega)) (wm_cons (k_isWord_m hTb (by omega)) (wm_cons (k_isSign_m hTb (by omega)) (wm_cons (k_rNext_m hTb (by omega)) (wm_cons (k_add_m hTb (by omega)) (wm_cons (k_holdsBack_m hTb (by omega)) (wm_cons (k_rOpens_m hTb (by omega)) wm_nil)))))))))
  obtain ⟨hR, hQ⟩ := h
  obtain ⟨hG, mp, ht⟩ := hR
  change mcP t n st ((k, ph, bg, pr, w) :: fs) 0 (o) (c) (p) at mp
  change isT k ∧ bg = 1 ∧ tk t n p 1 7237492 e ∧ o < 7 ∧ w.length ≤ 14 at ht
  obtain ⟨mf, mo, mn, mpp, mrd, mq, mbd, mz1, mz2, mz3⟩ := mp
  rw [List.length_cons] at mz3
  have mq0 := mq
  obtain ⟨mfr, mwb, mcd⟩ := mq
  have mt := FR_top mfr
  have mb := FR_bnd _ _ _ mwb mfr
  rw [List.length_cons] at mb
  have ml := WB_hd mwb
  have mcl := mcd.1
  have mlw := FR_len mb.2.1 mfr
  have tf := r_wrd mrd (by rw [mpp]; exact ht.2.2.1)
  have tkT : k = 1 ∨ k = 5 ∨ k = 6 := ht.1
  have g1 := g_codes hG
  have g2 := g_in hG
  have g3 := g_isClever hG
  have g4 := g_deep hG
  have g5 := g_open hG
  have g6 := g_opMany hG
  have g7 := g_signAt hG
  have g8 := g_signEnd hG
  have g9 := g_faultKind hG
  have g10 := g_size hG
  have g11 := g_sign hG
  have g12 := g_lexAt hG
  have g13 := g_value hG
  have g14 := g_word hG
  have g15 := g_operand hG
  refine yr1_ok (Rt := Q) (wc := (wcL [(181, k_rLex), (195, k_isTest), (183, k_isWord), (182, k_isSign), (149, k_rNext t n), (189, k_add), (192, k_holdsBack), (194, k_rOpens t n)])) (stp := []) hcm hcl [] 400 ?_
  show (170 = 170 ∧ (rq_rLex  st ∧ (((st 170 8 ≤ (0 : Int) → ((-2147483648 ≤ (st 170 42) - 1 ∧ (st 170 42) - 1 ≤ 2147483647) ∧ ((0 ≤ (st 170 42) - 1 ∧ (st 170 42) - 1 < 20) ∧ (∀ (r17 : Int), en_isTest (st 192 ((st 170 42) - 1 : Int).toNat) st r17 → ((r17 = (0 : Int) → _) ∧ (¬ (r17 = (0 : Int)) → ((0 ≤ (st 170 42) - 1 ∧ (st 170 42) - 1 < 20) ∧ ((st 194 ((st 170 42) - 1 : Int).toNat = (0 : Int) → _) ∧ (¬ (st 194 ((st 170 42) - 1 : Int).toNat = (0 : Int)) → (((1 : Int) = (0 : Int) → _) ∧ (¬ ((1 : Int) = (0 : Int)) → (170 = 170 ∧ (∀ (r18 : Int), en_isWord (7237492) st r18 → ((r18 = (0 : Int) → _) ∧ (¬ (r18 = (0 : Int)) → ((¬ st 170 43 = (7 : Int) → ((st 170 8 ≤ (0 : Int) → ((-2147483648 ≤ (st 170 43) + 1 ∧ (st 170 43) + 1 ≤ 2147483647) ∧ (170 = 170 ∧ (rq_holdsBack (43) (zup st 170 43 ((st 170 43) + 1)) ∧ ((170 = 170 ∧ (rq_rNext t n  (zup (zup (zup st 170 43 ((st 170 43) + 1)) 197 (st 170 45 : Int).toNat (43)) 170 45 ((st 170 45) + 1)) ∧ (∀ (s20 : zS), en_rNext t n  (zup (zup (zup st 170 43 ((st 170 43) + 1)) 197 (st 170 45 : Int).toNat (43)) 170 45 ((st 170 45) + 1)) s20 → ((0 = (0 : Int) ∨ 0 = (1 : Int)) ∧ Q (some (.inl 0)) s20))))))))) ∧ (¬ (st 170 8 ≤ (0 : Int)) → _))) ∧ (¬ (¬ st 170 43 = (7 : Int)) → _))))))))))))))))) ∧ (¬ (st 170 8 ≤ (0 : Int)) → _)))))
  refine ⟨rfl, ⟨hG, (show st 170 12 = -1 from by omega)⟩, ?_⟩
  refine ⟨fun h21 => ?_, fun h21 => (by exfalso; omega)⟩
  refine ⟨by omega, ?_⟩
  have g22 := g_frame hG ((st 170 42) - 1 : Int).toNat
  refine ⟨by omega, ?_⟩
  refine fun r17 q17 => ?_
  have b17 := q17
  change (r17 = 0 ∨ r17 = 1) ∧ (r17 = 1 ↔ (st 192 ((st 170 42) - 1 : Int).toNat) = 1 ∨ (st 192 ((st 170 42) - 1 : Int).toNat) = 5 ∨ (st 192 ((st 170 42) - 1 : Int).toNat) = 6) at b17
  refine ⟨fun h23 => (by exfalso; clear hQ; omega), fun h23 => ?_⟩
  clear h23 b17
  have g24 := g_begins hG ((st 170 42) - 1 : Int).toNat
  refine ⟨by omega, ?_⟩
  refine ⟨fun h25 => (by exfalso; omega), fun h25 => ?_⟩
  refine ⟨fun h26 => absurd h26 (by decide), fun h26 => ?_⟩
  refine ⟨rfl, fun r18 q18 => ?_⟩
  have b18 := q18
  change (r18 = 0 ∨ r18 = 1) ∧ (r18 = 1 ↔ st 170 3 = 1 ∧ st 170 7 = (7237492)) at b18
  refine ⟨fun h27 => (by exfalso; clear hQ; omega), fun h27 => ?_⟩
  clear h27 b18
  refine ⟨fun h28 => ?_, fun h28 => (by exfalso; omega)⟩
  refine ⟨fun h29 => ?_, fun h29 => (by exfalso; omega)⟩
  refine ⟨by omega, ?_⟩
  refine ⟨rfl, ⟨(gInv_up hG (p_open (by omega))), (show 0 ≤ st 170 45 ∧ st 170 45 ≤ 499 from by omega)⟩, ?_⟩
  refine ⟨rfl, ⟨(gInv_up (gInv_up (gInv_up hG (p_open (by omega))) (p_ops (by omega))) (p_opMany (by omega))), (show RDr (zup (zup (zup st 170 43 ((st 170 43) + 1)) 197 (st 170 45 : Int).toNat (43)) 170 45 ((st 170 45) + 1)) t n from (show RDr (zup (zup (zup st 170 43 ((st 170 43) + 1)) 197 (st 170 45 : Int).toNat (43)) 170 45 ((st 170 45) + 1)) t n from mrd)), (show st 170 12 = -1 from by omega)⟩, fun s20 q20 => ?_⟩
  obtain ⟨gs20, fs20, rd20, nx20⟩ := q20
  change RDr s20 t n at rd20
  change NXr (zup (zup (zup st 170 43 ((st 170 43) + 1)) 197 (st 170 45 : Int).toNat (43)) 170 45 ((st 170 45) + 1)) s20 t n at nx20
  refine ⟨by omega, ?_⟩
  have e30 : s20 170 8 = st 170 8 := fs20 170 8 rfl rfl
  have e31 : s20 170 46 = st 170 46 := fs20 170 46 rfl rfl
  have e32 : s20 170 43 = ((st 170 43) + 1) := fs20 170 43 rfl rfl
  have e33 : s20 170 34 = st 170 34 := fs20 170 34 rfl rfl
  have e34 : s20 170 45 = ((st 170 45) + 1) := fs20 170 45 rfl rfl
  have e35 : s20 170 42 = st 170 42 := fs20 170 42 rfl rfl
  exact hQ _ _ ⟨gs20, (fr_tr (fr_f (fr_a (fr_f (fr_rf _ _) rfl) rfl) rfl) fs20 rfl), (Z9_tr (Z9_up (Z9_up (Z9_up (Z9_rf _) (by decide)) (by decide)) (by decide)) ((show aFr m_rOp1 st (zup (zup (zup st 170 43 ((st 170 43) + 1)) 197 (st 170 45 : Int).toNat (43)) 170 45 ((st 170 45) + 1)) from (fr_f (fr_a (fr_f (fr_rf _ _) rfl) rfl) rfl)) 170 35 rfl rfl) (Z9_fr fs20 (fun _ => rfl) rfl)), (show (0 : Int) = 0 ∧ mcP t n s20 ((k, ph, bg, pr, 43 :: w) :: fs) 0 (o + 1) (c) (e) from (by
            have hp : s20 170 4 = e := NXr_e (st := (zup (zup (zup st 170 43 ((st 170 43) + 1)) 197 (st 170 45 : Int).toNat (43)) 170 45 ((st 170 45) + 1))) (show NXr (zup (zup (zup st 170 43 ((st 170 43) + 1)) 197 (st 170 45 : Int).toNat (43)) 170 45 ((st 170 45) + 1)) s20 t n from nx20) (show tk t n ((zup (zup (zup st 170 43 ((st 170 43) + 1)) 197 (st 170 45 : Int).toNat (43)) 170 45 ((st 170 45) + 1)) 170 4) _ _ e from by rw [show (zup (zup (zup st 170 43 ((st 170 43) + 1)) 197 (st 170 45 : Int).toNat (43)) 170 45 ((st 170 45) + 1)) 170 4 = p from mpp]; exact ht.2.2.1) (by omega)
            have hl := tk_lt ht.2.2.1 (show 0 ≤ p from by rw [← mpp]; exact mrd.2.1.1) (by omega)
            exact ⟨rfl, ⟨by omega, by omega, by omega, hp, rd20, mcQ_of (fun i => fs20 192 i rfl rfl) (fun i => fs20 193 i rfl rfl) (fun i => fs20 194 i rfl rfl) (fun i => fs20 195 i rfl rfl) (fun i => fs20 196 i rfl rfl) (fun i => fs20 197 i rfl rfl) (fs20 170 42 rfl rfl) (fs20 170 45 rfl rfl) (fs20 170 35 rfl rfl) (fs20 170 34 rfl rfl) (fun i => fs20 188 i rfl rfl) (fun i => fs20 189 i rfl rfl) (show mcQ (zup (zup (zup st 170 43 ((st 170 43) + 1)) 197 (st 170 45 : Int).toNat (43)) 170 45 ((st 170 45) + 1)) ((k, ph, bg, pr, 43 :: w) :: fs) (c) from ⟨FR_hold 43 mb.2.1 mfr, WB_c (by rw [List.length_cons]; omega) (fun x hx => by rcases List.mem_cons.mp hx with z | z; omega; exact WB_el mwb x z) (WB_tl mwb), mcd⟩), by omega, by omega, by omega, by rw [List.length_cons]; omega⟩⟩))⟩
theorem k_rOp1_m (hTb : aTb zSh rx_tb cl) {t : Int → Int} {n k ph bg pr o p e : Int} {w c : List Int} {fs : List mFr} {D : Nat} (hD : 4 ≤ D) : ∀ as st (Q Q' : zQ), (∀ r st', Q r st' → Q' r st') → (k_rOp1 t n k ph bg pr o p e w c fs) 196 as st Q → cl D 196 as st Q' := by
  intro as st Q Q' hQ h
  unfold k_rOp1 at h
  split at h
  · obtain ⟨rfl, h⟩ := h
    exact c_rOp1 hTb hD (ct_rOp1_m hQ h)
  · exact h.elim
set_option maxHeartbeats 4000000 in
set_option maxRecDepth 100000 in
theorem c_rOp3 (hTb : aTb zSh rx_tb cl) {t : Int → Int} {n k ph bg pr o p e : Int} {w c : List Int} {fs : List mFr} {D : Nat} (hD : 4 ≤ D) {st : zS} {Q : zQ} (h : ct_rOp3 t n k ph bg pr o p e w c fs st Q) : cl D 196 [.inr (.inr (.inl 170))] st Q := by
  obtain ⟨d, rfl⟩ : ∃ d, D = d + 1 := ⟨D - 1, by omega⟩
  refine hTb d 196 (rx_m196, 4, 0, 0, 2) rfl _ _ _ (Nat.le_of_ble_eq_true rfl) (fun K hcl hsf hsl => ?_)
  have hcm : zmo (wcL [(181, k_rLex), (195, k_isTest), (183, k_isWord), (182, k_isSign), (149, k_rNext t n), (189, k_add), (192, k_holdsBack), (194, k_rOpens t n)]) (cl d) := (wcL_m (wm_cons (k_rLex_m hTb (by omega)) (wm_cons (k_isTest_m hTb (by omega)) (wm_cons (k_isWord_m hTb (by omega)) (wm_cons (k_isSign_m hTb (by omega)) (wm_cons (k_rNext_m hTb (by omega)) (wm_cons (k_add_m hTb (by omega)) (wm_cons (k_holdsBack_m hTb (by omega)) (wm_cons (k_rOpens_m hTb (by omega)) wm_nil)))))))))
  obtain ⟨hR, hQ⟩ := h
  obtain ⟨hG, mp, ht⟩ := hR
  change mcP t n st ((k, ph, bg, pr, w) :: fs) 0 (o) (c) (p) at mp
  change isT k ∧ bg = 1 ∧ tk t n p 1 6384748 e at ht
  obtain ⟨mf, mo, mn, mpp, mrd, mq, mbd, mz1, mz2, mz3⟩ := mp
  rw [List.length_cons] at mz3
  have mq0 := mq
  obtain ⟨mfr, mwb, mcd⟩ := mq
  have mt := FR_top mfr
  have mb := FR_bnd _ _ _ mwb mfr
  rw [List.length_cons] at mb
  have ml := WB_hd mwb
  have mcl := mcd.1
  have mlw := FR_len mb.2.1 mfr
  have tf := r_wrd mrd (by rw [mpp]; exact ht.2.2)
  have tkT : k = 1 ∨ k = 5 ∨ k = 6 := ht.1
  have g1 := g_codes hG
  have g2 := g_in hG
  have g3 := g_isClever hG
  have g4 := g_deep hG
  have g5 := g_open hG
  have g6 := g_opMany hG
  have g7 := g_signAt hG
  have g8 := g_signEnd hG
  have g9 := g_faultKind hG
  have g10 := g_size hG
  have g11 := g_sign hG
  have g12 := g_lexAt hG
  have g13 := g_value hG
  have g14 := g_word hG
  have g15 := g_operand hG
  refine yr1_ok (Rt := Q) (wc := (wcL [(181, k_rLex), (195, k_isTest), (183, k_isWord), (182, k_isSign), (149, k_rNext t n), (189, k_add), (192, k_holdsBack), (194, k_rOpens t n)])) (stp := []) hcm hcl [] 400 ?_
  show (170 = 170 ∧ (rq_rLex  st ∧ (((st 170 8 ≤ (0 : Int) → ((-2147483648 ≤ (st 170 42) - 1 ∧ (st 170 42) - 1 ≤ 2147483647) ∧ ((0 ≤ (st 170 42) - 1 ∧ (st 170 42) - 1 < 20) ∧ (∀ (r17 : Int), en_isTest (st 192 ((st 170 42) - 1 : Int).toNat) st r17 → ((r17 = (0 : Int) → _) ∧ (¬ (r17 = (0 : Int)) → ((0 ≤ (st 170 42) - 1 ∧ (st 170 42) - 1 < 20) ∧ ((st 194 ((st 170 42) - 1 : Int).toNat = (0 : Int) → _) ∧ (¬ (st 194 ((st 170 42) - 1 : Int).toNat = (0 : Int)) → (((1 : Int) = (0 : Int) → _) ∧ (¬ ((1 : Int) = (0 : Int)) → (170 = 170 ∧ (∀ (r18 : Int), en_isWord (7237492) st r18 → ((r18 = (0 : Int) → ((0 ≤ (st 170 42) - 1 ∧ (st 170 42) - 1 < 20) ∧ ((0 = (0 : Int) ∨ 0 = (1 : Int)) ∧ (((1 : Int) = (0 : Int) → _) ∧ (¬ ((1 : Int) = (0 : Int)) → (170 = 170 ∧ (∀ (r19 : Int), en_isSign (91) (zup st 194 ((st 170 42) - 1 : Int).toNat 0) r19 → ((r19 = (0 : Int) → (((1 : Int) = (0 : Int) → _) ∧ (¬ ((1 : Int) = (0 : Int)) → (170 = 170 ∧ (∀ (r20 : Int), en_isWord (6384748) (zup st 194 ((st 170 42) - 1 : Int).toNat 0) r20 → ((r20 = (0 : Int) → _) ∧ (¬ (r20 = (0 : Int)) → (170 = 170 ∧ (rq_add (30) (0) (zup st 194 ((st 170 42) - 1 : Int).toNat 0) ∧ (((0 ≤ (st 170 42) - 1 ∧ (st 170 42) - 1 < 20) ∧ (170 = 170 ∧ (rq_rNext t n  (zup (zup (zup (zup (zup st 194 ((st 170 42) - 1 : Int).toNat 0) 188 ((1600 : Int) * (st 170 35) + (st 170 34) : Int).toNat (30)) 189 ((1600 : Int) * (st 170 35) + (st 170 34) : Int).toNat (0)) 170 34 ((st 170 34) + 1)) 193 ((st 170 42) - 1 : Int).toNat 2) ∧ (∀ (s22 : zS), en_rNext t n  (zup (zup (zup (zup (zup st 194 ((st 170 42) - 1 : Int).toNat 0) 188 ((1600 : Int) * (st 170 35) + (st 170 34) : Int).toNat (30)) 189 ((1600 : Int) * (st 170 35) + (st 170 34) : Int).toNat (0)) 170 34 ((st 170 34) + 1)) 193 ((st 170 42) - 1 : Int).toNat 2) s22 → ((1 = (0 : Int) ∨ 1 = (1 : Int)) ∧ Q (some (.inl 1)) s22))))))))))))))) ∧ (¬ (r19 = (0 : Int)) → _))))))))) ∧ (¬ (r18 = (0 : Int)) → _))))))))))))))) ∧ (¬ (st 170 8 ≤ (0 : Int)) → _)))))
  refine ⟨rfl, ⟨hG, (show st 170 12 = -1 from by omega)⟩, ?_⟩
  refine ⟨fun h23 => ?_, fun h23 => (by exfalso; omega)⟩
  refine ⟨by omega, ?_⟩
  have g24 := g_frame hG ((st 170 42) - 1 : Int).toNat
  refine ⟨by omega, ?_⟩
  refine fun r17 q17 => ?_
  have b17 := q17
  change (r17 = 0 ∨ r17 = 1) ∧ (r17 = 1 ↔ (st 192 ((st 170 42) - 1 : Int).toNat) = 1 ∨ (st 192 ((st 170 42) - 1 : Int).toNat) = 5 ∨ (st 192 ((st 170 42) - 1 : Int).toNat) = 6) at b17
  refine ⟨fun h25 => (by exfalso; clear hQ; omega), fun h25 => ?_⟩
  clear h25 b17
  have g26 := g_begins hG ((st 170 42) - 1 : Int).toNat
  refine ⟨by omega, ?_⟩
  refine ⟨fun h27 => (by exfalso; omega), fun h27 => ?_⟩
  refine ⟨fun h28 => absurd h28 (by decide), fun h28 => ?_⟩
  refine ⟨rfl, fun r18 q18 => ?_⟩
  have b18 := q18
  change (r18 = 0 ∨ r18 = 1) ∧ (r18 = 1 ↔ st 170 3 = 1 ∧ st 170 7 = (7237492)) at b18
  refine ⟨fun h29 => ?_, fun h29 => (by exfalso; clear hQ; omega)⟩
  clear h29 b18
  refine ⟨by omega, ?_⟩
  refine ⟨by omega, ?_⟩
  refine ⟨fun h30 => absurd h30 (by decide), fun h30 => ?_⟩
  refine ⟨rfl, fun r19 q19 => ?_⟩
  have b19 := q19
  change (r19 = 0 ∨ r19 = 1) ∧ (r19 = 1 ↔ st 170 3 = 3 ∧ st 170 6 = (91)) at b19
  refine ⟨fun h31 => ?_, fun h31 => (by exfalso; clear hQ; omega)⟩
  clear h31 b19
  refine ⟨fun h32 => absurd h32 (by decide), fun h32 => ?_⟩
  refine ⟨rfl, fun r20 q20 => ?_⟩
  have b20 := q20
  change (r20 = 0 ∨ r20 = 1) ∧ (r20 = 1 ↔ st 170 3 = 1 ∧ st 170 7 = (6384748)) at b20
  refine ⟨fun h33 => (by exfalso; clear hQ; omega), fun h33 => ?_⟩
  clear h33 b20
  refine ⟨rfl, ⟨(gInv_up hG (p_begins (by omega))), (show st 170 34 ≤ 1599 from by omega)⟩, ?_⟩
  refine ⟨by omega, ?_⟩
  refine ⟨rfl, ⟨(gInv_up (gInv_up (gInv_up (gInv_up (gInv_up hG (p_begins (by omega))) (p_codeSort (by omega))) (p_codeValue (by omega))) (p_codes (by omega))) (p_phase (by omega))), (show RDr (zup (zup (zup (zup (zup st 194 ((st 170 42) - 1 : Int).toNat 0) 188 ((1600 : Int) * (st 170 35) + (st 170 34) : Int).toNat (30)) 189 ((1600 : Int) * (st 170 35) + (st 170 34) : Int).toNat (0)) 170 34 ((st 170 34) + 1)) 193 ((st 170 42) - 1 : Int).toNat 2) t n from (show RDr (zup (zup (zup (zup (zup st 194 ((st 170 42) - 1 : Int).toNat 0) 188 ((1600 : Int) * (st 170 35) + (st 170 34) : Int).toNat (30)) 189 ((1600 : Int) * (st 170 35) + (st 170 34) : Int).toNat (0)) 170 34 ((st 170 34) + 1)) 193 ((st 170 42) - 1 : Int).toNat 2) t n from mrd)), (show st 170 12 = -1 from by omega)⟩, fun s22 q22 => ?_⟩
  obtain ⟨gs22, fs22, rd22, nx22⟩ := q22
  change RDr s22 t n at rd22
  change NXr (zup (zup (zup (zup (zup st 194 ((st 170 42) - 1 : Int).toNat 0) 188 ((1600 : Int) * (st 170 35) + (st 170 34) : Int).toNat (30)) 189 ((1600 : Int) * (st 170 35) + (st 170 34) : Int).toNat (0)) 170 34 ((st 170 34) + 1)) 193 ((st 170 42) - 1 : Int).toNat 2) s22 t n at nx22
  refine ⟨by omega, ?_⟩
  have e34 : s22 170 8 = st 170 8 := fs22 170 8 rfl rfl
  have e35 : s22 170 46 = st 170 46 := fs22 170 46 rfl rfl
  have e36 : s22 170 43 = st 170 43 := fs22 170 43 rfl rfl
  have e37 : s22 170 34 = ((st 170 34) + 1) := fs22 170 34 rfl rfl
  have e38 : s22 170 45 = st 170 45 := fs22 170 45 rfl rfl
  have e39 : s22 170 42 = st 170 42 := fs22 170 42 rfl rfl
  exact hQ _ _ ⟨gs22, (fr_tr (fr_a (fr_f (fr_a (fr_a (fr_a (fr_rf _ _) rfl) rfl) rfl) rfl) rfl) fs22 rfl), (Z9_tr (Z9_up (Z9_up (Z9_st (Z9_up (Z9_up (Z9_rf _) (by decide)) (by decide)) (b := st 170 35) rfl (by omega)) (by decide)) (by decide)) ((show aFr m_rOp3 st (zup (zup (zup (zup (zup st 194 ((st 170 42) - 1 : Int).toNat 0) 188 ((1600 : Int) * (st 170 35) + (st 170 34) : Int).toNat (30)) 189 ((1600 : Int) * (st 170 35) + (st 170 34) : Int).toNat (0)) 170 34 ((st 170 34) + 1)) 193 ((st 170 42) - 1 : Int).toNat 2) from (fr_a (fr_f (fr_a (fr_a (fr_a (fr_rf _ _) rfl) rfl) rfl) rfl) rfl)) 170 35 rfl rfl) (Z9_fr fs22 (fun _ => rfl) rfl)), (show (1 : Int) = 1 ∧ mcP t n s22 ((k, 2, 0, pr, w) :: fs) 0 (o) (c ++ [30]) (e) from (by
            have hp : s22 170 4 = e := NXr_e (st := (zup (zup (zup (zup (zup st 194 ((st 170 42) - 1 : Int).toNat 0) 188 ((1600 : Int) * (st 170 35) + (st 170 34) : Int).toNat (30)) 189 ((1600 : Int) * (st 170 35) + (st 170 34) : Int).toNat (0)) 170 34 ((st 170 34) + 1)) 193 ((st 170 42) - 1 : Int).toNat 2)) (show NXr (zup (zup (zup (zup (zup st 194 ((st 170 42) - 1 : Int).toNat 0) 188 ((1600 : Int) * (st 170 35) + (st 170 34) : Int).toNat (30)) 189 ((1600 : Int) * (st 170 35) + (st 170 34) : Int).toNat (0)) 170 34 ((st 170 34) + 1)) 193 ((st 170 42) - 1 : Int).toNat 2) s22 t n from nx22) (show tk t n ((zup (zup (zup (zup (zup st 194 ((st 170 42) - 1 : Int).toNat 0) 188 ((1600 : Int) * (st 170 35) + (st 170 34) : Int).toNat (30)) 189 ((1600 : Int) * (st 170 35) + (st 170 34) : Int).toNat (0)) 170 34 ((st 170 34) + 1)) 193 ((st 170 42) - 1 : Int).toNat 2) 170 4) _ _ e from by rw [show (zup (zup (zup (zup (zup st 194 ((st 170 42) - 1 : Int).toNat 0) 188 ((1600 : Int) * (st 170 35) + (st 170 34) : Int).toNat (30)) 189 ((1600 : Int) * (st 170 35) + (st 170 34) : Int).toNat (0)) 170 34 ((st 170 34) + 1)) 193 ((st 170 42) - 1 : Int).toNat 2) 170 4 = p from mpp]; exact ht.2.2) (by omega)
            have hl := tk_lt ht.2.2 (show 0 ≤ p from by rw [← mpp]; exact mrd.2.1.1) (by omega)
            exact ⟨rfl, ⟨by omega, by omega, by omega, hp, rd22, mcQ_of (fun i => fs22 192 i rfl rfl) (fun i => fs22 193 i rfl rfl) (fun i => fs22 194 i rfl rfl) (fun i => fs22 195 i rfl rfl) (fun i => fs22 196 i rfl rfl) (fun i => fs22 197 i rfl rfl) (fs22 170 42 rfl rfl) (fs22 170 45 rfl rfl) (fs22 170 35 rfl rfl) (fs22 170 34 rfl rfl) (fun i => fs22 188 i rfl rfl) (fun i => fs22 189 i rfl rfl) (show mcQ (zup (zup (zup (zup (zup st 194 ((st 170 42) - 1 : Int).toNat 0) 188 ((1600 : Int) * (st 170 35) + (st 170 34) : Int).toNat (30)) 189 ((1600 : Int) * (st 170 35) + (st 170 34) : Int).toNat (0)) 170 34 ((st 170 34) + 1)) 193 ((st 170 42) - 1 : Int).toNat 2) ((k, 2, 0, pr, w) :: fs) (c ++ [30]) from ⟨FR_ph 2 mb.2.1 (FR_bg 0 mb.2.1 mfr), WB_c ml (WB_el mwb) (WB_tl mwb), CDr_add (b := st 170 35) (n := st 170 34) (by omega) mcd (by omega) (fun h => by omega)⟩), by omega, by omega, by omega, by rw [List.length_cons]; omega⟩⟩))⟩
theorem k_rOp3_m (hTb : aTb zSh rx_tb cl) {t : Int → Int} {n k ph bg pr o p e : Int} {w c : List Int} {fs : List mFr} {D : Nat} (hD : 4 ≤ D) : ∀ as st (Q Q' : zQ), (∀ r st', Q r st' → Q' r st') → (k_rOp3 t n k ph bg pr o p e w c fs) 196 as st Q → cl D 196 as st Q' := by
  intro as st Q Q' hQ h
  unfold k_rOp3 at h
  split at h
  · obtain ⟨rfl, h⟩ := h
    exact c_rOp3 hTb hD (ct_rOp3_m hQ h)
  · exact h.elim
set_option maxHeartbeats 4000000 in
set_option maxRecDepth 100000 in
theorem c_rOp6 (hTb : aTb zSh rx_tb cl) {t : Int → Int} {n k ph bg pr o p e : Int} {w c : List Int} {fs : List mFr} {v : Int} {D : Nat} (hD : 4 ≤ D) {st : zS} {Q : zQ} (h : ct_rOp6 t n k ph bg pr o p e w c fs v st Q) : cl D 196 [.inr (.inr (.inl 170))] st Q := by
  obtain ⟨d, rfl⟩ : ∃ d, D = d + 1 := ⟨D - 1, by omega⟩
  refine hTb d 196 (rx_m196, 4, 0, 0, 2) rfl _ _ _ (Nat.le_of_ble_eq_true rfl) (fun K hcl hsf hsl => ?_)
  have hcm : zmo (wcL [(181, k_rLex), (195, k_isTest), (183, k_isWord), (182, k_isSign), (149, k_rNext t n), (189, k_add), (192, k_holdsBack), (194, k_rOpens t n)]) (cl d) := (wcL_m (wm_cons (k_rLex_m hTb (by omega)) (wm_cons (k_isTest_m hTb (by omega)) (wm_cons (k_isWord_m hTb (by omega)) (wm_cons (k_isSign_m hTb (by omega)) (wm_cons (k_rNext_m hTb (by omega)) (wm_cons (k_add_m hTb (by omega)) (wm_cons (k_holdsBack_m hTb (by omega)) (wm_cons (k_rOpens_m hTb (by omega)) wm_nil)))))))))
  obtain ⟨hR, hQ⟩ := h
  obtain ⟨hG, mp, ht⟩ := hR
  change mcP t n st ((k, ph, bg, pr, w) :: fs) 0 (o) (c) (p) at mp
  change tk t n p 2 v e at ht
  obtain ⟨mf, mo, mn, mpp, mrd, mq, mbd, mz1, mz2, mz3⟩ := mp
  rw [List.length_cons] at mz3
  have mq0 := mq
  obtain ⟨mfr, mwb, mcd⟩ := mq
  have mt := FR_top mfr
  have mb := FR_bnd _ _ _ mwb mfr
  rw [List.length_cons] at mb
  have ml := WB_hd mwb
  have mcl := mcd.1
  have mlw := FR_len mb.2.1 mfr
  have tf := r_num mrd (by rw [mpp]; exact ht)
  have g1 := g_codes hG
  have g2 := g_in hG
  have g3 := g_isClever hG
  have g4 := g_deep hG
  have g5 := g_open hG
  have g6 := g_opMany hG
  have g7 := g_signAt hG
  have g8 := g_signEnd hG
  have g9 := g_faultKind hG
  have g10 := g_size hG
  have g11 := g_sign hG
  have g12 := g_lexAt hG
  have g13 := g_value hG
  have g14 := g_word hG
  have g15 := g_operand hG
  refine yr1_ok (Rt := Q) (wc := (wcL [(181, k_rLex), (195, k_isTest), (183, k_isWord), (182, k_isSign), (149, k_rNext t n), (189, k_add), (192, k_holdsBack), (194, k_rOpens t n)])) (stp := []) hcm hcl [] 400 ?_
  show (170 = 170 ∧ (rq_rLex  st ∧ (((st 170 8 ≤ (0 : Int) → ((-2147483648 ≤ (st 170 42) - 1 ∧ (st 170 42) - 1 ≤ 2147483647) ∧ ((0 ≤ (st 170 42) - 1 ∧ (st 170 42) - 1 < 20) ∧ (∀ (r17 : Int), en_isTest (st 192 ((st 170 42) - 1 : Int).toNat) st r17 → ((r17 = (0 : Int) → (((0 : Int) = (0 : Int) → ((0 ≤ (st 170 42) - 1 ∧ (st 170 42) - 1 < 20) ∧ ((0 = (0 : Int) ∨ 0 = (1 : Int)) ∧ (((0 : Int) = (0 : Int) → (((0 : Int) = (0 : Int) → (170 = 170 ∧ (∀ (r18 : Int), en_isSign (40) (zup st 194 ((st 170 42) - 1 : Int).toNat 0) r18 → ((r18 = (0 : Int) → (170 = 170 ∧ (∀ (r19 : Int), en_isWord (7170414) (zup st 194 ((st 170 42) - 1 : Int).toNat 0) r19 → ((¬ r19 = (0 : Int) → _) ∧ (¬ (¬ r19 = (0 : Int)) → (170 = 170 ∧ (∀ (r20 : Int), en_isWord (7168376) (zup st 194 ((st 170 42) - 1 : Int).toNat 0) r20 → ((¬ r20 = (0 : Int) → _) ∧ (¬ (¬ r20 = (0 : Int)) → (170 = 170 ∧ (∀ (r21 : Int), en_isWord (26982) (zup st 194 ((st 170 42) - 1 : Int).toNat 0) r21 → ((r21 = (0 : Int) → ((¬ st 170 3 = (2 : Int) → _) ∧ (¬ (¬ st 170 3 = (2 : Int)) → (((0 : Int) < (3 : Int) → ((¬ (0 : Int) = ((-1) : Int) → ((st 170 8 ≤ (0 : Int) → (170 = 170 ∧ (rq_add (0) (st 170 6) (zup st 194 ((st 170 42) - 1 : Int).toNat 0) ∧ ((170 = 170 ∧ (rq_rNext t n  (zup (zup (zup (zup st 194 ((st 170 42) - 1 : Int).toNat 0) 188 ((1600 : Int) * (st 170 35) + (st 170 34) : Int).toNat (0)) 189 ((1600 : Int) * (st 170 35) + (st 170 34) : Int).toNat (st 170 6)) 170 34 ((st 170 34) + 1)) ∧ (∀ (s23 : zS), en_rNext t n  (zup (zup (zup (zup st 194 ((st 170 42) - 1 : Int).toNat 0) 188 ((1600 : Int) * (st 170 35) + (st 170 34) : Int).toNat (0)) 189 ((1600 : Int) * (st 170 35) + (st 170 34) : Int).toNat (st 170 6)) 170 34 ((st 170 34) + 1)) s23 → ((1 = (0 : Int) ∨ 1 = (1 : Int)) ∧ Q (some (.inl 1)) s23)))))))) ∧ (¬ (st 170 8 ≤ (0 : Int)) → _))) ∧ (¬ (¬ (0 : Int) = ((-1) : Int)) → _))) ∧ (¬ ((0 : Int) < (3 : Int)) → _))))) ∧ (¬ (r21 = (0 : Int)) → _))))))))))))) ∧ (¬ (r18 = (0 : Int)) → _))))) ∧ (¬ ((0 : Int) = (0 : Int)) → _))) ∧ (¬ ((0 : Int) = (0 : Int)) → _))))) ∧ (¬ ((0 : Int) = (0 : Int)) → _))) ∧ (¬ (r17 = (0 : Int)) → ((0 ≤ (st 170 42) - 1 ∧ (st 170 42) - 1 < 20) ∧ ((st 194 ((st 170 42) - 1 : Int).toNat = (0 : Int) → (((0 : Int) = (0 : Int) → ((0 ≤ (st 170 42) - 1 ∧ (st 170 42) - 1 < 20) ∧ ((0 = (0 : Int) ∨ 0 = (1 : Int)) ∧ (((0 : Int) = (0 : Int) → (((0 : Int) = (0 : Int) → (170 = 170 ∧ (∀ (r24 : Int), en_isSign (40) (zup st 194 ((st 170 42) - 1 : Int).toNat 0) r24 → ((r24 = (0 : Int) → (170 = 170 ∧ (∀ (r25 : Int), en_isWord (7170414) (zup st 194 ((st 170 42) - 1 : Int).toNat 0) r25 → ((¬ r25 = (0 : Int) → _) ∧ (¬ (¬ r25 = (0 : Int)) → (170 = 170 ∧ (∀ (r26 : Int), en_isWord (7168376) (zup st 194 ((st 170 42) - 1 : Int).toNat 0) r26 → ((¬ r26 = (0 : Int) → _) ∧ (¬ (¬ r26 = (0 : Int)) → (170 = 170 ∧ (∀ (r27 : Int), en_isWord (26982) (zup st 194 ((st 170 42) - 1 : Int).toNat 0) r27 → ((r27 = (0 : Int) → ((¬ st 170 3 = (2 : Int) → _) ∧ (¬ (¬ st 170 3 = (2 : Int)) → (((0 : Int) < (3 : Int) → ((¬ (0 : Int) = ((-1) : Int) → ((st 170 8 ≤ (0 : Int) → (170 = 170 ∧ (rq_add (0) (st 170 6) (zup st 194 ((st 170 42) - 1 : Int).toNat 0) ∧ ((170 = 170 ∧ (rq_rNext t n  (zup (zup (zup (zup st 194 ((st 170 42) - 1 : Int).toNat 0) 188 ((1600 : Int) * (st 170 35) + (st 170 34) : Int).toNat (0)) 189 ((1600 : Int) * (st 170 35) + (st 170 34) : Int).toNat (st 170 6)) 170 34 ((st 170 34) + 1)) ∧ (∀ (s29 : zS), en_rNext t n  (zup (zup (zup (zup st 194 ((st 170 42) - 1 : Int).toNat 0) 188 ((1600 : Int) * (st 170 35) + (st 170 34) : Int).toNat (0)) 189 ((1600 : Int) * (st 170 35) + (st 170 34) : Int).toNat (st 170 6)) 170 34 ((st 170 34) + 1)) s29 → ((1 = (0 : Int) ∨ 1 = (1 : Int)) ∧ Q (some (.inl 1)) s29)))))))) ∧ (¬ (st 170 8 ≤ (0 : Int)) → _))) ∧ (¬ (¬ (0 : Int) = ((-1) : Int)) → _))) ∧ (¬ ((0 : Int) < (3 : Int)) → _))))) ∧ (¬ (r27 = (0 : Int)) → _))))))))))))) ∧ (¬ (r24 = (0 : Int)) → _))))) ∧ (¬ ((0 : Int) = (0 : Int)) → _))) ∧ (¬ ((0 : Int) = (0 : Int)) → _))))) ∧ (¬ ((0 : Int) = (0 : Int)) → _))) ∧ (¬ (st 194 ((st 170 42) - 1 : Int).toNat = (0 : Int)) → (((1 : Int) = (0 : Int) → _) ∧ (¬ ((1 : Int) = (0 : Int)) → (170 = 170 ∧ (∀ (r30 : Int), en_isWord (7237492) st r30 → ((r30 = (0 : Int) → ((0 ≤ (st 170 42) - 1 ∧ (st 170 42) - 1 < 20) ∧ ((0 = (0 : Int) ∨ 0 = (1 : Int)) ∧ (((1 : Int) = (0 : Int) → _) ∧ (¬ ((1 : Int) = (0 : Int)) → (170 = 170 ∧ (∀ (r31 : Int), en_isSign (91) (zup st 194 ((st 170 42) - 1 : Int).toNat 0) r31 → ((r31 = (0 : Int) → (((1 : Int) = (0 : Int) → _) ∧ (¬ ((1 : Int) = (0 : Int)) → (170 = 170 ∧ (∀ (r32 : Int), en_isWord (6384748) (zup st 194 ((st 170 42) - 1 : Int).toNat 0) r32 → ((r32 = (0 : Int) → (170 = 170 ∧ (∀ (r33 : Int), en_isSign (40) (zup st 194 ((st 170 42) - 1 : Int).toNat 0) r33 → ((r33 = (0 : Int) → (170 = 170 ∧ (∀ (r34 : Int), en_isWord (7170414) (zup st 194 ((st 170 42) - 1 : Int).toNat 0) r34 → ((¬ r34 = (0 : Int) → _) ∧ (¬ (¬ r34 = (0 : Int)) → (170 = 170 ∧ (∀ (r35 : Int), en_isWord (7168376) (zup st 194 ((st 170 42) - 1 : Int).toNat 0) r35 → ((¬ r35 = (0 : Int) → _) ∧ (¬ (¬ r35 = (0 : Int)) → (170 = 170 ∧ (∀ (r36 : Int), en_isWord (26982) (zup st 194 ((st 170 42) - 1 : Int).toNat 0) r36 → ((r36 = (0 : Int) → ((¬ st 170 3 = (2 : Int) → _) ∧ (¬ (¬ st 170 3 = (2 : Int)) → (((0 : Int) < (3 : Int) → ((¬ (0 : Int) = ((-1) : Int) → ((st 170 8 ≤ (0 : Int) → (170 = 170 ∧ (rq_add (0) (st 170 6) (zup st 194 ((st 170 42) - 1 : Int).toNat 0) ∧ ((170 = 170 ∧ (rq_rNext t n  (zup (zup (zup (zup st 194 ((st 170 42) - 1 : Int).toNat 0) 188 ((1600 : Int) * (st 170 35) + (st 170 34) : Int).toNat (0)) 189 ((1600 : Int) * (st 170 35) + (st 170 34) : Int).toNat (st 170 6)) 170 34 ((st 170 34) + 1)) ∧ (∀ (s38 : zS), en_rNext t n  (zup (zup (zup (zup st 194 ((st 170 42) - 1 : Int).toNat 0) 188 ((1600 : Int) * (st 170 35) + (st 170 34) : Int).toNat (0)) 189 ((1600 : Int) * (st 170 35) + (st 170 34) : Int).toNat (st 170 6)) 170 34 ((st 170 34) + 1)) s38 → ((1 = (0 : Int) ∨ 1 = (1 : Int)) ∧ Q (some (.inl 1)) s38)))))))) ∧ (¬ (st 170 8 ≤ (0 : Int)) → _))) ∧ (¬ (¬ (0 : Int) = ((-1) : Int)) → _))) ∧ (¬ ((0 : Int) < (3 : Int)) → _))))) ∧ (¬ (r36 = (0 : Int)) → _))))))))))))) ∧ (¬ (r33 = (0 : Int)) → _))))) ∧ (¬ (r32 = (0 : Int)) → _))))))) ∧ (¬ (r31 = (0 : Int)) → _))))))))) ∧ (¬ (r30 = (0 : Int)) → _))))))))))))))) ∧ (¬ (st 170 8 ≤ (0 : Int)) → _)))))
  refine ⟨rfl, ⟨hG, (show st 170 12 = -1 from by omega)⟩, ?_⟩
  refine ⟨fun h39 => ?_, fun h39 => (by exfalso; omega)⟩
  refine ⟨by omega, ?_⟩
  have g40 := g_frame hG ((st 170 42) - 1 : Int).toNat
  refine ⟨by omega, ?_⟩
  refine fun r17 q17 => ?_
  have b17 := q17
  change (r17 = 0 ∨ r17 = 1) ∧ (r17 = 1 ↔ (st 192 ((st 170 42) - 1 : Int).toNat) = 1 ∨ (st 192 ((st 170 42) - 1 : Int).toNat) = 5 ∨ (st 192 ((st 170 42) - 1 : Int).toNat) = 6) at b17
  refine ⟨fun h41 => ?_, fun h41 => ?_⟩
  · refine ⟨fun h42 => ?_, fun h42 => absurd (by decide) h42⟩
    refine ⟨by omega, ?_⟩
    refine ⟨by omega, ?_⟩
    refine ⟨fun h43 => ?_, fun h43 => absurd (by decide) h43⟩
    refine ⟨fun h44 => ?_, fun h44 => absurd (by decide) h44⟩
    refine ⟨rfl, fun r18 q18 => ?_⟩
    have b18 := q18
    change (r18 = 0 ∨ r18 = 1) ∧ (r18 = 1 ↔ st 170 3 = 3 ∧ st 170 6 = (40)) at b18
    refine ⟨fun h45 => ?_, fun h45 => (by exfalso; clear hQ; omega)⟩
    clear h45 b18
    refine ⟨rfl, fun r19 q19 => ?_⟩
    have b19 := q19
    change (r19 = 0 ∨ r19 = 1) ∧ (r19 = 1 ↔ st 170 3 = 1 ∧ st 170 7 = (7170414)) at b19
    refine ⟨fun h46 => (by exfalso; clear hQ; omega), fun h46 => ?_⟩
    clear h46 b19
    refine ⟨rfl, fun r20 q20 => ?_⟩
    have b20 := q20
    change (r20 = 0 ∨ r20 = 1) ∧ (r20 = 1 ↔ st 170 3 = 1 ∧ st 170 7 = (7168376)) at b20
    refine ⟨fun h47 => (by exfalso; clear hQ; omega), fun h47 => ?_⟩
    clear h47 b20
    refine ⟨rfl, fun r21 q21 => ?_⟩
    have b21 := q21
    change (r21 = 0 ∨ r21 = 1) ∧ (r21 = 1 ↔ st 170 3 = 1 ∧ st 170 7 = (26982)) at b21
    refine ⟨fun h48 => ?_, fun h48 => (by exfalso; clear hQ; omega)⟩
    clear h48 b21
    refine ⟨fun h49 => (by exfalso; omega), fun h49 => ?_⟩
    refine ⟨fun h50 => ?_, fun h50 => absurd (by decide) h50⟩
    refine ⟨fun h51 => ?_, fun h51 => absurd (by decide) h51⟩
    refine ⟨fun h52 => ?_, fun h52 => (by exfalso; omega)⟩
    refine ⟨rfl, ⟨(gInv_up hG (p_begins (by omega))), (show st 170 34 ≤ 1599 from by omega)⟩, ?_⟩
    refine ⟨rfl, ⟨(gInv_up (gInv_up (gInv_up (gInv_up hG (p_begins (by omega))) (p_codeSort (by omega))) (p_codeValue (by omega))) (p_codes (by omega))), (show RDr (zup (zup (zup (zup st 194 ((st 170 42) - 1 : Int).toNat 0) 188 ((1600 : Int) * (st 170 35) + (st 170 34) : Int).toNat (0)) 189 ((1600 : Int) * (st 170 35) + (st 170 34) : Int).toNat (st 170 6)) 170 34 ((st 170 34) + 1)) t n from (show RDr (zup (zup (zup (zup st 194 ((st 170 42) - 1 : Int).toNat 0) 188 ((1600 : Int) * (st 170 35) + (st 170 34) : Int).toNat (0)) 189 ((1600 : Int) * (st 170 35) + (st 170 34) : Int).toNat (st 170 6)) 170 34 ((st 170 34) + 1)) t n from mrd)), (show st 170 12 = -1 from by omega)⟩, fun s23 q23 => ?_⟩
    obtain ⟨gs23, fs23, rd23, nx23⟩ := q23
    change RDr s23 t n at rd23
    change NXr (zup (zup (zup (zup st 194 ((st 170 42) - 1 : Int).toNat 0) 188 ((1600 : Int) * (st 170 35) + (st 170 34) : Int).toNat (0)) 189 ((1600 : Int) * (st 170 35) + (st 170 34) : Int).toNat (st 170 6)) 170 34 ((st 170 34) + 1)) s23 t n at nx23
    refine ⟨by omega, ?_⟩
    have e53 : s23 170 8 = st 170 8 := fs23 170 8 rfl rfl
    have e54 : s23 170 46 = st 170 46 := fs23 170 46 rfl rfl
    have e55 : s23 170 43 = st 170 43 := fs23 170 43 rfl rfl
    have e56 : s23 170 34 = ((st 170 34) + 1) := fs23 170 34 rfl rfl
    have e57 : s23 170 45 = st 170 45 := fs23 170 45 rfl rfl
    have e58 : s23 170 42 = st 170 42 := fs23 170 42 rfl rfl
    exact hQ _ _ ⟨gs23, (fr_tr (fr_f (fr_a (fr_a (fr_a (fr_rf _ _) rfl) rfl) rfl) rfl) fs23 rfl), (Z9_tr (Z9_up (Z9_st (Z9_up (Z9_up (Z9_rf _) (by decide)) (by decide)) (b := st 170 35) rfl (by omega)) (by decide)) ((show aFr m_rOp6 st (zup (zup (zup (zup st 194 ((st 170 42) - 1 : Int).toNat 0) 188 ((1600 : Int) * (st 170 35) + (st 170 34) : Int).toNat (0)) 189 ((1600 : Int) * (st 170 35) + (st 170 34) : Int).toNat (st 170 6)) 170 34 ((st 170 34) + 1)) from (fr_f (fr_a (fr_a (fr_a (fr_rf _ _) rfl) rfl) rfl) rfl)) 170 35 rfl rfl) (Z9_fr fs23 (fun _ => rfl) rfl)), (show (1 : Int) = 1 ∧ mcP t n s23 ((k, ph, 0, pr, w) :: fs) 0 (o) (c ++ [64 * v]) (e) from (by
            have hp : s23 170 4 = e := NXr_e (st := (zup (zup (zup (zup st 194 ((st 170 42) - 1 : Int).toNat 0) 188 ((1600 : Int) * (st 170 35) + (st 170 34) : Int).toNat (0)) 189 ((1600 : Int) * (st 170 35) + (st 170 34) : Int).toNat (st 170 6)) 170 34 ((st 170 34) + 1))) (show NXr (zup (zup (zup (zup st 194 ((st 170 42) - 1 : Int).toNat 0) 188 ((1600 : Int) * (st 170 35) + (st 170 34) : Int).toNat (0)) 189 ((1600 : Int) * (st 170 35) + (st 170 34) : Int).toNat (st 170 6)) 170 34 ((st 170 34) + 1)) s23 t n from nx23) (show tk t n ((zup (zup (zup (zup st 194 ((st 170 42) - 1 : Int).toNat 0) 188 ((1600 : Int) * (st 170 35) + (st 170 34) : Int).toNat (0)) 189 ((1600 : Int) * (st 170 35) + (st 170 34) : Int).toNat (st 170 6)) 170 34 ((st 170 34) + 1)) 170 4) _ _ e from by rw [show (zup (zup (zup (zup st 194 ((st 170 42) - 1 : Int).toNat 0) 188 ((1600 : Int) * (st 170 35) + (st 170 34) : Int).toNat (0)) 189 ((1600 : Int) * (st 170 35) + (st 170 34) : Int).toNat (st 170 6)) 170 34 ((st 170 34) + 1)) 170 4 = p from mpp]; exact ht) (by omega)
            have hl := tk_lt ht (show 0 ≤ p from by rw [← mpp]; exact mrd.2.1.1) (by omega)
            exact ⟨rfl, ⟨by omega, by omega, by omega, hp, rd23, mcQ_of (fun i => fs23 192 i rfl rfl) (fun i => fs23 193 i rfl rfl) (fun i => fs23 194 i rfl rfl) (fun i => fs23 195 i rfl rfl) (fun i => fs23 196 i rfl rfl) (fun i => fs23 197 i rfl rfl) (fs23 170 42 rfl rfl) (fs23 170 45 rfl rfl) (fs23 170 35 rfl rfl) (fs23 170 34 rfl rfl) (fun i => fs23 188 i rfl rfl) (fun i => fs23 189 i rfl rfl) (show mcQ (zup (zup (zup (zup st 194 ((st 170 42) - 1 : Int).toNat 0) 188 ((1600 : Int) * (st 170 35) + (st 170 34) : Int).toNat (0)) 189 ((1600 : Int) * (st 170 35) + (st 170 34) : Int).toNat (st 170 6)) 170 34 ((st 170 34) + 1)) ((k, ph, 0, pr, w) :: fs) (c ++ [64 * v]) from ⟨FR_bg 0 mb.2.1 mfr, WB_c ml (WB_el mwb) (WB_tl mwb), CDr_add (b := st 170 35) (n := st 170 34) (by omega) mcd (by omega) (fun h => by omega)⟩), by omega, by omega, by omega, by rw [List.length_cons]; omega⟩⟩))⟩
  · have g59 := g_begins hG ((st 170 42) - 1 : Int).toNat
    refine ⟨by omega, ?_⟩
    refine ⟨fun h60 => ?_, fun h60 => ?_⟩
    · refine ⟨fun h61 => ?_, fun h61 => absurd (by decide) h61⟩
      refine ⟨by omega, ?_⟩
      refine ⟨by omega, ?_⟩
      refine ⟨fun h62 => ?_, fun h62 => absurd (by decide) h62⟩
      refine ⟨fun h63 => ?_, fun h63 => absurd (by decide) h63⟩
      refine ⟨rfl, fun r24 q24 => ?_⟩
      have b24 := q24
      change (r24 = 0 ∨ r24 = 1) ∧ (r24 = 1 ↔ st 170 3 = 3 ∧ st 170 6 = (40)) at b24
      refine ⟨fun h64 => ?_, fun h64 => (by exfalso; clear hQ; omega)⟩
      clear h64 b24
      refine ⟨rfl, fun r25 q25 => ?_⟩
      have b25 := q25
      change (r25 = 0 ∨ r25 = 1) ∧ (r25 = 1 ↔ st 170 3 = 1 ∧ st 170 7 = (7170414)) at b25
      refine ⟨fun h65 => (by exfalso; clear hQ; omega), fun h65 => ?_⟩
      clear h65 b25
      refine ⟨rfl, fun r26 q26 => ?_⟩
      have b26 := q26
      change (r26 = 0 ∨ r26 = 1) ∧ (r26 = 1 ↔ st 170 3 = 1 ∧ st 170 7 = (7168376)) at b26
      refine ⟨fun h66 => (by exfalso; clear hQ; omega), fun h66 => ?_⟩
      clear h66 b26
      refine ⟨rfl, fun r27 q27 => ?_⟩
      have b27 := q27
      change (r27 = 0 ∨ r27 = 1) ∧ (r27 = 1 ↔ st 170 3 = 1 ∧ st 170 7 = (26982)) at b27
      refine ⟨fun h67 => ?_, fun h67 => (by exfalso; clear hQ; omega)⟩
      clear h67 b27
      refine ⟨fun h68 => (by exfalso; omega), fun h68 => ?_⟩
      refine ⟨fun h69 => ?_, fun h69 => absurd (by decide) h69⟩
      refine ⟨fun h70 => ?_, fun h70 => absurd (by decide) h70⟩
      refine ⟨fun h71 => ?_, fun h71 => (by exfalso; omega)⟩
      refine ⟨rfl, ⟨(gInv_up hG (p_begins (by omega))), (show st 170 34 ≤ 1599 from by omega)⟩, ?_⟩
      refine ⟨rfl, ⟨(gInv_up (gInv_up (gInv_up (gInv_up hG (p_begins (by omega))) (p_codeSort (by omega))) (p_codeValue (by omega))) (p_codes (by omega))), (show RDr (zup (zup (zup (zup st 194 ((st 170 42) - 1 : Int).toNat 0) 188 ((1600 : Int) * (st 170 35) + (st 170 34) : Int).toNat (0)) 189 ((1600 : Int) * (st 170 35) + (st 170 34) : Int).toNat (st 170 6)) 170 34 ((st 170 34) + 1)) t n from (show RDr (zup (zup (zup (zup st 194 ((st 170 42) - 1 : Int).toNat 0) 188 ((1600 : Int) * (st 170 35) + (st 170 34) : Int).toNat (0)) 189 ((1600 : Int) * (st 170 35) + (st 170 34) : Int).toNat (st 170 6)) 170 34 ((st 170 34) + 1)) t n from mrd)), (show st 170 12 = -1 from by omega)⟩, fun s29 q29 => ?_⟩
      obtain ⟨gs29, fs29, rd29, nx29⟩ := q29
      change RDr s29 t n at rd29
      change NXr (zup (zup (zup (zup st 194 ((st 170 42) - 1 : Int).toNat 0) 188 ((1600 : Int) * (st 170 35) + (st 170 34) : Int).toNat (0)) 189 ((1600 : Int) * (st 170 35) + (st 170 34) : Int).toNat (st 170 6)) 170 34 ((st 170 34) + 1)) s29 t n at nx29
      refine ⟨by omega, ?_⟩
      have e72 : s29 170 8 = st 170 8 := fs29 170 8 rfl rfl
      have e73 : s29 170 46 = st 170 46 := fs29 170 46 rfl rfl
      have e74 : s29 170 43 = st 170 43 := fs29 170 43 rfl rfl
      have e75 : s29 170 34 = ((st 170 34) + 1) := fs29 170 34 rfl rfl
      have e76 : s29 170 45 = st 170 45 := fs29 170 45 rfl rfl
      have e77 : s29 170 42 = st 170 42 := fs29 170 42 rfl rfl
      exact hQ _ _ ⟨gs29, (fr_tr (fr_f (fr_a (fr_a (fr_a (fr_rf _ _) rfl) rfl) rfl) rfl) fs29 rfl), (Z9_tr (Z9_up (Z9_st (Z9_up (Z9_up (Z9_rf _) (by decide)) (by decide)) (b := st 170 35) rfl (by omega)) (by decide)) ((show aFr m_rOp6 st (zup (zup (zup (zup st 194 ((st 170 42) - 1 : Int).toNat 0) 188 ((1600 : Int) * (st 170 35) + (st 170 34) : Int).toNat (0)) 189 ((1600 : Int) * (st 170 35) + (st 170 34) : Int).toNat (st 170 6)) 170 34 ((st 170 34) + 1)) from (fr_f (fr_a (fr_a (fr_a (fr_rf _ _) rfl) rfl) rfl) rfl)) 170 35 rfl rfl) (Z9_fr fs29 (fun _ => rfl) rfl)), (show (1 : Int) = 1 ∧ mcP t n s29 ((k, ph, 0, pr, w) :: fs) 0 (o) (c ++ [64 * v]) (e) from (by
            have hp : s29 170 4 = e := NXr_e (st := (zup (zup (zup (zup st 194 ((st 170 42) - 1 : Int).toNat 0) 188 ((1600 : Int) * (st 170 35) + (st 170 34) : Int).toNat (0)) 189 ((1600 : Int) * (st 170 35) + (st 170 34) : Int).toNat (st 170 6)) 170 34 ((st 170 34) + 1))) (show NXr (zup (zup (zup (zup st 194 ((st 170 42) - 1 : Int).toNat 0) 188 ((1600 : Int) * (st 170 35) + (st 170 34) : Int).toNat (0)) 189 ((1600 : Int) * (st 170 35) + (st 170 34) : Int).toNat (st 170 6)) 170 34 ((st 170 34) + 1)) s29 t n from nx29) (show tk t n ((zup (zup (zup (zup st 194 ((st 170 42) - 1 : Int).toNat 0) 188 ((1600 : Int) * (st 170 35) + (st 170 34) : Int).toNat (0)) 189 ((1600 : Int) * (st 170 35) + (st 170 34) : Int).toNat (st 170 6)) 170 34 ((st 170 34) + 1)) 170 4) _ _ e from by rw [show (zup (zup (zup (zup st 194 ((st 170 42) - 1 : Int).toNat 0) 188 ((1600 : Int) * (st 170 35) + (st 170 34) : Int).toNat (0)) 189 ((1600 : Int) * (st 170 35) + (st 170 34) : Int).toNat (st 170 6)) 170 34 ((st 170 34) + 1)) 170 4 = p from mpp]; exact ht) (by omega)
            have hl := tk_lt ht (show 0 ≤ p from by rw [← mpp]; exact mrd.2.1.1) (by omega)
            exact ⟨rfl, ⟨by omega, by omega, by omega, hp, rd29, mcQ_of (fun i => fs29 192 i rfl rfl) (fun i => fs29 193 i rfl rfl) (fun i => fs29 194 i rfl rfl) (fun i => fs29 195 i rfl rfl) (fun i => fs29 196 i rfl rfl) (fun i => fs29 197 i rfl rfl) (fs29 170 42 rfl rfl) (fs29 170 45 rfl rfl) (fs29 170 35 rfl rfl) (fs29 170 34 rfl rfl) (fun i => fs29 188 i rfl rfl) (fun i => fs29 189 i rfl rfl) (show mcQ (zup (zup (zup (zup st 194 ((st 170 42) - 1 : Int).toNat 0) 188 ((1600 : Int) * (st 170 35) + (st 170 34) : Int).toNat (0)) 189 ((1600 : Int) * (st 170 35) + (st 170 34) : Int).toNat (st 170 6)) 170 34 ((st 170 34) + 1)) ((k, ph, 0, pr, w) :: fs) (c ++ [64 * v]) from ⟨FR_bg 0 mb.2.1 mfr, WB_c ml (WB_el mwb) (WB_tl mwb), CDr_add (b := st 170 35) (n := st 170 34) (by omega) mcd (by omega) (fun h => by omega)⟩), by omega, by omega, by omega, by rw [List.length_cons]; omega⟩⟩))⟩
    · refine ⟨fun h78 => absurd h78 (by decide), fun h78 => ?_⟩
      refine ⟨rfl, fun r30 q30 => ?_⟩
      have b30 := q30
      change (r30 = 0 ∨ r30 = 1) ∧ (r30 = 1 ↔ st 170 3 = 1 ∧ st 170 7 = (7237492)) at b30
      refine ⟨fun h79 => ?_, fun h79 => (by exfalso; clear hQ; omega)⟩
      clear h79 b30
      refine ⟨by omega, ?_⟩
      refine ⟨by omega, ?_⟩
      refine ⟨fun h80 => absurd h80 (by decide), fun h80 => ?_⟩
      refine ⟨rfl, fun r31 q31 => ?_⟩
      have b31 := q31
      change (r31 = 0 ∨ r31 = 1) ∧ (r31 = 1 ↔ st 170 3 = 3 ∧ st 170 6 = (91)) at b31
      refine ⟨fun h81 => ?_, fun h81 => (by exfalso; clear hQ; omega)⟩
      clear h81 b31
      refine ⟨fun h82 => absurd h82 (by decide), fun h82 => ?_⟩
      refine ⟨rfl, fun r32 q32 => ?_⟩
      have b32 := q32
      change (r32 = 0 ∨ r32 = 1) ∧ (r32 = 1 ↔ st 170 3 = 1 ∧ st 170 7 = (6384748)) at b32
      refine ⟨fun h83 => ?_, fun h83 => (by exfalso; clear hQ; omega)⟩
      clear h83 b32
      refine ⟨rfl, fun r33 q33 => ?_⟩
      have b33 := q33
      change (r33 = 0 ∨ r33 = 1) ∧ (r33 = 1 ↔ st 170 3 = 3 ∧ st 170 6 = (40)) at b33
      refine ⟨fun h84 => ?_, fun h84 => (by exfalso; clear hQ; omega)⟩
      clear h84 b33
      refine ⟨rfl, fun r34 q34 => ?_⟩
      have b34 := q34
      change (r34 = 0 ∨ r34 = 1) ∧ (r34 = 1 ↔ st 170 3 = 1 ∧ st 170 7 = (7170414)) at b34
      refine ⟨fun h85 => (by exfalso; clear hQ; omega), fun h85 => ?_⟩
      clear h85 b34
      refine ⟨rfl, fun r35 q35 => ?_⟩
      have b35 := q35
      change (r35 = 0 ∨ r35 = 1) ∧ (r35 = 1 ↔ st 170 3 = 1 ∧ st 170 7 = (7168376)) at b35
      refine ⟨fun h86 => (by exfalso; clear hQ; omega), fun h86 => ?_⟩
      clear h86 b35
      refine ⟨rfl, fun r36 q36 => ?_⟩
      have b36 := q36
      change (r36 = 0 ∨ r36 = 1) ∧ (r36 = 1 ↔ st 170 3 = 1 ∧ st 170 7 = (26982)) at b36
      refine ⟨fun h87 => ?_, fun h87 => (by exfalso; clear hQ; omega)⟩
      clear h87 b36
      refine ⟨fun h88 => (by exfalso; omega), fun h88 => ?_⟩
      refine ⟨fun h89 => ?_, fun h89 => absurd (by decide) h89⟩
      refine ⟨fun h90 => ?_, fun h90 => absurd (by decide) h90⟩
      refine ⟨fun h91 => ?_, fun h91 => (by exfalso; omega)⟩
      refine ⟨rfl, ⟨(gInv_up hG (p_begins (by omega))), (show st 170 34 ≤ 1599 from by omega)⟩, ?_⟩
      refine ⟨rfl, ⟨(gInv_up (gInv_up (gInv_up (gInv_up hG (p_begins (by omega))) (p_codeSort (by omega))) (p_codeValue (by omega))) (p_codes (by omega))), (show RDr (zup (zup (zup (zup st 194 ((st 170 42) - 1 : Int).toNat 0) 188 ((1600 : Int) * (st 170 35) + (st 170 34) : Int).toNat (0)) 189 ((1600 : Int) * (st 170 35) + (st 170 34) : Int).toNat (st 170 6)) 170 34 ((st 170 34) + 1)) t n from (show RDr (zup (zup (zup (zup st 194 ((st 170 42) - 1 : Int).toNat 0) 188 ((1600 : Int) * (st 170 35) + (st 170 34) : Int).toNat (0)) 189 ((1600 : Int) * (st 170 35) + (st 170 34) : Int).toNat (st 170 6)) 170 34 ((st 170 34) + 1)) t n from mrd)), (show st 170 12 = -1 from by omega)⟩, fun s38 q38 => ?_⟩
      obtain ⟨gs38, fs38, rd38, nx38⟩ := q38
      change RDr s38 t n at rd38
      change NXr (zup (zup (zup (zup st 194 ((st 170 42) - 1 : Int).toNat 0) 188 ((1600 : Int) * (st 170 35) + (st 170 34) : Int).toNat (0)) 189 ((1600 : Int) * (st 170 35) + (st 170 34) : Int).toNat (st 170 6)) 170 34 ((st 170 34) + 1)) s38 t n at nx38
      refine ⟨by omega, ?_⟩
      have e92 : s38 170 8 = st 170 8 := fs38 170 8 rfl rfl
      have e93 : s38 170 46 = st 170 46 := fs38 170 46 rfl rfl
      have e94 : s38 170 43 = st 170 43 := fs38 170 43 rfl rfl
      have e95 : s38 170 34 = ((st 170 34) + 1) := fs38 170 34 rfl rfl
      have e96 : s38 170 45 = st 170 45 := fs38 170 45 rfl rfl
      have e97 : s38 170 42 = st 170 42 := fs38 170 42 rfl rfl
      exact hQ _ _ ⟨gs38, (fr_tr (fr_f (fr_a (fr_a (fr_a (fr_rf _ _) rfl) rfl) rfl) rfl) fs38 rfl), (Z9_tr (Z9_up (Z9_st (Z9_up (Z9_up (Z9_rf _) (by decide)) (by decide)) (b := st 170 35) rfl (by omega)) (by decide)) ((show aFr m_rOp6 st (zup (zup (zup (zup st 194 ((st 170 42) - 1 : Int).toNat 0) 188 ((1600 : Int) * (st 170 35) + (st 170 34) : Int).toNat (0)) 189 ((1600 : Int) * (st 170 35) + (st 170 34) : Int).toNat (st 170 6)) 170 34 ((st 170 34) + 1)) from (fr_f (fr_a (fr_a (fr_a (fr_rf _ _) rfl) rfl) rfl) rfl)) 170 35 rfl rfl) (Z9_fr fs38 (fun _ => rfl) rfl)), (show (1 : Int) = 1 ∧ mcP t n s38 ((k, ph, 0, pr, w) :: fs) 0 (o) (c ++ [64 * v]) (e) from (by
            have hp : s38 170 4 = e := NXr_e (st := (zup (zup (zup (zup st 194 ((st 170 42) - 1 : Int).toNat 0) 188 ((1600 : Int) * (st 170 35) + (st 170 34) : Int).toNat (0)) 189 ((1600 : Int) * (st 170 35) + (st 170 34) : Int).toNat (st 170 6)) 170 34 ((st 170 34) + 1))) (show NXr (zup (zup (zup (zup st 194 ((st 170 42) - 1 : Int).toNat 0) 188 ((1600 : Int) * (st 170 35) + (st 170 34) : Int).toNat (0)) 189 ((1600 : Int) * (st 170 35) + (st 170 34) : Int).toNat (st 170 6)) 170 34 ((st 170 34) + 1)) s38 t n from nx38) (show tk t n ((zup (zup (zup (zup st 194 ((st 170 42) - 1 : Int).toNat 0) 188 ((1600 : Int) * (st 170 35) + (st 170 34) : Int).toNat (0)) 189 ((1600 : Int) * (st 170 35) + (st 170 34) : Int).toNat (st 170 6)) 170 34 ((st 170 34) + 1)) 170 4) _ _ e from by rw [show (zup (zup (zup (zup st 194 ((st 170 42) - 1 : Int).toNat 0) 188 ((1600 : Int) * (st 170 35) + (st 170 34) : Int).toNat (0)) 189 ((1600 : Int) * (st 170 35) + (st 170 34) : Int).toNat (st 170 6)) 170 34 ((st 170 34) + 1)) 170 4 = p from mpp]; exact ht) (by omega)
            have hl := tk_lt ht (show 0 ≤ p from by rw [← mpp]; exact mrd.2.1.1) (by omega)
            exact ⟨rfl, ⟨by omega, by omega, by omega, hp, rd38, mcQ_of (fun i => fs38 192 i rfl rfl) (fun i => fs38 193 i rfl rfl) (fun i => fs38 194 i rfl rfl) (fun i => fs38 195 i rfl rfl) (fun i => fs38 196 i rfl rfl) (fun i => fs38 197 i rfl rfl) (fs38 170 42 rfl rfl) (fs38 170 45 rfl rfl) (fs38 170 35 rfl rfl) (fs38 170 34 rfl rfl) (fun i => fs38 188 i rfl rfl) (fun i => fs38 189 i rfl rfl) (show mcQ (zup (zup (zup (zup st 194 ((st 170 42) - 1 : Int).toNat 0) 188 ((1600 : Int) * (st 170 35) + (st 170 34) : Int).toNat (0)) 189 ((1600 : Int) * (st 170 35) + (st 170 34) : Int).toNat (st 170 6)) 170 34 ((st 170 34) + 1)) ((k, ph, 0, pr, w) :: fs) (c ++ [64 * v]) from ⟨FR_bg 0 mb.2.1 mfr, WB_c ml (WB_el mwb) (WB_tl mwb), CDr_add (b := st 170 35) (n := st 170 34) (by omega) mcd (by omega) (fun h => by omega)⟩), by omega, by omega, by omega, by rw [List.length_cons]; omega⟩⟩))⟩
theorem k_rOp6_m (hTb : aTb zSh rx_tb cl) {t : Int → Int} {n k ph bg pr o p e : Int} {w c : List Int} {fs : List mFr} {v : Int} {D : Nat} (hD : 4 ≤ D) : ∀ as st (Q Q' : zQ), (∀ r st', Q r st' → Q' r st') → (k_rOp6 t n k ph bg pr o p e w c fs v) 196 as st Q → cl D 196 as st Q' := by
  intro as st Q Q' hQ h
  unfold k_rOp6 at h
  split at h
  · obtain ⟨rfl, h⟩ := h
    exact c_rOp6 hTb hD (ct_rOp6_m hQ h)
  · exact h.elim
set_option maxHeartbeats 4000000 in
set_option maxRecDepth 100000 in
theorem c_rOp71 (hTb : aTb zSh rx_tb cl) {t : Int → Int} {n k ph bg pr o p e : Int} {w c : List Int} {fs : List mFr} {D : Nat} (hD : 4 ≤ D) {st : zS} {Q : zQ} (h : ct_rOp71 t n k ph bg pr o p e w c fs st Q) : cl D 196 [.inr (.inr (.inl 170))] st Q := by
  obtain ⟨d, rfl⟩ : ∃ d, D = d + 1 := ⟨D - 1, by omega⟩
  refine hTb d 196 (rx_m196, 4, 0, 0, 2) rfl _ _ _ (Nat.le_of_ble_eq_true rfl) (fun K hcl hsf hsl => ?_)
  have hcm : zmo (wcL [(181, k_rLex), (195, k_isTest), (183, k_isWord), (182, k_isSign), (149, k_rNext t n), (189, k_add), (192, k_holdsBack), (194, k_rOpens t n)]) (cl d) := (wcL_m (wm_cons (k_rLex_m hTb (by omega)) (wm_cons (k_isTest_m hTb (by omega)) (wm_cons (k_isWord_m hTb (by omega)) (wm_cons (k_isSign_m hTb (by omega)) (wm_cons (k_rNext_m hTb (by omega)) (wm_cons (k_add_m hTb (by omega)) (wm_cons (k_holdsBack_m hTb (by omega)) (wm_cons (k_rOpens_m hTb (by omega)) wm_nil)))))))))
  obtain ⟨hR, hQ⟩ := h
  obtain ⟨hG, mp, ht⟩ := hR
  change mcP t n st ((k, ph, bg, pr, w) :: fs) 0 (o) (c) (p) at mp
  change tk t n p 1 1751474548 e ∧ True at ht
  obtain ⟨mf, mo, mn, mpp, mrd, mq, mbd, mz1, mz2, mz3⟩ := mp
  rw [List.length_cons] at mz3
  have mq0 := mq
  obtain ⟨mfr, mwb, mcd⟩ := mq
  have mt := FR_top mfr
  have mb := FR_bnd _ _ _ mwb mfr
  rw [List.length_cons] at mb
  have ml := WB_hd mwb
  have mcl := mcd.1
  have mlw := FR_len mb.2.1 mfr
  have tf := r_wrd mrd (by rw [mpp]; exact ht.1)
  have g1 := g_codes hG
  have g2 := g_in hG
  have g3 := g_isClever hG
  have g4 := g_deep hG
  have g5 := g_open hG
  have g6 := g_opMany hG
  have g7 := g_signAt hG
  have g8 := g_signEnd hG
  have g9 := g_faultKind hG
  have g10 := g_size hG
  have g11 := g_sign hG
  have g12 := g_lexAt hG
  have g13 := g_value hG
  have g14 := g_word hG
  have g15 := g_operand hG
  refine yr1_ok (Rt := Q) (wc := (wcL [(181, k_rLex), (195, k_isTest), (183, k_isWord), (182, k_isSign), (149, k_rNext t n), (189, k_add), (192, k_holdsBack), (194, k_rOpens t n)])) (stp := []) hcm hcl [] 400 ?_
  show (170 = 170 ∧ (rq_rLex  st ∧ (((st 170 8 ≤ (0 : Int) → ((-2147483648 ≤ (st 170 42) - 1 ∧ (st 170 42) - 1 ≤ 2147483647) ∧ ((0 ≤ (st 170 42) - 1 ∧ (st 170 42) - 1 < 20) ∧ (∀ (r17 : Int), en_isTest (st 192 ((st 170 42) - 1 : Int).toNat) st r17 → ((r17 = (0 : Int) → (((0 : Int) = (0 : Int) → ((0 ≤ (st 170 42) - 1 ∧ (st 170 42) - 1 < 20) ∧ ((0 = (0 : Int) ∨ 0 = (1 : Int)) ∧ (((0 : Int) = (0 : Int) → (((0 : Int) = (0 : Int) → (170 = 170 ∧ (∀ (r18 : Int), en_isSign (40) (zup st 194 ((st 170 42) - 1 : Int).toNat 0) r18 → ((r18 = (0 : Int) → (170 = 170 ∧ (∀ (r19 : Int), en_isWord (7170414) (zup st 194 ((st 170 42) - 1 : Int).toNat 0) r19 → ((¬ r19 = (0 : Int) → _) ∧ (¬ (¬ r19 = (0 : Int)) → (170 = 170 ∧ (∀ (r20 : Int), en_isWord (7168376) (zup st 194 ((st 170 42) - 1 : Int).toNat 0) r20 → ((¬ r20 = (0 : Int) → _) ∧ (¬ (¬ r20 = (0 : Int)) → (170 = 170 ∧ (∀ (r21 : Int), en_isWord (26982) (zup st 194 ((st 170 42) - 1 : Int).toNat 0) r21 → ((r21 = (0 : Int) → ((¬ st 170 3 = (2 : Int) → (170 = 170 ∧ (∀ (r22 : Int), en_isWord (1751474548) (zup st 194 ((st 170 42) - 1 : Int).toNat 0) r22 → ((r22 = (0 : Int) → _) ∧ (¬ (r22 = (0 : Int)) → (((1 : Int) < (3 : Int) → ((¬ (1 : Int) = ((-1) : Int) → ((st 170 8 ≤ (0 : Int) → (170 = 170 ∧ (rq_add (1) (st 170 6) (zup st 194 ((st 170 42) - 1 : Int).toNat 0) ∧ ((170 = 170 ∧ (rq_rNext t n  (zup (zup (zup (zup st 194 ((st 170 42) - 1 : Int).toNat 0) 188 ((1600 : Int) * (st 170 35) + (st 170 34) : Int).toNat (1)) 189 ((1600 : Int) * (st 170 35) + (st 170 34) : Int).toNat (st 170 6)) 170 34 ((st 170 34) + 1)) ∧ (∀ (s24 : zS), en_rNext t n  (zup (zup (zup (zup st 194 ((st 170 42) - 1 : Int).toNat 0) 188 ((1600 : Int) * (st 170 35) + (st 170 34) : Int).toNat (1)) 189 ((1600 : Int) * (st 170 35) + (st 170 34) : Int).toNat (st 170 6)) 170 34 ((st 170 34) + 1)) s24 → ((1 = (0 : Int) ∨ 1 = (1 : Int)) ∧ Q (some (.inl 1)) s24)))))))) ∧ (¬ (st 170 8 ≤ (0 : Int)) → _))) ∧ (¬ (¬ (1 : Int) = ((-1) : Int)) → _))) ∧ (¬ ((1 : Int) < (3 : Int)) → _))))))) ∧ (¬ (¬ st 170 3 = (2 : Int)) → _))) ∧ (¬ (r21 = (0 : Int)) → _))))))))))))) ∧ (¬ (r18 = (0 : Int)) → _))))) ∧ (¬ ((0 : Int) = (0 : Int)) → _))) ∧ (¬ ((0 : Int) = (0 : Int)) → _))))) ∧ (¬ ((0 : Int) = (0 : Int)) → _))) ∧ (¬ (r17 = (0 : Int)) → ((0 ≤ (st 170 42) - 1 ∧ (st 170 42) - 1 < 20) ∧ ((st 194 ((st 170 42) - 1 : Int).toNat = (0 : Int) → (((0 : Int) = (0 : Int) → ((0 ≤ (st 170 42) - 1 ∧ (st 170 42) - 1 < 20) ∧ ((0 = (0 : Int) ∨ 0 = (1 : Int)) ∧ (((0 : Int) = (0 : Int) → (((0 : Int) = (0 : Int) → (170 = 170 ∧ (∀ (r25 : Int), en_isSign (40) (zup st 194 ((st 170 42) - 1 : Int).toNat 0) r25 → ((r25 = (0 : Int) → (170 = 170 ∧ (∀ (r26 : Int), en_isWord (7170414) (zup st 194 ((st 170 42) - 1 : Int).toNat 0) r26 → ((¬ r26 = (0 : Int) → _) ∧ (¬ (¬ r26 = (0 : Int)) → (170 = 170 ∧ (∀ (r27 : Int), en_isWord (7168376) (zup st 194 ((st 170 42) - 1 : Int).toNat 0) r27 → ((¬ r27 = (0 : Int) → _) ∧ (¬ (¬ r27 = (0 : Int)) → (170 = 170 ∧ (∀ (r28 : Int), en_isWord (26982) (zup st 194 ((st 170 42) - 1 : Int).toNat 0) r28 → ((r28 = (0 : Int) → ((¬ st 170 3 = (2 : Int) → (170 = 170 ∧ (∀ (r29 : Int), en_isWord (1751474548) (zup st 194 ((st 170 42) - 1 : Int).toNat 0) r29 → ((r29 = (0 : Int) → _) ∧ (¬ (r29 = (0 : Int)) → (((1 : Int) < (3 : Int) → ((¬ (1 : Int) = ((-1) : Int) → ((st 170 8 ≤ (0 : Int) → (170 = 170 ∧ (rq_add (1) (st 170 6) (zup st 194 ((st 170 42) - 1 : Int).toNat 0) ∧ ((170 = 170 ∧ (rq_rNext t n  (zup (zup (zup (zup st 194 ((st 170 42) - 1 : Int).toNat 0) 188 ((1600 : Int) * (st 170 35) + (st 170 34) : Int).toNat (1)) 189 ((1600 : Int) * (st 170 35) + (st 170 34) : Int).toNat (st 170 6)) 170 34 ((st 170 34) + 1)) ∧ (∀ (s31 : zS), en_rNext t n  (zup (zup (zup (zup st 194 ((st 170 42) - 1 : Int).toNat 0) 188 ((1600 : Int) * (st 170 35) + (st 170 34) : Int).toNat (1)) 189 ((1600 : Int) * (st 170 35) + (st 170 34) : Int).toNat (st 170 6)) 170 34 ((st 170 34) + 1)) s31 → ((1 = (0 : Int) ∨ 1 = (1 : Int)) ∧ Q (some (.inl 1)) s31)))))))) ∧ (¬ (st 170 8 ≤ (0 : Int)) → _))) ∧ (¬ (¬ (1 : Int) = ((-1) : Int)) → _))) ∧ (¬ ((1 : Int) < (3 : Int)) → _))))))) ∧ (¬ (¬ st 170 3 = (2 : Int)) → _))) ∧ (¬ (r28 = (0 : Int)) → _))))))))))))) ∧ (¬ (r25 = (0 : Int)) → _))))) ∧ (¬ ((0 : Int) = (0 : Int)) → _))) ∧ (¬ ((0 : Int) = (0 : Int)) → _))))) ∧ (¬ ((0 : Int) = (0 : Int)) → _))) ∧ (¬ (st 194 ((st 170 42) - 1 : Int).toNat = (0 : Int)) → (((1 : Int) = (0 : Int) → _) ∧ (¬ ((1 : Int) = (0 : Int)) → (170 = 170 ∧ (∀ (r32 : Int), en_isWord (7237492) st r32 → ((r32 = (0 : Int) → ((0 ≤ (st 170 42) - 1 ∧ (st 170 42) - 1 < 20) ∧ ((0 = (0 : Int) ∨ 0 = (1 : Int)) ∧ (((1 : Int) = (0 : Int) → _) ∧ (¬ ((1 : Int) = (0 : Int)) → (170 = 170 ∧ (∀ (r33 : Int), en_isSign (91) (zup st 194 ((st 170 42) - 1 : Int).toNat 0) r33 → ((r33 = (0 : Int) → (((1 : Int) = (0 : Int) → _) ∧ (¬ ((1 : Int) = (0 : Int)) → (170 = 170 ∧ (∀ (r34 : Int), en_isWord (6384748) (zup st 194 ((st 170 42) - 1 : Int).toNat 0) r34 → ((r34 = (0 : Int) → (170 = 170 ∧ (∀ (r35 : Int), en_isSign (40) (zup st 194 ((st 170 42) - 1 : Int).toNat 0) r35 → ((r35 = (0 : Int) → (170 = 170 ∧ (∀ (r36 : Int), en_isWord (7170414) (zup st 194 ((st 170 42) - 1 : Int).toNat 0) r36 → ((¬ r36 = (0 : Int) → _) ∧ (¬ (¬ r36 = (0 : Int)) → (170 = 170 ∧ (∀ (r37 : Int), en_isWord (7168376) (zup st 194 ((st 170 42) - 1 : Int).toNat 0) r37 → ((¬ r37 = (0 : Int) → _) ∧ (¬ (¬ r37 = (0 : Int)) → (170 = 170 ∧ (∀ (r38 : Int), en_isWord (26982) (zup st 194 ((st 170 42) - 1 : Int).toNat 0) r38 → ((r38 = (0 : Int) → ((¬ st 170 3 = (2 : Int) → (170 = 170 ∧ (∀ (r39 : Int), en_isWord (1751474548) (zup st 194 ((st 170 42) - 1 : Int).toNat 0) r39 → ((r39 = (0 : Int) → _) ∧ (¬ (r39 = (0 : Int)) → (((1 : Int) < (3 : Int) → ((¬ (1 : Int) = ((-1) : Int) → ((st 170 8 ≤ (0 : Int) → (170 = 170 ∧ (rq_add (1) (st 170 6) (zup st 194 ((st 170 42) - 1 : Int).toNat 0) ∧ ((170 = 170 ∧ (rq_rNext t n  (zup (zup (zup (zup st 194 ((st 170 42) - 1 : Int).toNat 0) 188 ((1600 : Int) * (st 170 35) + (st 170 34) : Int).toNat (1)) 189 ((1600 : Int) * (st 170 35) + (st 170 34) : Int).toNat (st 170 6)) 170 34 ((st 170 34) + 1)) ∧ (∀ (s41 : zS), en_rNext t n  (zup (zup (zup (zup st 194 ((st 170 42) - 1 : Int).toNat 0) 188 ((1600 : Int) * (st 170 35) + (st 170 34) : Int).toNat (1)) 189 ((1600 : Int) * (st 170 35) + (st 170 34) : Int).toNat (st 170 6)) 170 34 ((st 170 34) + 1)) s41 → ((1 = (0 : Int) ∨ 1 = (1 : Int)) ∧ Q (some (.inl 1)) s41)))))))) ∧ (¬ (st 170 8 ≤ (0 : Int)) → _))) ∧ (¬ (¬ (1 : Int) = ((-1) : Int)) → _))) ∧ (¬ ((1 : Int) < (3 : Int)) → _))))))) ∧ (¬ (¬ st 170 3 = (2 : Int)) → _))) ∧ (¬ (r38 = (0 : Int)) → _))))))))))))) ∧ (¬ (r35 = (0 : Int)) → _))))) ∧ (¬ (r34 = (0 : Int)) → _))))))) ∧ (¬ (r33 = (0 : Int)) → _))))))))) ∧ (¬ (r32 = (0 : Int)) → _))))))))))))))) ∧ (¬ (st 170 8 ≤ (0 : Int)) → _)))))
  refine ⟨rfl, ⟨hG, (show st 170 12 = -1 from by omega)⟩, ?_⟩
  refine ⟨fun h42 => ?_, fun h42 => (by exfalso; omega)⟩
  refine ⟨by omega, ?_⟩
  have g43 := g_frame hG ((st 170 42) - 1 : Int).toNat
  refine ⟨by omega, ?_⟩
  refine fun r17 q17 => ?_
  have b17 := q17
  change (r17 = 0 ∨ r17 = 1) ∧ (r17 = 1 ↔ (st 192 ((st 170 42) - 1 : Int).toNat) = 1 ∨ (st 192 ((st 170 42) - 1 : Int).toNat) = 5 ∨ (st 192 ((st 170 42) - 1 : Int).toNat) = 6) at b17
  refine ⟨fun h44 => ?_, fun h44 => ?_⟩
  · refine ⟨fun h45 => ?_, fun h45 => absurd (by decide) h45⟩
    refine ⟨by omega, ?_⟩
    refine ⟨by omega, ?_⟩
    refine ⟨fun h46 => ?_, fun h46 => absurd (by decide) h46⟩
    refine ⟨fun h47 => ?_, fun h47 => absurd (by decide) h47⟩
    refine ⟨rfl, fun r18 q18 => ?_⟩
    have b18 := q18
    change (r18 = 0 ∨ r18 = 1) ∧ (r18 = 1 ↔ st 170 3 = 3 ∧ st 170 6 = (40)) at b18
    refine ⟨fun h48 => ?_, fun h48 => (by exfalso; clear hQ; omega)⟩
    clear h48 b18
    refine ⟨rfl, fun r19 q19 => ?_⟩
    have b19 := q19
    change (r19 = 0 ∨ r19 = 1) ∧ (r19 = 1 ↔ st 170 3 = 1 ∧ st 170 7 = (7170414)) at b19
    refine ⟨fun h49 => (by exfalso; clear hQ; omega), fun h49 => ?_⟩
    clear h49 b19
    refine ⟨rfl, fun r20 q20 => ?_⟩
    have b20 := q20
    change (r20 = 0 ∨ r20 = 1) ∧ (r20 = 1 ↔ st 170 3 = 1 ∧ st 170 7 = (7168376)) at b20
    refine ⟨fun h50 => (by exfalso; clear hQ; omega), fun h50 => ?_⟩
    clear h50 b20
    refine ⟨rfl, fun r21 q21 => ?_⟩
    have b21 := q21
    change (r21 = 0 ∨ r21 = 1) ∧ (r21 = 1 ↔ st 170 3 = 1 ∧ st 170 7 = (26982)) at b21
    refine ⟨fun h51 => ?_, fun h51 => (by exfalso; clear hQ; omega)⟩
    clear h51 b21
    refine ⟨fun h52 => ?_, fun h52 => (by exfalso; omega)⟩
    refine ⟨rfl, fun r22 q22 => ?_⟩
    have b22 := q22
    change (r22 = 0 ∨ r22 = 1) ∧ (r22 = 1 ↔ st 170 3 = 1 ∧ st 170 7 = (1751474548)) at b22
    refine ⟨fun h53 => (by exfalso; clear hQ; omega), fun h53 => ?_⟩
    clear h53 b22
    refine ⟨fun h54 => ?_, fun h54 => absurd (by decide) h54⟩
    refine ⟨fun h55 => ?_, fun h55 => absurd (by decide) h55⟩
    refine ⟨fun h56 => ?_, fun h56 => (by exfalso; omega)⟩
    refine ⟨rfl, ⟨(gInv_up hG (p_begins (by omega))), (show st 170 34 ≤ 1599 from by omega)⟩, ?_⟩
    refine ⟨rfl, ⟨(gInv_up (gInv_up (gInv_up (gInv_up hG (p_begins (by omega))) (p_codeSort (by omega))) (p_codeValue (by omega))) (p_codes (by omega))), (show RDr (zup (zup (zup (zup st 194 ((st 170 42) - 1 : Int).toNat 0) 188 ((1600 : Int) * (st 170 35) + (st 170 34) : Int).toNat (1)) 189 ((1600 : Int) * (st 170 35) + (st 170 34) : Int).toNat (st 170 6)) 170 34 ((st 170 34) + 1)) t n from (show RDr (zup (zup (zup (zup st 194 ((st 170 42) - 1 : Int).toNat 0) 188 ((1600 : Int) * (st 170 35) + (st 170 34) : Int).toNat (1)) 189 ((1600 : Int) * (st 170 35) + (st 170 34) : Int).toNat (st 170 6)) 170 34 ((st 170 34) + 1)) t n from mrd)), (show st 170 12 = -1 from by omega)⟩, fun s24 q24 => ?_⟩
    obtain ⟨gs24, fs24, rd24, nx24⟩ := q24
    change RDr s24 t n at rd24
    change NXr (zup (zup (zup (zup st 194 ((st 170 42) - 1 : Int).toNat 0) 188 ((1600 : Int) * (st 170 35) + (st 170 34) : Int).toNat (1)) 189 ((1600 : Int) * (st 170 35) + (st 170 34) : Int).toNat (st 170 6)) 170 34 ((st 170 34) + 1)) s24 t n at nx24
    refine ⟨by omega, ?_⟩
    have e57 : s24 170 8 = st 170 8 := fs24 170 8 rfl rfl
    have e58 : s24 170 46 = st 170 46 := fs24 170 46 rfl rfl
    have e59 : s24 170 43 = st 170 43 := fs24 170 43 rfl rfl
    have e60 : s24 170 34 = ((st 170 34) + 1) := fs24 170 34 rfl rfl
    have e61 : s24 170 45 = st 170 45 := fs24 170 45 rfl rfl
    have e62 : s24 170 42 = st 170 42 := fs24 170 42 rfl rfl
    exact hQ _ _ ⟨gs24, (fr_tr (fr_f (fr_a (fr_a (fr_a (fr_rf _ _) rfl) rfl) rfl) rfl) fs24 rfl), (Z9_tr (Z9_up (Z9_st (Z9_up (Z9_up (Z9_rf _) (by decide)) (by decide)) (b := st 170 35) rfl (by omega)) (by decide)) ((show aFr m_rOp71 st (zup (zup (zup (zup st 194 ((st 170 42) - 1 : Int).toNat 0) 188 ((1600 : Int) * (st 170 35) + (st 170 34) : Int).toNat (1)) 189 ((1600 : Int) * (st 170 35) + (st 170 34) : Int).toNat (st 170 6)) 170 34 ((st 170 34) + 1)) from (fr_f (fr_a (fr_a (fr_a (fr_rf _ _) rfl) rfl) rfl) rfl)) 170 35 rfl rfl) (Z9_fr fs24 (fun _ => rfl) rfl)), (show (1 : Int) = 1 ∧ mcP t n s24 ((k, ph, 0, pr, w) :: fs) 0 (o) (c ++ [1]) (e) from (by
            have hp : s24 170 4 = e := NXr_e (st := (zup (zup (zup (zup st 194 ((st 170 42) - 1 : Int).toNat 0) 188 ((1600 : Int) * (st 170 35) + (st 170 34) : Int).toNat (1)) 189 ((1600 : Int) * (st 170 35) + (st 170 34) : Int).toNat (st 170 6)) 170 34 ((st 170 34) + 1))) (show NXr (zup (zup (zup (zup st 194 ((st 170 42) - 1 : Int).toNat 0) 188 ((1600 : Int) * (st 170 35) + (st 170 34) : Int).toNat (1)) 189 ((1600 : Int) * (st 170 35) + (st 170 34) : Int).toNat (st 170 6)) 170 34 ((st 170 34) + 1)) s24 t n from nx24) (show tk t n ((zup (zup (zup (zup st 194 ((st 170 42) - 1 : Int).toNat 0) 188 ((1600 : Int) * (st 170 35) + (st 170 34) : Int).toNat (1)) 189 ((1600 : Int) * (st 170 35) + (st 170 34) : Int).toNat (st 170 6)) 170 34 ((st 170 34) + 1)) 170 4) _ _ e from by rw [show (zup (zup (zup (zup st 194 ((st 170 42) - 1 : Int).toNat 0) 188 ((1600 : Int) * (st 170 35) + (st 170 34) : Int).toNat (1)) 189 ((1600 : Int) * (st 170 35) + (st 170 34) : Int).toNat (st 170 6)) 170 34 ((st 170 34) + 1)) 170 4 = p from mpp]; exact ht.1) (by omega)
            have hl := tk_lt ht.1 (show 0 ≤ p from by rw [← mpp]; exact mrd.2.1.1) (by omega)
            exact ⟨rfl, ⟨by omega, by omega, by omega, hp, rd24, mcQ_of (fun i => fs24 192 i rfl rfl) (fun i => fs24 193 i rfl rfl) (fun i => fs24 194 i rfl rfl) (fun i => fs24 195 i rfl rfl) (fun i => fs24 196 i rfl rfl) (fun i => fs24 197 i rfl rfl) (fs24 170 42 rfl rfl) (fs24 170 45 rfl rfl) (fs24 170 35 rfl rfl) (fs24 170 34 rfl rfl) (fun i => fs24 188 i rfl rfl) (fun i => fs24 189 i rfl rfl) (show mcQ (zup (zup (zup (zup st 194 ((st 170 42) - 1 : Int).toNat 0) 188 ((1600 : Int) * (st 170 35) + (st 170 34) : Int).toNat (1)) 189 ((1600 : Int) * (st 170 35) + (st 170 34) : Int).toNat (st 170 6)) 170 34 ((st 170 34) + 1)) ((k, ph, 0, pr, w) :: fs) (c ++ [1]) from ⟨FR_bg 0 mb.2.1 mfr, WB_c ml (WB_el mwb) (WB_tl mwb), CDr_add (b := st 170 35) (n := st 170 34) (by omega) mcd (by omega) (fun h => by omega)⟩), by omega, by omega, by omega, by rw [List.length_cons]; omega⟩⟩))⟩
  · have g63 := g_begins hG ((st 170 42) - 1 : Int).toNat
    refine ⟨by omega, ?_⟩
    refine ⟨fun h64 => ?_, fun h64 => ?_⟩
    · refine ⟨fun h65 => ?_, fun h65 => absurd (by decide) h65⟩
      refine ⟨by omega, ?_⟩
      refine ⟨by omega, ?_⟩
      refine ⟨fun h66 => ?_, fun h66 => absurd (by decide) h66⟩
      refine ⟨fun h67 => ?_, fun h67 => absurd (by decide) h67⟩
      refine ⟨rfl, fun r25 q25 => ?_⟩
      have b25 := q25
      change (r25 = 0 ∨ r25 = 1) ∧ (r25 = 1 ↔ st 170 3 = 3 ∧ st 170 6 = (40)) at b25
      refine ⟨fun h68 => ?_, fun h68 => (by exfalso; clear hQ; omega)⟩
      clear h68 b25
      refine ⟨rfl, fun r26 q26 => ?_⟩
      have b26 := q26
      change (r26 = 0 ∨ r26 = 1) ∧ (r26 = 1 ↔ st 170 3 = 1 ∧ st 170 7 = (7170414)) at b26
      refine ⟨fun h69 => (by exfalso; clear hQ; omega), fun h69 => ?_⟩
      clear h69 b26
      refine ⟨rfl, fun r27 q27 => ?_⟩
      have b27 := q27
      change (r27 = 0 ∨ r27 = 1) ∧ (r27 = 1 ↔ st 170 3 = 1 ∧ st 170 7 = (7168376)) at b27
      refine ⟨fun h70 => (by exfalso; clear hQ; omega), fun h70 => ?_⟩
      clear h70 b27
      refine ⟨rfl, fun r28 q28 => ?_⟩
      have b28 := q28
      change (r28 = 0 ∨ r28 = 1) ∧ (r28 = 1 ↔ st 170 3 = 1 ∧ st 170 7 = (26982)) at b28
      refine ⟨fun h71 => ?_, fun h71 => (by exfalso; clear hQ; omega)⟩
      clear h71 b28
      refine ⟨fun h72 => ?_, fun h72 => (by exfalso; omega)⟩
      refine ⟨rfl, fun r29 q29 => ?_⟩
      have b29 := q29
      change (r29 = 0 ∨ r29 = 1) ∧ (r29 = 1 ↔ st 170 3 = 1 ∧ st 170 7 = (1751474548)) at b29
      refine ⟨fun h73 => (by exfalso; clear hQ; omega), fun h73 => ?_⟩
      clear h73 b29
      refine ⟨fun h74 => ?_, fun h74 => absurd (by decide) h74⟩
      refine ⟨fun h75 => ?_, fun h75 => absurd (by decide) h75⟩
      refine ⟨fun h76 => ?_, fun h76 => (by exfalso; omega)⟩
      refine ⟨rfl, ⟨(gInv_up hG (p_begins (by omega))), (show st 170 34 ≤ 1599 from by omega)⟩, ?_⟩
      refine ⟨rfl, ⟨(gInv_up (gInv_up (gInv_up (gInv_up hG (p_begins (by omega))) (p_codeSort (by omega))) (p_codeValue (by omega))) (p_codes (by omega))), (show RDr (zup (zup (zup (zup st 194 ((st 170 42) - 1 : Int).toNat 0) 188 ((1600 : Int) * (st 170 35) + (st 170 34) : Int).toNat (1)) 189 ((1600 : Int) * (st 170 35) + (st 170 34) : Int).toNat (st 170 6)) 170 34 ((st 170 34) + 1)) t n from (show RDr (zup (zup (zup (zup st 194 ((st 170 42) - 1 : Int).toNat 0) 188 ((1600 : Int) * (st 170 35) + (st 170 34) : Int).toNat (1)) 189 ((1600 : Int) * (st 170 35) + (st 170 34) : Int).toNat (st 170 6)) 170 34 ((st 170 34) + 1)) t n from mrd)), (show st 170 12 = -1 from by omega)⟩, fun s31 q31 => ?_⟩
      obtain ⟨gs31, fs31, rd31, nx31⟩ := q31
      change RDr s31 t n at rd31
      change NXr (zup (zup (zup (zup st 194 ((st 170 42) - 1 : Int).toNat 0) 188 ((1600 : Int) * (st 170 35) + (st 170 34) : Int).toNat (1)) 189 ((1600 : Int) * (st 170 35) + (st 170 34) : Int).toNat (st 170 6)) 170 34 ((st 170 34) + 1)) s31 t n at nx31
      refine ⟨by omega, ?_⟩
      have e77 : s31 170 8 = st 170 8 := fs31 170 8 rfl rfl
      have e78 : s31 170 46 = st 170 46 := fs31 170 46 rfl rfl
      have e79 : s31 170 43 = st 170 43 := fs31 170 43 rfl rfl
      have e80 : s31 170 34 = ((st 170 34) + 1) := fs31 170 34 rfl rfl
      have e81 : s31 170 45 = st 170 45 := fs31 170 45 rfl rfl
      have e82 : s31 170 42 = st 170 42 := fs31 170 42 rfl rfl
      exact hQ _ _ ⟨gs31, (fr_tr (fr_f (fr_a (fr_a (fr_a (fr_rf _ _) rfl) rfl) rfl) rfl) fs31 rfl), (Z9_tr (Z9_up (Z9_st (Z9_up (Z9_up (Z9_rf _) (by decide)) (by decide)) (b := st 170 35) rfl (by omega)) (by decide)) ((show aFr m_rOp71 st (zup (zup (zup (zup st 194 ((st 170 42) - 1 : Int).toNat 0) 188 ((1600 : Int) * (st 170 35) + (st 170 34) : Int).toNat (1)) 189 ((1600 : Int) * (st 170 35) + (st 170 34) : Int).toNat (st 170 6)) 170 34 ((st 170 34) + 1)) from (fr_f (fr_a (fr_a (fr_a (fr_rf _ _) rfl) rfl) rfl) rfl)) 170 35 rfl rfl) (Z9_fr fs31 (fun _ => rfl) rfl)), (show (1 : Int) = 1 ∧ mcP t n s31 ((k, ph, 0, pr, w) :: fs) 0 (o) (c ++ [1]) (e) from (by
            have hp : s31 170 4 = e := NXr_e (st := (zup (zup (zup (zup st 194 ((st 170 42) - 1 : Int).toNat 0) 188 ((1600 : Int) * (st 170 35) + (st 170 34) : Int).toNat (1)) 189 ((1600 : Int) * (st 170 35) + (st 170 34) : Int).toNat (st 170 6)) 170 34 ((st 170 34) + 1))) (show NXr (zup (zup (zup (zup st 194 ((st 170 42) - 1 : Int).toNat 0) 188 ((1600 : Int) * (st 170 35) + (st 170 34) : Int).toNat (1)) 189 ((1600 : Int) * (st 170 35) + (st 170 34) : Int).toNat (st 170 6)) 170 34 ((st 170 34) + 1)) s31 t n from nx31) (show tk t n ((zup (zup (zup (zup st 194 ((st 170 42) - 1 : Int).toNat 0) 188 ((1600 : Int) * (st 170 35) + (st 170 34) : Int).toNat (1)) 189 ((1600 : Int) * (st 170 35) + (st 170 34) : Int).toNat (st 170 6)) 170 34 ((st 170 34) + 1)) 170 4) _ _ e from by rw [show (zup (zup (zup (zup st 194 ((st 170 42) - 1 : Int).toNat 0) 188 ((1600 : Int) * (st 170 35) + (st 170 34) : Int).toNat (1)) 189 ((1600 : Int) * (st 170 35) + (st 170 34) : Int).toNat (st 170 6)) 170 34 ((st 170 34) + 1)) 170 4 = p from mpp]; exact ht.1) (by omega)
            have hl := tk_lt ht.1 (show 0 ≤ p from by rw [← mpp]; exact mrd.2.1.1) (by omega)
            exact ⟨rfl, ⟨by omega, by omega, by omega, hp, rd31, mcQ_of (fun i => fs31 192 i rfl rfl) (fun i => fs31 193 i rfl rfl) (fun i => fs31 194 i rfl rfl) (fun i => fs31 195 i rfl rfl) (fun i => fs31 196 i rfl rfl) (fun i => fs31 197 i rfl rfl) (fs31 170 42 rfl rfl) (fs31 170 45 rfl rfl) (fs31 170 35 rfl rfl) (fs31 170 34 rfl rfl) (fun i => fs31 188 i rfl rfl) (fun i => fs31 189 i rfl rfl) (show mcQ (zup (zup (zup (zup st 194 ((st 170 42) - 1 : Int).toNat 0) 188 ((1600 : Int) * (st 170 35) + (st 170 34) : Int).toNat (1)) 189 ((1600 : Int) * (st 170 35) + (st 170 34) : Int).toNat (st 170 6)) 170 34 ((st 170 34) + 1)) ((k, ph, 0, pr, w) :: fs) (c ++ [1]) from ⟨FR_bg 0 mb.2.1 mfr, WB_c ml (WB_el mwb) (WB_tl mwb), CDr_add (b := st 170 35) (n := st 170 34) (by omega) mcd (by omega) (fun h => by omega)⟩), by omega, by omega, by omega, by rw [List.length_cons]; omega⟩⟩))⟩
    · refine ⟨fun h83 => absurd h83 (by decide), fun h83 => ?_⟩
      refine ⟨rfl, fun r32 q32 => ?_⟩
      have b32 := q32
      change (r32 = 0 ∨ r32 = 1) ∧ (r32 = 1 ↔ st 170 3 = 1 ∧ st 170 7 = (7237492)) at b32
      refine ⟨fun h84 => ?_, fun h84 => (by exfalso; clear hQ; omega)⟩
      clear h84 b32
      refine ⟨by omega, ?_⟩
      refine ⟨by omega, ?_⟩
      refine ⟨fun h85 => absurd h85 (by decide), fun h85 => ?_⟩
      refine ⟨rfl, fun r33 q33 => ?_⟩
      have b33 := q33
      change (r33 = 0 ∨ r33 = 1) ∧ (r33 = 1 ↔ st 170 3 = 3 ∧ st 170 6 = (91)) at b33
      refine ⟨fun h86 => ?_, fun h86 => (by exfalso; clear hQ; omega)⟩
      clear h86 b33
      refine ⟨fun h87 => absurd h87 (by decide), fun h87 => ?_⟩
      refine ⟨rfl, fun r34 q34 => ?_⟩
      have b34 := q34
      change (r34 = 0 ∨ r34 = 1) ∧ (r34 = 1 ↔ st 170 3 = 1 ∧ st 170 7 = (6384748)) at b34
      refine ⟨fun h88 => ?_, fun h88 => (by exfalso; clear hQ; omega)⟩
      clear h88 b34
      refine ⟨rfl, fun r35 q35 => ?_⟩
      have b35 := q35
      change (r35 = 0 ∨ r35 = 1) ∧ (r35 = 1 ↔ st 170 3 = 3 ∧ st 170 6 = (40)) at b35
      refine ⟨fun h89 => ?_, fun h89 => (by exfalso; clear hQ; omega)⟩
      clear h89 b35
      refine ⟨rfl, fun r36 q36 => ?_⟩
      have b36 := q36
      change (r36 = 0 ∨ r36 = 1) ∧ (r36 = 1 ↔ st 170 3 = 1 ∧ st 170 7 = (7170414)) at b36
      refine ⟨fun h90 => (by exfalso; clear hQ; omega), fun h90 => ?_⟩
      clear h90 b36
      refine ⟨rfl, fun r37 q37 => ?_⟩
      have b37 := q37
      change (r37 = 0 ∨ r37 = 1) ∧ (r37 = 1 ↔ st 170 3 = 1 ∧ st 170 7 = (7168376)) at b37
      refine ⟨fun h91 => (by exfalso; clear hQ; omega), fun h91 => ?_⟩
      clear h91 b37
      refine ⟨rfl, fun r38 q38 => ?_⟩
      have b38 := q38
      change (r38 = 0 ∨ r38 = 1) ∧ (r38 = 1 ↔ st 170 3 = 1 ∧ st 170 7 = (26982)) at b38
      refine ⟨fun h92 => ?_, fun h92 => (by exfalso; clear hQ; omega)⟩
      clear h92 b38
      refine ⟨fun h93 => ?_, fun h93 => (by exfalso; omega)⟩
      refine ⟨rfl, fun r39 q39 => ?_⟩
      have b39 := q39
      change (r39 = 0 ∨ r39 = 1) ∧ (r39 = 1 ↔ st 170 3 = 1 ∧ st 170 7 = (1751474548)) at b39
      refine ⟨fun h94 => (by exfalso; clear hQ; omega), fun h94 => ?_⟩
      clear h94 b39
      refine ⟨fun h95 => ?_, fun h95 => absurd (by decide) h95⟩
      refine ⟨fun h96 => ?_, fun h96 => absurd (by decide) h96⟩
      refine ⟨fun h97 => ?_, fun h97 => (by exfalso; omega)⟩
      refine ⟨rfl, ⟨(gInv_up hG (p_begins (by omega))), (show st 170 34 ≤ 1599 from by omega)⟩, ?_⟩
      refine ⟨rfl, ⟨(gInv_up (gInv_up (gInv_up (gInv_up hG (p_begins (by omega))) (p_codeSort (by omega))) (p_codeValue (by omega))) (p_codes (by omega))), (show RDr (zup (zup (zup (zup st 194 ((st 170 42) - 1 : Int).toNat 0) 188 ((1600 : Int) * (st 170 35) + (st 170 34) : Int).toNat (1)) 189 ((1600 : Int) * (st 170 35) + (st 170 34) : Int).toNat (st 170 6)) 170 34 ((st 170 34) + 1)) t n from (show RDr (zup (zup (zup (zup st 194 ((st 170 42) - 1 : Int).toNat 0) 188 ((1600 : Int) * (st 170 35) + (st 170 34) : Int).toNat (1)) 189 ((1600 : Int) * (st 170 35) + (st 170 34) : Int).toNat (st 170 6)) 170 34 ((st 170 34) + 1)) t n from mrd)), (show st 170 12 = -1 from by omega)⟩, fun s41 q41 => ?_⟩
      obtain ⟨gs41, fs41, rd41, nx41⟩ := q41
      change RDr s41 t n at rd41
      change NXr (zup (zup (zup (zup st 194 ((st 170 42) - 1 : Int).toNat 0) 188 ((1600 : Int) * (st 170 35) + (st 170 34) : Int).toNat (1)) 189 ((1600 : Int) * (st 170 35) + (st 170 34) : Int).toNat (st 170 6)) 170 34 ((st 170 34) + 1)) s41 t n at nx41
      refine ⟨by omega, ?_⟩
      have e98 : s41 170 8 = st 170 8 := fs41 170 8 rfl rfl
      have e99 : s41 170 46 = st 170 46 := fs41 170 46 rfl rfl
      have e100 : s41 170 43 = st 170 43 := fs41 170 43 rfl rfl
      have e101 : s41 170 34 = ((st 170 34) + 1) := fs41 170 34 rfl rfl
      have e102 : s41 170 45 = st 170 45 := fs41 170 45 rfl rfl
      have e103 : s41 170 42 = st 170 42 := fs41 170 42 rfl rfl
      exact hQ _ _ ⟨gs41, (fr_tr (fr_f (fr_a (fr_a (fr_a (fr_rf _ _) rfl) rfl) rfl) rfl) fs41 rfl), (Z9_tr (Z9_up (Z9_st (Z9_up (Z9_up (Z9_rf _) (by decide)) (by decide)) (b := st 170 35) rfl (by omega)) (by decide)) ((show aFr m_rOp71 st (zup (zup (zup (zup st 194 ((st 170 42) - 1 : Int).toNat 0) 188 ((1600 : Int) * (st 170 35) + (st 170 34) : Int).toNat (1)) 189 ((1600 : Int) * (st 170 35) + (st 170 34) : Int).toNat (st 170 6)) 170 34 ((st 170 34) + 1)) from (fr_f (fr_a (fr_a (fr_a (fr_rf _ _) rfl) rfl) rfl) rfl)) 170 35 rfl rfl) (Z9_fr fs41 (fun _ => rfl) rfl)), (show (1 : Int) = 1 ∧ mcP t n s41 ((k, ph, 0, pr, w) :: fs) 0 (o) (c ++ [1]) (e) from (by
            have hp : s41 170 4 = e := NXr_e (st := (zup (zup (zup (zup st 194 ((st 170 42) - 1 : Int).toNat 0) 188 ((1600 : Int) * (st 170 35) + (st 170 34) : Int).toNat (1)) 189 ((1600 : Int) * (st 170 35) + (st 170 34) : Int).toNat (st 170 6)) 170 34 ((st 170 34) + 1))) (show NXr (zup (zup (zup (zup st 194 ((st 170 42) - 1 : Int).toNat 0) 188 ((1600 : Int) * (st 170 35) + (st 170 34) : Int).toNat (1)) 189 ((1600 : Int) * (st 170 35) + (st 170 34) : Int).toNat (st 170 6)) 170 34 ((st 170 34) + 1)) s41 t n from nx41) (show tk t n ((zup (zup (zup (zup st 194 ((st 170 42) - 1 : Int).toNat 0) 188 ((1600 : Int) * (st 170 35) + (st 170 34) : Int).toNat (1)) 189 ((1600 : Int) * (st 170 35) + (st 170 34) : Int).toNat (st 170 6)) 170 34 ((st 170 34) + 1)) 170 4) _ _ e from by rw [show (zup (zup (zup (zup st 194 ((st 170 42) - 1 : Int).toNat 0) 188 ((1600 : Int) * (st 170 35) + (st 170 34) : Int).toNat (1)) 189 ((1600 : Int) * (st 170 35) + (st 170 34) : Int).toNat (st 170 6)) 170 34 ((st 170 34) + 1)) 170 4 = p from mpp]; exact ht.1) (by omega)
            have hl := tk_lt ht.1 (show 0 ≤ p from by rw [← mpp]; exact mrd.2.1.1) (by omega)
            exact ⟨rfl, ⟨by omega, by omega, by omega, hp, rd41, mcQ_of (fun i => fs41 192 i rfl rfl) (fun i => fs41 193 i rfl rfl) (fun i => fs41 194 i rfl rfl) (fun i => fs41 195 i rfl rfl) (fun i => fs41 196 i rfl rfl) (fun i => fs41 197 i rfl rfl) (fs41 170 42 rfl rfl) (fs41 170 45 rfl rfl) (fs41 170 35 rfl rfl) (fs41 170 34 rfl rfl) (fun i => fs41 188 i rfl rfl) (fun i => fs41 189 i rfl rfl) (show mcQ (zup (zup (zup (zup st 194 ((st 170 42) - 1 : Int).toNat 0) 188 ((1600 : Int) * (st 170 35) + (st 170 34) : Int).toNat (1)) 189 ((1600 : Int) * (st 170 35) + (st 170 34) : Int).toNat (st 170 6)) 170 34 ((st 170 34) + 1)) ((k, ph, 0, pr, w) :: fs) (c ++ [1]) from ⟨FR_bg 0 mb.2.1 mfr, WB_c ml (WB_el mwb) (WB_tl mwb), CDr_add (b := st 170 35) (n := st 170 34) (by omega) mcd (by omega) (fun h => by omega)⟩), by omega, by omega, by omega, by rw [List.length_cons]; omega⟩⟩))⟩
theorem k_rOp71_m (hTb : aTb zSh rx_tb cl) {t : Int → Int} {n k ph bg pr o p e : Int} {w c : List Int} {fs : List mFr} {D : Nat} (hD : 4 ≤ D) : ∀ as st (Q Q' : zQ), (∀ r st', Q r st' → Q' r st') → (k_rOp71 t n k ph bg pr o p e w c fs) 196 as st Q → cl D 196 as st Q' := by
  intro as st Q Q' hQ h
  unfold k_rOp71 at h
  split at h
  · obtain ⟨rfl, h⟩ := h
    exact c_rOp71 hTb hD (ct_rOp71_m hQ h)
  · exact h.elim
set_option maxHeartbeats 4000000 in
set_option maxRecDepth 100000 in
theorem c_rOp72 (hTb : aTb zSh rx_tb cl) {t : Int → Int} {n k ph bg pr o p e : Int} {w c : List Int} {fs : List mFr} {D : Nat} (hD : 4 ≤ D) {st : zS} {Q : zQ} (h : ct_rOp72 t n k ph bg pr o p e w c fs st Q) : cl D 196 [.inr (.inr (.inl 170))] st Q := by
  obtain ⟨d, rfl⟩ : ∃ d, D = d + 1 := ⟨D - 1, by omega⟩
  refine hTb d 196 (rx_m196, 4, 0, 0, 2) rfl _ _ _ (Nat.le_of_ble_eq_true rfl) (fun K hcl hsf hsl => ?_)
  have hcm : zmo (wcL [(181, k_rLex), (195, k_isTest), (183, k_isWord), (182, k_isSign), (149, k_rNext t n), (189, k_add), (192, k_holdsBack), (194, k_rOpens t n)]) (cl d) := (wcL_m (wm_cons (k_rLex_m hTb (by omega)) (wm_cons (k_isTest_m hTb (by omega)) (wm_cons (k_isWord_m hTb (by omega)) (wm_cons (k_isSign_m hTb (by omega)) (wm_cons (k_rNext_m hTb (by omega)) (wm_cons (k_add_m hTb (by omega)) (wm_cons (k_holdsBack_m hTb (by omega)) (wm_cons (k_rOpens_m hTb (by omega)) wm_nil)))))))))
  obtain ⟨hR, hQ⟩ := h
  obtain ⟨hG, mp, ht⟩ := hR
  change mcP t n st ((k, ph, bg, pr, w) :: fs) 0 (o) (c) (p) at mp
  change tk t n p 1 2036687218 e ∧ True at ht
  obtain ⟨mf, mo, mn, mpp, mrd, mq, mbd, mz1, mz2, mz3⟩ := mp
  rw [List.length_cons] at mz3
  have mq0 := mq
  obtain ⟨mfr, mwb, mcd⟩ := mq
  have mt := FR_top mfr
  have mb := FR_bnd _ _ _ mwb mfr
  rw [List.length_cons] at mb
  have ml := WB_hd mwb
  have mcl := mcd.1
  have mlw := FR_len mb.2.1 mfr
  have tf := r_wrd mrd (by rw [mpp]; exact ht.1)
  have g1 := g_codes hG
  have g2 := g_in hG
  have g3 := g_isClever hG
  have g4 := g_deep hG
  have g5 := g_open hG
  have g6 := g_opMany hG
  have g7 := g_signAt hG
  have g8 := g_signEnd hG
  have g9 := g_faultKind hG
  have g10 := g_size hG
  have g11 := g_sign hG
  have g12 := g_lexAt hG
  have g13 := g_value hG
  have g14 := g_word hG
  have g15 := g_operand hG
  refine yr1_ok (Rt := Q) (wc := (wcL [(181, k_rLex), (195, k_isTest), (183, k_isWord), (182, k_isSign), (149, k_rNext t n), (189, k_add), (192, k_holdsBack), (194, k_rOpens t n)])) (stp := []) hcm hcl [] 400 ?_
  show (170 = 170 ∧ (rq_rLex  st ∧ (((st 170 8 ≤ (0 : Int) → ((-2147483648 ≤ (st 170 42) - 1 ∧ (st 170 42) - 1 ≤ 2147483647) ∧ ((0 ≤ (st 170 42) - 1 ∧ (st 170 42) - 1 < 20) ∧ (∀ (r17 : Int), en_isTest (st 192 ((st 170 42) - 1 : Int).toNat) st r17 → ((r17 = (0 : Int) → (((0 : Int) = (0 : Int) → ((0 ≤ (st 170 42) - 1 ∧ (st 170 42) - 1 < 20) ∧ ((0 = (0 : Int) ∨ 0 = (1 : Int)) ∧ (((0 : Int) = (0 : Int) → (((0 : Int) = (0 : Int) → (170 = 170 ∧ (∀ (r18 : Int), en_isSign (40) (zup st 194 ((st 170 42) - 1 : Int).toNat 0) r18 → ((r18 = (0 : Int) → (170 = 170 ∧ (∀ (r19 : Int), en_isWord (7170414) (zup st 194 ((st 170 42) - 1 : Int).toNat 0) r19 → ((¬ r19 = (0 : Int) → _) ∧ (¬ (¬ r19 = (0 : Int)) → (170 = 170 ∧ (∀ (r20 : Int), en_isWord (7168376) (zup st 194 ((st 170 42) - 1 : Int).toNat 0) r20 → ((¬ r20 = (0 : Int) → _) ∧ (¬ (¬ r20 = (0 : Int)) → (170 = 170 ∧ (∀ (r21 : Int), en_isWord (26982) (zup st 194 ((st 170 42) - 1 : Int).toNat 0) r21 → ((r21 = (0 : Int) → ((¬ st 170 3 = (2 : Int) → (170 = 170 ∧ (∀ (r22 : Int), en_isWord (1751474548) (zup st 194 ((st 170 42) - 1 : Int).toNat 0) r22 → ((r22 = (0 : Int) → (170 = 170 ∧ (∀ (r23 : Int), en_isWord (2036687218) (zup st 194 ((st 170 42) - 1 : Int).toNat 0) r23 → ((r23 = (0 : Int) → _) ∧ (¬ (r23 = (0 : Int)) → (((2 : Int) < (3 : Int) → ((¬ (2 : Int) = ((-1) : Int) → ((st 170 8 ≤ (0 : Int) → (170 = 170 ∧ (rq_add (2) (st 170 6) (zup st 194 ((st 170 42) - 1 : Int).toNat 0) ∧ ((170 = 170 ∧ (rq_rNext t n  (zup (zup (zup (zup st 194 ((st 170 42) - 1 : Int).toNat 0) 188 ((1600 : Int) * (st 170 35) + (st 170 34) : Int).toNat (2)) 189 ((1600 : Int) * (st 170 35) + (st 170 34) : Int).toNat (st 170 6)) 170 34 ((st 170 34) + 1)) ∧ (∀ (s25 : zS), en_rNext t n  (zup (zup (zup (zup st 194 ((st 170 42) - 1 : Int).toNat 0) 188 ((1600 : Int) * (st 170 35) + (st 170 34) : Int).toNat (2)) 189 ((1600 : Int) * (st 170 35) + (st 170 34) : Int).toNat (st 170 6)) 170 34 ((st 170 34) + 1)) s25 → ((1 = (0 : Int) ∨ 1 = (1 : Int)) ∧ Q (some (.inl 1)) s25)))))))) ∧ (¬ (st 170 8 ≤ (0 : Int)) → _))) ∧ (¬ (¬ (2 : Int) = ((-1) : Int)) → _))) ∧ (¬ ((2 : Int) < (3 : Int)) → _))))))) ∧ (¬ (r22 = (0 : Int)) → _))))) ∧ (¬ (¬ st 170 3 = (2 : Int)) → _))) ∧ (¬ (r21 = (0 : Int)) → _))))))))))))) ∧ (¬ (r18 = (0 : Int)) → _))))) ∧ (¬ ((0 : Int) = (0 : Int)) → _))) ∧ (¬ ((0 : Int) = (0 : Int)) → _))))) ∧ (¬ ((0 : Int) = (0 : Int)) → _))) ∧ (¬ (r17 = (0 : Int)) → ((0 ≤ (st 170 42) - 1 ∧ (st 170 42) - 1 < 20) ∧ ((st 194 ((st 170 42) - 1 : Int).toNat = (0 : Int) → (((0 : Int) = (0 : Int) → ((0 ≤ (st 170 42) - 1 ∧ (st 170 42) - 1 < 20) ∧ ((0 = (0 : Int) ∨ 0 = (1 : Int)) ∧ (((0 : Int) = (0 : Int) → (((0 : Int) = (0 : Int) → (170 = 170 ∧ (∀ (r26 : Int), en_isSign (40) (zup st 194 ((st 170 42) - 1 : Int).toNat 0) r26 → ((r26 = (0 : Int) → (170 = 170 ∧ (∀ (r27 : Int), en_isWord (7170414) (zup st 194 ((st 170 42) - 1 : Int).toNat 0) r27 → ((¬ r27 = (0 : Int) → _) ∧ (¬ (¬ r27 = (0 : Int)) → (170 = 170 ∧ (∀ (r28 : Int), en_isWord (7168376) (zup st 194 ((st 170 42) - 1 : Int).toNat 0) r28 → ((¬ r28 = (0 : Int) → _) ∧ (¬ (¬ r28 = (0 : Int)) → (170 = 170 ∧ (∀ (r29 : Int), en_isWord (26982) (zup st 194 ((st 170 42) - 1 : Int).toNat 0) r29 → ((r29 = (0 : Int) → ((¬ st 170 3 = (2 : Int) → (170 = 170 ∧ (∀ (r30 : Int), en_isWord (1751474548) (zup st 194 ((st 170 42) - 1 : Int).toNat 0) r30 → ((r30 = (0 : Int) → (170 = 170 ∧ (∀ (r31 : Int), en_isWord (2036687218) (zup st 194 ((st 170 42) - 1 : Int).toNat 0) r31 → ((r31 = (0 : Int) → _) ∧ (¬ (r31 = (0 : Int)) → (((2 : Int) < (3 : Int) → ((¬ (2 : Int) = ((-1) : Int) → ((st 170 8 ≤ (0 : Int) → (170 = 170 ∧ (rq_add (2) (st 170 6) (zup st 194 ((st 170 42) - 1 : Int).toNat 0) ∧ ((170 = 170 ∧ (rq_rNext t n  (zup (zup (zup (zup st 194 ((st 170 42) - 1 : Int).toNat 0) 188 ((1600 : Int) * (st 170 35) + (st 170 34) : Int).toNat (2)) 189 ((1600 : Int) * (st 170 35) + (st 170 34) : Int).toNat (st 170 6)) 170 34 ((st 170 34) + 1)) ∧ (∀ (s33 : zS), en_rNext t n  (zup (zup (zup (zup st 194 ((st 170 42) - 1 : Int).toNat 0) 188 ((1600 : Int) * (st 170 35) + (st 170 34) : Int).toNat (2)) 189 ((1600 : Int) * (st 170 35) + (st 170 34) : Int).toNat (st 170 6)) 170 34 ((st 170 34) + 1)) s33 → ((1 = (0 : Int) ∨ 1 = (1 : Int)) ∧ Q (some (.inl 1)) s33)))))))) ∧ (¬ (st 170 8 ≤ (0 : Int)) → _))) ∧ (¬ (¬ (2 : Int) = ((-1) : Int)) → _))) ∧ (¬ ((2 : Int) < (3 : Int)) → _))))))) ∧ (¬ (r30 = (0 : Int)) → _))))) ∧ (¬ (¬ st 170 3 = (2 : Int)) → _))) ∧ (¬ (r29 = (0 : Int)) → _))))))))))))) ∧ (¬ (r26 = (0 : Int)) → _))))) ∧ (¬ ((0 : Int) = (0 : Int)) → _))) ∧ (¬ ((0 : Int) = (0 : Int)) → _))))) ∧ (¬ ((0 : Int) = (0 : Int)) → _))) ∧ (¬ (st 194 ((st 170 42) - 1 : Int).toNat = (0 : Int)) → (((1 : Int) = (0 : Int) → _) ∧ (¬ ((1 : Int) = (0 : Int)) → (170 = 170 ∧ (∀ (r34 : Int), en_isWord (7237492) st r34 → ((r34 = (0 : Int) → ((0 ≤ (st 170 42) - 1 ∧ (st 170 42) - 1 < 20) ∧ ((0 = (0 : Int) ∨ 0 = (1 : Int)) ∧ (((1 : Int) = (0 : Int) → _) ∧ (¬ ((1 : Int) = (0 : Int)) → (170 = 170 ∧ (∀ (r35 : Int), en_isSign (91) (zup st 194 ((st 170 42) - 1 : Int).toNat 0) r35 → ((r35 = (0 : Int) → (((1 : Int) = (0 : Int) → _) ∧ (¬ ((1 : Int) = (0 : Int)) → (170 = 170 ∧ (∀ (r36 : Int), en_isWord (6384748) (zup st 194 ((st 170 42) - 1 : Int).toNat 0) r36 → ((r36 = (0 : Int) → (170 = 170 ∧ (∀ (r37 : Int), en_isSign (40) (zup st 194 ((st 170 42) - 1 : Int).toNat 0) r37 → ((r37 = (0 : Int) → (170 = 170 ∧ (∀ (r38 : Int), en_isWord (7170414) (zup st 194 ((st 170 42) - 1 : Int).toNat 0) r38 → ((¬ r38 = (0 : Int) → _) ∧ (¬ (¬ r38 = (0 : Int)) → (170 = 170 ∧ (∀ (r39 : Int), en_isWord (7168376) (zup st 194 ((st 170 42) - 1 : Int).toNat 0) r39 → ((¬ r39 = (0 : Int) → _) ∧ (¬ (¬ r39 = (0 : Int)) → (170 = 170 ∧ (∀ (r40 : Int), en_isWord (26982) (zup st 194 ((st 170 42) - 1 : Int).toNat 0) r40 → ((r40 = (0 : Int) → ((¬ st 170 3 = (2 : Int) → (170 = 170 ∧ (∀ (r41 : Int), en_isWord (1751474548) (zup st 194 ((st 170 42) - 1 : Int).toNat 0) r41 → ((r41 = (0 : Int) → (170 = 170 ∧ (∀ (r42 : Int), en_isWord (2036687218) (zup st 194 ((st 170 42) - 1 : Int).toNat 0) r42 → ((r42 = (0 : Int) → _) ∧ (¬ (r42 = (0 : Int)) → (((2 : Int) < (3 : Int) → ((¬ (2 : Int) = ((-1) : Int) → ((st 170 8 ≤ (0 : Int) → (170 = 170 ∧ (rq_add (2) (st 170 6) (zup st 194 ((st 170 42) - 1 : Int).toNat 0) ∧ ((170 = 170 ∧ (rq_rNext t n  (zup (zup (zup (zup st 194 ((st 170 42) - 1 : Int).toNat 0) 188 ((1600 : Int) * (st 170 35) + (st 170 34) : Int).toNat (2)) 189 ((1600 : Int) * (st 170 35) + (st 170 34) : Int).toNat (st 170 6)) 170 34 ((st 170 34) + 1)) ∧ (∀ (s44 : zS), en_rNext t n  (zup (zup (zup (zup st 194 ((st 170 42) - 1 : Int).toNat 0) 188 ((1600 : Int) * (st 170 35) + (st 170 34) : Int).toNat (2)) 189 ((1600 : Int) * (st 170 35) + (st 170 34) : Int).toNat (st 170 6)) 170 34 ((st 170 34) + 1)) s44 → ((1 = (0 : Int) ∨ 1 = (1 : Int)) ∧ Q (some (.inl 1)) s44)))))))) ∧ (¬ (st 170 8 ≤ (0 : Int)) → _))) ∧ (¬ (¬ (2 : Int) = ((-1) : Int)) → _))) ∧ (¬ ((2 : Int) < (3 : Int)) → _))))))) ∧ (¬ (r41 = (0 : Int)) → _))))) ∧ (¬ (¬ st 170 3 = (2 : Int)) → _))) ∧ (¬ (r40 = (0 : Int)) → _))))))))))))) ∧ (¬ (r37 = (0 : Int)) → _))))) ∧ (¬ (r36 = (0 : Int)) → _))))))) ∧ (¬ (r35 = (0 : Int)) → _))))))))) ∧ (¬ (r34 = (0 : Int)) → _))))))))))))))) ∧ (¬ (st 170 8 ≤ (0 : Int)) → _)))))
  refine ⟨rfl, ⟨hG, (show st 170 12 = -1 from by omega)⟩, ?_⟩
  refine ⟨fun h45 => ?_, fun h45 => (by exfalso; omega)⟩
  refine ⟨by omega, ?_⟩
  have g46 := g_frame hG ((st 170 42) - 1 : Int).toNat
  refine ⟨by omega, ?_⟩
  refine fun r17 q17 => ?_
  have b17 := q17
  change (r17 = 0 ∨ r17 = 1) ∧ (r17 = 1 ↔ (st 192 ((st 170 42) - 1 : Int).toNat) = 1 ∨ (st 192 ((st 170 42) - 1 : Int).toNat) = 5 ∨ (st 192 ((st 170 42) - 1 : Int).toNat) = 6) at b17
  refine ⟨fun h47 => ?_, fun h47 => ?_⟩
  · refine ⟨fun h48 => ?_, fun h48 => absurd (by decide) h48⟩
    refine ⟨by omega, ?_⟩
    refine ⟨by omega, ?_⟩
    refine ⟨fun h49 => ?_, fun h49 => absurd (by decide) h49⟩
    refine ⟨fun h50 => ?_, fun h50 => absurd (by decide) h50⟩
    refine ⟨rfl, fun r18 q18 => ?_⟩
    have b18 := q18
    change (r18 = 0 ∨ r18 = 1) ∧ (r18 = 1 ↔ st 170 3 = 3 ∧ st 170 6 = (40)) at b18
    refine ⟨fun h51 => ?_, fun h51 => (by exfalso; clear hQ; omega)⟩
    clear h51 b18
    refine ⟨rfl, fun r19 q19 => ?_⟩
    have b19 := q19
    change (r19 = 0 ∨ r19 = 1) ∧ (r19 = 1 ↔ st 170 3 = 1 ∧ st 170 7 = (7170414)) at b19
    refine ⟨fun h52 => (by exfalso; clear hQ; omega), fun h52 => ?_⟩
    clear h52 b19
    refine ⟨rfl, fun r20 q20 => ?_⟩
    have b20 := q20
    change (r20 = 0 ∨ r20 = 1) ∧ (r20 = 1 ↔ st 170 3 = 1 ∧ st 170 7 = (7168376)) at b20
    refine ⟨fun h53 => (by exfalso; clear hQ; omega), fun h53 => ?_⟩
    clear h53 b20
    refine ⟨rfl, fun r21 q21 => ?_⟩
    have b21 := q21
    change (r21 = 0 ∨ r21 = 1) ∧ (r21 = 1 ↔ st 170 3 = 1 ∧ st 170 7 = (26982)) at b21
    refine ⟨fun h54 => ?_, fun h54 => (by exfalso; clear hQ; omega)⟩
    clear h54 b21
    refine ⟨fun h55 => ?_, fun h55 => (by exfalso; omega)⟩
    refine ⟨rfl, fun r22 q22 => ?_⟩
    have b22 := q22
    change (r22 = 0 ∨ r22 = 1) ∧ (r22 = 1 ↔ st 170 3 = 1 ∧ st 170 7 = (1751474548)) at b22
    refine ⟨fun h56 => ?_, fun h56 => (by exfalso; clear hQ; omega)⟩
    clear h56 b22
    refine ⟨rfl, fun r23 q23 => ?_⟩
    have b23 := q23
    change (r23 = 0 ∨ r23 = 1) ∧ (r23 = 1 ↔ st 170 3 = 1 ∧ st 170 7 = (2036687218)) at b23
    refine ⟨fun h57 => (by exfalso; clear hQ; omega), fun h57 => ?_⟩
    clear h57 b23
    refine ⟨fun h58 => ?_, fun h58 => absurd (by decide) h58⟩
    refine ⟨fun h59 => ?_, fun h59 => absurd (by decide) h59⟩
    refine ⟨fun h60 => ?_, fun h60 => (by exfalso; omega)⟩
    refine ⟨rfl, ⟨(gInv_up hG (p_begins (by omega))), (show st 170 34 ≤ 1599 from by omega)⟩, ?_⟩
    refine ⟨rfl, ⟨(gInv_up (gInv_up (gInv_up (gInv_up hG (p_begins (by omega))) (p_codeSort (by omega))) (p_codeValue (by omega))) (p_codes (by omega))), (show RDr (zup (zup (zup (zup st 194 ((st 170 42) - 1 : Int).toNat 0) 188 ((1600 : Int) * (st 170 35) + (st 170 34) : Int).toNat (2)) 189 ((1600 : Int) * (st 170 35) + (st 170 34) : Int).toNat (st 170 6)) 170 34 ((st 170 34) + 1)) t n from (show RDr (zup (zup (zup (zup st 194 ((st 170 42) - 1 : Int).toNat 0) 188 ((1600 : Int) * (st 170 35) + (st 170 34) : Int).toNat (2)) 189 ((1600 : Int) * (st 170 35) + (st 170 34) : Int).toNat (st 170 6)) 170 34 ((st 170 34) + 1)) t n from mrd)), (show st 170 12 = -1 from by omega)⟩, fun s25 q25 => ?_⟩
    obtain ⟨gs25, fs25, rd25, nx25⟩ := q25
    change RDr s25 t n at rd25
    change NXr (zup (zup (zup (zup st 194 ((st 170 42) - 1 : Int).toNat 0) 188 ((1600 : Int) * (st 170 35) + (st 170 34) : Int).toNat (2)) 189 ((1600 : Int) * (st 170 35) + (st 170 34) : Int).toNat (st 170 6)) 170 34 ((st 170 34) + 1)) s25 t n at nx25
    refine ⟨by omega, ?_⟩
    have e61 : s25 170 8 = st 170 8 := fs25 170 8 rfl rfl
    have e62 : s25 170 46 = st 170 46 := fs25 170 46 rfl rfl
    have e63 : s25 170 43 = st 170 43 := fs25 170 43 rfl rfl
    have e64 : s25 170 34 = ((st 170 34) + 1) := fs25 170 34 rfl rfl
    have e65 : s25 170 45 = st 170 45 := fs25 170 45 rfl rfl
    have e66 : s25 170 42 = st 170 42 := fs25 170 42 rfl rfl
    exact hQ _ _ ⟨gs25, (fr_tr (fr_f (fr_a (fr_a (fr_a (fr_rf _ _) rfl) rfl) rfl) rfl) fs25 rfl), (Z9_tr (Z9_up (Z9_st (Z9_up (Z9_up (Z9_rf _) (by decide)) (by decide)) (b := st 170 35) rfl (by omega)) (by decide)) ((show aFr m_rOp72 st (zup (zup (zup (zup st 194 ((st 170 42) - 1 : Int).toNat 0) 188 ((1600 : Int) * (st 170 35) + (st 170 34) : Int).toNat (2)) 189 ((1600 : Int) * (st 170 35) + (st 170 34) : Int).toNat (st 170 6)) 170 34 ((st 170 34) + 1)) from (fr_f (fr_a (fr_a (fr_a (fr_rf _ _) rfl) rfl) rfl) rfl)) 170 35 rfl rfl) (Z9_fr fs25 (fun _ => rfl) rfl)), (show (1 : Int) = 1 ∧ mcP t n s25 ((k, ph, 0, pr, w) :: fs) 0 (o) (c ++ [2]) (e) from (by
            have hp : s25 170 4 = e := NXr_e (st := (zup (zup (zup (zup st 194 ((st 170 42) - 1 : Int).toNat 0) 188 ((1600 : Int) * (st 170 35) + (st 170 34) : Int).toNat (2)) 189 ((1600 : Int) * (st 170 35) + (st 170 34) : Int).toNat (st 170 6)) 170 34 ((st 170 34) + 1))) (show NXr (zup (zup (zup (zup st 194 ((st 170 42) - 1 : Int).toNat 0) 188 ((1600 : Int) * (st 170 35) + (st 170 34) : Int).toNat (2)) 189 ((1600 : Int) * (st 170 35) + (st 170 34) : Int).toNat (st 170 6)) 170 34 ((st 170 34) + 1)) s25 t n from nx25) (show tk t n ((zup (zup (zup (zup st 194 ((st 170 42) - 1 : Int).toNat 0) 188 ((1600 : Int) * (st 170 35) + (st 170 34) : Int).toNat (2)) 189 ((1600 : Int) * (st 170 35) + (st 170 34) : Int).toNat (st 170 6)) 170 34 ((st 170 34) + 1)) 170 4) _ _ e from by rw [show (zup (zup (zup (zup st 194 ((st 170 42) - 1 : Int).toNat 0) 188 ((1600 : Int) * (st 170 35) + (st 170 34) : Int).toNat (2)) 189 ((1600 : Int) * (st 170 35) + (st 170 34) : Int).toNat (st 170 6)) 170 34 ((st 170 34) + 1)) 170 4 = p from mpp]; exact ht.1) (by omega)
            have hl := tk_lt ht.1 (show 0 ≤ p from by rw [← mpp]; exact mrd.2.1.1) (by omega)
            exact ⟨rfl, ⟨by omega, by omega, by omega, hp, rd25, mcQ_of (fun i => fs25 192 i rfl rfl) (fun i => fs25 193 i rfl rfl) (fun i => fs25 194 i rfl rfl) (fun i => fs25 195 i rfl rfl) (fun i => fs25 196 i rfl rfl) (fun i => fs25 197 i rfl rfl) (fs25 170 42 rfl rfl) (fs25 170 45 rfl rfl) (fs25 170 35 rfl rfl) (fs25 170 34 rfl rfl) (fun i => fs25 188 i rfl rfl) (fun i => fs25 189 i rfl rfl) (show mcQ (zup (zup (zup (zup st 194 ((st 170 42) - 1 : Int).toNat 0) 188 ((1600 : Int) * (st 170 35) + (st 170 34) : Int).toNat (2)) 189 ((1600 : Int) * (st 170 35) + (st 170 34) : Int).toNat (st 170 6)) 170 34 ((st 170 34) + 1)) ((k, ph, 0, pr, w) :: fs) (c ++ [2]) from ⟨FR_bg 0 mb.2.1 mfr, WB_c ml (WB_el mwb) (WB_tl mwb), CDr_add (b := st 170 35) (n := st 170 34) (by omega) mcd (by omega) (fun h => by omega)⟩), by omega, by omega, by omega, by rw [List.length_cons]; omega⟩⟩))⟩
  · have g67 := g_begins hG ((st 170 42) - 1 : Int).toNat
    refine ⟨by omega, ?_⟩
    refine ⟨fun h68 => ?_, fun h68 => ?_⟩
    · refine ⟨fun h69 => ?_, fun h69 => absurd (by decide) h69⟩
      refine ⟨by omega, ?_⟩
      refine ⟨by omega, ?_⟩
      refine ⟨fun h70 => ?_, fun h70 => absurd (by decide) h70⟩
      refine ⟨fun h71 => ?_, fun h71 => absurd (by decide) h71⟩
      refine ⟨rfl, fun r26 q26 => ?_⟩
      have b26 := q26
      change (r26 = 0 ∨ r26 = 1) ∧ (r26 = 1 ↔ st 170 3 = 3 ∧ st 170 6 = (40)) at b26
      refine ⟨fun h72 => ?_, fun h72 => (by exfalso; clear hQ; omega)⟩
      clear h72 b26
      refine ⟨rfl, fun r27 q27 => ?_⟩
      have b27 := q27
      change (r27 = 0 ∨ r27 = 1) ∧ (r27 = 1 ↔ st 170 3 = 1 ∧ st 170 7 = (7170414)) at b27
      refine ⟨fun h73 => (by exfalso; clear hQ; omega), fun h73 => ?_⟩
      clear h73 b27
      refine ⟨rfl, fun r28 q28 => ?_⟩
      have b28 := q28
      change (r28 = 0 ∨ r28 = 1) ∧ (r28 = 1 ↔ st 170 3 = 1 ∧ st 170 7 = (7168376)) at b28
      refine ⟨fun h74 => (by exfalso; clear hQ; omega), fun h74 => ?_⟩
      clear h74 b28
      refine ⟨rfl, fun r29 q29 => ?_⟩
      have b29 := q29
      change (r29 = 0 ∨ r29 = 1) ∧ (r29 = 1 ↔ st 170 3 = 1 ∧ st 170 7 = (26982)) at b29
      refine ⟨fun h75 => ?_, fun h75 => (by exfalso; clear hQ; omega)⟩
      clear h75 b29
      refine ⟨fun h76 => ?_, fun h76 => (by exfalso; omega)⟩
      refine ⟨rfl, fun r30 q30 => ?_⟩
      have b30 := q30
      change (r30 = 0 ∨ r30 = 1) ∧ (r30 = 1 ↔ st 170 3 = 1 ∧ st 170 7 = (1751474548)) at b30
      refine ⟨fun h77 => ?_, fun h77 => (by exfalso; clear hQ; omega)⟩
      clear h77 b30
      refine ⟨rfl, fun r31 q31 => ?_⟩
      have b31 := q31
      change (r31 = 0 ∨ r31 = 1) ∧ (r31 = 1 ↔ st 170 3 = 1 ∧ st 170 7 = (2036687218)) at b31
      refine ⟨fun h78 => (by exfalso; clear hQ; omega), fun h78 => ?_⟩
      clear h78 b31
      refine ⟨fun h79 => ?_, fun h79 => absurd (by decide) h79⟩
      refine ⟨fun h80 => ?_, fun h80 => absurd (by decide) h80⟩
      refine ⟨fun h81 => ?_, fun h81 => (by exfalso; omega)⟩
      refine ⟨rfl, ⟨(gInv_up hG (p_begins (by omega))), (show st 170 34 ≤ 1599 from by omega)⟩, ?_⟩
      refine ⟨rfl, ⟨(gInv_up (gInv_up (gInv_up (gInv_up hG (p_begins (by omega))) (p_codeSort (by omega))) (p_codeValue (by omega))) (p_codes (by omega))), (show RDr (zup (zup (zup (zup st 194 ((st 170 42) - 1 : Int).toNat 0) 188 ((1600 : Int) * (st 170 35) + (st 170 34) : Int).toNat (2)) 189 ((1600 : Int) * (st 170 35) + (st 170 34) : Int).toNat (st 170 6)) 170 34 ((st 170 34) + 1)) t n from (show RDr (zup (zup (zup (zup st 194 ((st 170 42) - 1 : Int).toNat 0) 188 ((1600 : Int) * (st 170 35) + (st 170 34) : Int).toNat (2)) 189 ((1600 : Int) * (st 170 35) + (st 170 34) : Int).toNat (st 170 6)) 170 34 ((st 170 34) + 1)) t n from mrd)), (show st 170 12 = -1 from by omega)⟩, fun s33 q33 => ?_⟩
      obtain ⟨gs33, fs33, rd33, nx33⟩ := q33
      change RDr s33 t n at rd33
      change NXr (zup (zup (zup (zup st 194 ((st 170 42) - 1 : Int).toNat 0) 188 ((1600 : Int) * (st 170 35) + (st 170 34) : Int).toNat (2)) 189 ((1600 : Int) * (st 170 35) + (st 170 34) : Int).toNat (st 170 6)) 170 34 ((st 170 34) + 1)) s33 t n at nx33
      refine ⟨by omega, ?_⟩
      have e82 : s33 170 8 = st 170 8 := fs33 170 8 rfl rfl
      have e83 : s33 170 46 = st 170 46 := fs33 170 46 rfl rfl
      have e84 : s33 170 43 = st 170 43 := fs33 170 43 rfl rfl
      have e85 : s33 170 34 = ((st 170 34) + 1) := fs33 170 34 rfl rfl
      have e86 : s33 170 45 = st 170 45 := fs33 170 45 rfl rfl
      have e87 : s33 170 42 = st 170 42 := fs33 170 42 rfl rfl
      exact hQ _ _ ⟨gs33, (fr_tr (fr_f (fr_a (fr_a (fr_a (fr_rf _ _) rfl) rfl) rfl) rfl) fs33 rfl), (Z9_tr (Z9_up (Z9_st (Z9_up (Z9_up (Z9_rf _) (by decide)) (by decide)) (b := st 170 35) rfl (by omega)) (by decide)) ((show aFr m_rOp72 st (zup (zup (zup (zup st 194 ((st 170 42) - 1 : Int).toNat 0) 188 ((1600 : Int) * (st 170 35) + (st 170 34) : Int).toNat (2)) 189 ((1600 : Int) * (st 170 35) + (st 170 34) : Int).toNat (st 170 6)) 170 34 ((st 170 34) + 1)) from (fr_f (fr_a (fr_a (fr_a (fr_rf _ _) rfl) rfl) rfl) rfl)) 170 35 rfl rfl) (Z9_fr fs33 (fun _ => rfl) rfl)), (show (1 : Int) = 1 ∧ mcP t n s33 ((k, ph, 0, pr, w) :: fs) 0 (o) (c ++ [2]) (e) from (by
            have hp : s33 170 4 = e := NXr_e (st := (zup (zup (zup (zup st 194 ((st 170 42) - 1 : Int).toNat 0) 188 ((1600 : Int) * (st 170 35) + (st 170 34) : Int).toNat (2)) 189 ((1600 : Int) * (st 170 35) + (st 170 34) : Int).toNat (st 170 6)) 170 34 ((st 170 34) + 1))) (show NXr (zup (zup (zup (zup st 194 ((st 170 42) - 1 : Int).toNat 0) 188 ((1600 : Int) * (st 170 35) + (st 170 34) : Int).toNat (2)) 189 ((1600 : Int) * (st 170 35) + (st 170 34) : Int).toNat (st 170 6)) 170 34 ((st 170 34) + 1)) s33 t n from nx33) (show tk t n ((zup (zup (zup (zup st 194 ((st 170 42) - 1 : Int).toNat 0) 188 ((1600 : Int) * (st 170 35) + (st 170 34) : Int).toNat (2)) 189 ((1600 : Int) * (st 170 35) + (st 170 34) : Int).toNat (st 170 6)) 170 34 ((st 170 34) + 1)) 170 4) _ _ e from by rw [show (zup (zup (zup (zup st 194 ((st 170 42) - 1 : Int).toNat 0) 188 ((1600 : Int) * (st 170 35) + (st 170 34) : Int).toNat (2)) 189 ((1600 : Int) * (st 170 35) + (st 170 34) : Int).toNat (st 170 6)) 170 34 ((st 170 34) + 1)) 170 4 = p from mpp]; exact ht.1) (by omega)
            have hl := tk_lt ht.1 (show 0 ≤ p from by rw [← mpp]; exact mrd.2.1.1) (by omega)
            exact ⟨rfl, ⟨by omega, by omega, by omega, hp, rd33, mcQ_of (fun i => fs33 192 i rfl rfl) (fun i => fs33 193 i rfl rfl) (fun i => fs33 194 i rfl rfl) (fun i => fs33 195 i rfl rfl) (fun i => fs33 196 i rfl rfl) (fun i => fs33 197 i rfl rfl) (fs33 170 42 rfl rfl) (fs33 170 45 rfl rfl) (fs33 170 35 rfl rfl) (fs33 170 34 rfl rfl) (fun i => fs33 188 i rfl rfl) (fun i => fs33 189 i rfl rfl) (show mcQ (zup (zup (zup (zup st 194 ((st 170 42) - 1 : Int).toNat 0) 188 ((1600 : Int) * (st 170 35) + (st 170 34) : Int).toNat (2)) 189 ((1600 : Int) * (st 170 35) + (st 170 34) : Int).toNat (st 170 6)) 170 34 ((st 170 34) + 1)) ((k, ph, 0, pr, w) :: fs) (c ++ [2]) from ⟨FR_bg 0 mb.2.1 mfr, WB_c ml (WB_el mwb) (WB_tl mwb), CDr_add (b := st 170 35) (n := st 170 34) (by omega) mcd (by omega) (fun h => by omega)⟩), by omega, by omega, by omega, by rw [List.length_cons]; omega⟩⟩))⟩
    · refine ⟨fun h88 => absurd h88 (by decide), fun h88 => ?_⟩
      refine ⟨rfl, fun r34 q34 => ?_⟩
      have b34 := q34
      change (r34 = 0 ∨ r34 = 1) ∧ (r34 = 1 ↔ st 170 3 = 1 ∧ st 170 7 = (7237492)) at b34
      refine ⟨fun h89 => ?_, fun h89 => (by exfalso; clear hQ; omega)⟩
      clear h89 b34
      refine ⟨by omega, ?_⟩
      refine ⟨by omega, ?_⟩
      refine ⟨fun h90 => absurd h90 (by decide), fun h90 => ?_⟩
      refine ⟨rfl, fun r35 q35 => ?_⟩
      have b35 := q35
      change (r35 = 0 ∨ r35 = 1) ∧ (r35 = 1 ↔ st 170 3 = 3 ∧ st 170 6 = (91)) at b35
      refine ⟨fun h91 => ?_, fun h91 => (by exfalso; clear hQ; omega)⟩
      clear h91 b35
      refine ⟨fun h92 => absurd h92 (by decide), fun h92 => ?_⟩
      refine ⟨rfl, fun r36 q36 => ?_⟩
      have b36 := q36
      change (r36 = 0 ∨ r36 = 1) ∧ (r36 = 1 ↔ st 170 3 = 1 ∧ st 170 7 = (6384748)) at b36
      refine ⟨fun h93 => ?_, fun h93 => (by exfalso; clear hQ; omega)⟩
      clear h93 b36
      refine ⟨rfl, fun r37 q37 => ?_⟩
      have b37 := q37
      change (r37 = 0 ∨ r37 = 1) ∧ (r37 = 1 ↔ st 170 3 = 3 ∧ st 170 6 = (40)) at b37
      refine ⟨fun h94 => ?_, fun h94 => (by exfalso; clear hQ; omega)⟩
      clear h94 b37
      refine ⟨rfl, fun r38 q38 => ?_⟩
      have b38 := q38
      change (r38 = 0 ∨ r38 = 1) ∧ (r38 = 1 ↔ st 170 3 = 1 ∧ st 170 7 = (7170414)) at b38
      refine ⟨fun h95 => (by exfalso; clear hQ; omega), fun h95 => ?_⟩
      clear h95 b38
      refine ⟨rfl, fun r39 q39 => ?_⟩
      have b39 := q39
      change (r39 = 0 ∨ r39 = 1) ∧ (r39 = 1 ↔ st 170 3 = 1 ∧ st 170 7 = (7168376)) at b39
      refine ⟨fun h96 => (by exfalso; clear hQ; omega), fun h96 => ?_⟩
      clear h96 b39
      refine ⟨rfl, fun r40 q40 => ?_⟩
      have b40 := q40
      change (r40 = 0 ∨ r40 = 1) ∧ (r40 = 1 ↔ st 170 3 = 1 ∧ st 170 7 = (26982)) at b40
      refine ⟨fun h97 => ?_, fun h97 => (by exfalso; clear hQ; omega)⟩
      clear h97 b40
      refine ⟨fun h98 => ?_, fun h98 => (by exfalso; omega)⟩
      refine ⟨rfl, fun r41 q41 => ?_⟩
      have b41 := q41
      change (r41 = 0 ∨ r41 = 1) ∧ (r41 = 1 ↔ st 170 3 = 1 ∧ st 170 7 = (1751474548)) at b41
      refine ⟨fun h99 => ?_, fun h99 => (by exfalso; clear hQ; omega)⟩
      clear h99 b41
      refine ⟨rfl, fun r42 q42 => ?_⟩
      have b42 := q42
      change (r42 = 0 ∨ r42 = 1) ∧ (r42 = 1 ↔ st 170 3 = 1 ∧ st 170 7 = (2036687218)) at b42
      refine ⟨fun h100 => (by exfalso; clear hQ; omega), fun h100 => ?_⟩
      clear h100 b42
      refine ⟨fun h101 => ?_, fun h101 => absurd (by decide) h101⟩
      refine ⟨fun h102 => ?_, fun h102 => absurd (by decide) h102⟩
      refine ⟨fun h103 => ?_, fun h103 => (by exfalso; omega)⟩
      refine ⟨rfl, ⟨(gInv_up hG (p_begins (by omega))), (show st 170 34 ≤ 1599 from by omega)⟩, ?_⟩
      refine ⟨rfl, ⟨(gInv_up (gInv_up (gInv_up (gInv_up hG (p_begins (by omega))) (p_codeSort (by omega))) (p_codeValue (by omega))) (p_codes (by omega))), (show RDr (zup (zup (zup (zup st 194 ((st 170 42) - 1 : Int).toNat 0) 188 ((1600 : Int) * (st 170 35) + (st 170 34) : Int).toNat (2)) 189 ((1600 : Int) * (st 170 35) + (st 170 34) : Int).toNat (st 170 6)) 170 34 ((st 170 34) + 1)) t n from (show RDr (zup (zup (zup (zup st 194 ((st 170 42) - 1 : Int).toNat 0) 188 ((1600 : Int) * (st 170 35) + (st 170 34) : Int).toNat (2)) 189 ((1600 : Int) * (st 170 35) + (st 170 34) : Int).toNat (st 170 6)) 170 34 ((st 170 34) + 1)) t n from mrd)), (show st 170 12 = -1 from by omega)⟩, fun s44 q44 => ?_⟩
      obtain ⟨gs44, fs44, rd44, nx44⟩ := q44
      change RDr s44 t n at rd44
      change NXr (zup (zup (zup (zup st 194 ((st 170 42) - 1 : Int).toNat 0) 188 ((1600 : Int) * (st 170 35) + (st 170 34) : Int).toNat (2)) 189 ((1600 : Int) * (st 170 35) + (st 170 34) : Int).toNat (st 170 6)) 170 34 ((st 170 34) + 1)) s44 t n at nx44
      refine ⟨by omega, ?_⟩
      have e104 : s44 170 8 = st 170 8 := fs44 170 8 rfl rfl
      have e105 : s44 170 46 = st 170 46 := fs44 170 46 rfl rfl
      have e106 : s44 170 43 = st 170 43 := fs44 170 43 rfl rfl
      have e107 : s44 170 34 = ((st 170 34) + 1) := fs44 170 34 rfl rfl
      have e108 : s44 170 45 = st 170 45 := fs44 170 45 rfl rfl
      have e109 : s44 170 42 = st 170 42 := fs44 170 42 rfl rfl
      exact hQ _ _ ⟨gs44, (fr_tr (fr_f (fr_a (fr_a (fr_a (fr_rf _ _) rfl) rfl) rfl) rfl) fs44 rfl), (Z9_tr (Z9_up (Z9_st (Z9_up (Z9_up (Z9_rf _) (by decide)) (by decide)) (b := st 170 35) rfl (by omega)) (by decide)) ((show aFr m_rOp72 st (zup (zup (zup (zup st 194 ((st 170 42) - 1 : Int).toNat 0) 188 ((1600 : Int) * (st 170 35) + (st 170 34) : Int).toNat (2)) 189 ((1600 : Int) * (st 170 35) + (st 170 34) : Int).toNat (st 170 6)) 170 34 ((st 170 34) + 1)) from (fr_f (fr_a (fr_a (fr_a (fr_rf _ _) rfl) rfl) rfl) rfl)) 170 35 rfl rfl) (Z9_fr fs44 (fun _ => rfl) rfl)), (show (1 : Int) = 1 ∧ mcP t n s44 ((k, ph, 0, pr, w) :: fs) 0 (o) (c ++ [2]) (e) from (by
            have hp : s44 170 4 = e := NXr_e (st := (zup (zup (zup (zup st 194 ((st 170 42) - 1 : Int).toNat 0) 188 ((1600 : Int) * (st 170 35) + (st 170 34) : Int).toNat (2)) 189 ((1600 : Int) * (st 170 35) + (st 170 34) : Int).toNat (st 170 6)) 170 34 ((st 170 34) + 1))) (show NXr (zup (zup (zup (zup st 194 ((st 170 42) - 1 : Int).toNat 0) 188 ((1600 : Int) * (st 170 35) + (st 170 34) : Int).toNat (2)) 189 ((1600 : Int) * (st 170 35) + (st 170 34) : Int).toNat (st 170 6)) 170 34 ((st 170 34) + 1)) s44 t n from nx44) (show tk t n ((zup (zup (zup (zup st 194 ((st 170 42) - 1 : Int).toNat 0) 188 ((1600 : Int) * (st 170 35) + (st 170 34) : Int).toNat (2)) 189 ((1600 : Int) * (st 170 35) + (st 170 34) : Int).toNat (st 170 6)) 170 34 ((st 170 34) + 1)) 170 4) _ _ e from by rw [show (zup (zup (zup (zup st 194 ((st 170 42) - 1 : Int).toNat 0) 188 ((1600 : Int) * (st 170 35) + (st 170 34) : Int).toNat (2)) 189 ((1600 : Int) * (st 170 35) + (st 170 34) : Int).toNat (st 170 6)) 170 34 ((st 170 34) + 1)) 170 4 = p from mpp]; exact ht.1) (by omega)
            have hl := tk_lt ht.1 (show 0 ≤ p from by rw [← mpp]; exact mrd.2.1.1) (by omega)
            exact ⟨rfl, ⟨by omega, by omega, by omega, hp, rd44, mcQ_of (fun i => fs44 192 i rfl rfl) (fun i => fs44 193 i rfl rfl) (fun i => fs44 194 i rfl rfl) (fun i => fs44 195 i rfl rfl) (fun i => fs44 196 i rfl rfl) (fun i => fs44 197 i rfl rfl) (fs44 170 42 rfl rfl) (fs44 170 45 rfl rfl) (fs44 170 35 rfl rfl) (fs44 170 34 rfl rfl) (fun i => fs44 188 i rfl rfl) (fun i => fs44 189 i rfl rfl) (show mcQ (zup (zup (zup (zup st 194 ((st 170 42) - 1 : Int).toNat 0) 188 ((1600 : Int) * (st 170 35) + (st 170 34) : Int).toNat (2)) 189 ((1600 : Int) * (st 170 35) + (st 170 34) : Int).toNat (st 170 6)) 170 34 ((st 170 34) + 1)) ((k, ph, 0, pr, w) :: fs) (c ++ [2]) from ⟨FR_bg 0 mb.2.1 mfr, WB_c ml (WB_el mwb) (WB_tl mwb), CDr_add (b := st 170 35) (n := st 170 34) (by omega) mcd (by omega) (fun h => by omega)⟩), by omega, by omega, by omega, by rw [List.length_cons]; omega⟩⟩))⟩
theorem k_rOp72_m (hTb : aTb zSh rx_tb cl) {t : Int → Int} {n k ph bg pr o p e : Int} {w c : List Int} {fs : List mFr} {D : Nat} (hD : 4 ≤ D) : ∀ as st (Q Q' : zQ), (∀ r st', Q r st' → Q' r st') → (k_rOp72 t n k ph bg pr o p e w c fs) 196 as st Q → cl D 196 as st Q' := by
  intro as st Q Q' hQ h
  unfold k_rOp72 at h
  split at h
  · obtain ⟨rfl, h⟩ := h
    exact c_rOp72 hTb hD (ct_rOp72_m hQ h)
  · exact h.elim
set_option maxHeartbeats 4000000 in
set_option maxRecDepth 100000 in
theorem c_rOp73 (hTb : aTb zSh rx_tb cl) {t : Int → Int} {n k ph bg pr o p e : Int} {w c : List Int} {fs : List mFr} {D : Nat} (hD : 4 ≤ D) {st : zS} {Q : zQ} (h : ct_rOp73 t n k ph bg pr o p e w c fs st Q) : cl D 196 [.inr (.inr (.inl 170))] st Q := by
  obtain ⟨d, rfl⟩ : ∃ d, D = d + 1 := ⟨D - 1, by omega⟩
  refine hTb d 196 (rx_m196, 4, 0, 0, 2) rfl _ _ _ (Nat.le_of_ble_eq_true rfl) (fun K hcl hsf hsl => ?_)
  have hcm : zmo (wcL [(181, k_rLex), (195, k_isTest), (183, k_isWord), (182, k_isSign), (149, k_rNext t n), (189, k_add), (192, k_holdsBack), (194, k_rOpens t n)]) (cl d) := (wcL_m (wm_cons (k_rLex_m hTb (by omega)) (wm_cons (k_isTest_m hTb (by omega)) (wm_cons (k_isWord_m hTb (by omega)) (wm_cons (k_isSign_m hTb (by omega)) (wm_cons (k_rNext_m hTb (by omega)) (wm_cons (k_add_m hTb (by omega)) (wm_cons (k_holdsBack_m hTb (by omega)) (wm_cons (k_rOpens_m hTb (by omega)) wm_nil)))))))))
  obtain ⟨hR, hQ⟩ := h
  obtain ⟨hG, mp, ht⟩ := hR
  change mcP t n st ((k, ph, bg, pr, w) :: fs) 0 (o) (c) (p) at mp
  change tk t n p 1 1953459300 e ∧ st 170 36 = 0 at ht
  have g1 := g_isClever hG
  obtain ⟨mf, mo, mn, mpp, mrd, mq, mbd, mz1, mz2, mz3⟩ := mp
  rw [List.length_cons] at mz3
  have mq0 := mq
  obtain ⟨mfr, mwb, mcd⟩ := mq
  have mt := FR_top mfr
  have mb := FR_bnd _ _ _ mwb mfr
  rw [List.length_cons] at mb
  have ml := WB_hd mwb
  have mcl := mcd.1
  have mlw := FR_len mb.2.1 mfr
  have tf := r_wrd mrd (by rw [mpp]; exact ht.1)
  have g2 := g_codes hG
  have g3 := g_in hG
  have g4 := g_deep hG
  have g5 := g_open hG
  have g6 := g_opMany hG
  have g7 := g_signAt hG
  have g8 := g_signEnd hG
  have g9 := g_faultKind hG
  have g10 := g_size hG
  have g11 := g_sign hG
  have g12 := g_lexAt hG
  have g13 := g_value hG
  have g14 := g_word hG
  have g15 := g_operand hG
  refine yr1_ok (Rt := Q) (wc := (wcL [(181, k_rLex), (195, k_isTest), (183, k_isWord), (182, k_isSign), (149, k_rNext t n), (189, k_add), (192, k_holdsBack), (194, k_rOpens t n)])) (stp := []) hcm hcl [] 400 ?_
  show (170 = 170 ∧ (rq_rLex  st ∧ (((st 170 8 ≤ (0 : Int) → ((-2147483648 ≤ (st 170 42) - 1 ∧ (st 170 42) - 1 ≤ 2147483647) ∧ ((0 ≤ (st 170 42) - 1 ∧ (st 170 42) - 1 < 20) ∧ (∀ (r17 : Int), en_isTest (st 192 ((st 170 42) - 1 : Int).toNat) st r17 → ((r17 = (0 : Int) → (((0 : Int) = (0 : Int) → ((0 ≤ (st 170 42) - 1 ∧ (st 170 42) - 1 < 20) ∧ ((0 = (0 : Int) ∨ 0 = (1 : Int)) ∧ (((0 : Int) = (0 : Int) → (((0 : Int) = (0 : Int) → (170 = 170 ∧ (∀ (r18 : Int), en_isSign (40) (zup st 194 ((st 170 42) - 1 : Int).toNat 0) r18 → ((r18 = (0 : Int) → (170 = 170 ∧ (∀ (r19 : Int), en_isWord (7170414) (zup st 194 ((st 170 42) - 1 : Int).toNat 0) r19 → ((¬ r19 = (0 : Int) → _) ∧ (¬ (¬ r19 = (0 : Int)) → (170 = 170 ∧ (∀ (r20 : Int), en_isWord (7168376) (zup st 194 ((st 170 42) - 1 : Int).toNat 0) r20 → ((¬ r20 = (0 : Int) → _) ∧ (¬ (¬ r20 = (0 : Int)) → (170 = 170 ∧ (∀ (r21 : Int), en_isWord (26982) (zup st 194 ((st 170 42) - 1 : Int).toNat 0) r21 → ((r21 = (0 : Int) → ((¬ st 170 3 = (2 : Int) → (170 = 170 ∧ (∀ (r22 : Int), en_isWord (1751474548) (zup st 194 ((st 170 42) - 1 : Int).toNat 0) r22 → ((r22 = (0 : Int) → (170 = 170 ∧ (∀ (r23 : Int), en_isWord (2036687218) (zup st 194 ((st 170 42) - 1 : Int).toNat 0) r23 → ((r23 = (0 : Int) → (170 = 170 ∧ (∀ (r24 : Int), en_isWord (1953459300) (zup st 194 ((st 170 42) - 1 : Int).toNat 0) r24 → ((r24 = (0 : Int) → _) ∧ (¬ (r24 = (0 : Int)) → (((3 : Int) < (3 : Int) → _) ∧ (¬ ((3 : Int) < (3 : Int)) → (((3 : Int) ≤ (6 : Int) → (((0 : Int) = st 170 36 → ((¬ (3 : Int) = ((-1) : Int) → ((st 170 8 ≤ (0 : Int) → (170 = 170 ∧ (rq_add (3) (st 170 6) (zup st 194 ((st 170 42) - 1 : Int).toNat 0) ∧ ((170 = 170 ∧ (rq_rNext t n  (zup (zup (zup (zup st 194 ((st 170 42) - 1 : Int).toNat 0) 188 ((1600 : Int) * (st 170 35) + (st 170 34) : Int).toNat (3)) 189 ((1600 : Int) * (st 170 35) + (st 170 34) : Int).toNat (st 170 6)) 170 34 ((st 170 34) + 1)) ∧ (∀ (s26 : zS), en_rNext t n  (zup (zup (zup (zup st 194 ((st 170 42) - 1 : Int).toNat 0) 188 ((1600 : Int) * (st 170 35) + (st 170 34) : Int).toNat (3)) 189 ((1600 : Int) * (st 170 35) + (st 170 34) : Int).toNat (st 170 6)) 170 34 ((st 170 34) + 1)) s26 → ((1 = (0 : Int) ∨ 1 = (1 : Int)) ∧ Q (some (.inl 1)) s26)))))))) ∧ (¬ (st 170 8 ≤ (0 : Int)) → _))) ∧ (¬ (¬ (3 : Int) = ((-1) : Int)) → _))) ∧ (¬ ((0 : Int) = st 170 36) → _))) ∧ (¬ ((3 : Int) ≤ (6 : Int)) → _))))))))) ∧ (¬ (r23 = (0 : Int)) → _))))) ∧ (¬ (r22 = (0 : Int)) → _))))) ∧ (¬ (¬ st 170 3 = (2 : Int)) → _))) ∧ (¬ (r21 = (0 : Int)) → _))))))))))))) ∧ (¬ (r18 = (0 : Int)) → _))))) ∧ (¬ ((0 : Int) = (0 : Int)) → _))) ∧ (¬ ((0 : Int) = (0 : Int)) → _))))) ∧ (¬ ((0 : Int) = (0 : Int)) → _))) ∧ (¬ (r17 = (0 : Int)) → ((0 ≤ (st 170 42) - 1 ∧ (st 170 42) - 1 < 20) ∧ ((st 194 ((st 170 42) - 1 : Int).toNat = (0 : Int) → (((0 : Int) = (0 : Int) → ((0 ≤ (st 170 42) - 1 ∧ (st 170 42) - 1 < 20) ∧ ((0 = (0 : Int) ∨ 0 = (1 : Int)) ∧ (((0 : Int) = (0 : Int) → (((0 : Int) = (0 : Int) → (170 = 170 ∧ (∀ (r27 : Int), en_isSign (40) (zup st 194 ((st 170 42) - 1 : Int).toNat 0) r27 → ((r27 = (0 : Int) → (170 = 170 ∧ (∀ (r28 : Int), en_isWord (7170414) (zup st 194 ((st 170 42) - 1 : Int).toNat 0) r28 → ((¬ r28 = (0 : Int) → _) ∧ (¬ (¬ r28 = (0 : Int)) → (170 = 170 ∧ (∀ (r29 : Int), en_isWord (7168376) (zup st 194 ((st 170 42) - 1 : Int).toNat 0) r29 → ((¬ r29 = (0 : Int) → _) ∧ (¬ (¬ r29 = (0 : Int)) → (170 = 170 ∧ (∀ (r30 : Int), en_isWord (26982) (zup st 194 ((st 170 42) - 1 : Int).toNat 0) r30 → ((r30 = (0 : Int) → ((¬ st 170 3 = (2 : Int) → (170 = 170 ∧ (∀ (r31 : Int), en_isWord (1751474548) (zup st 194 ((st 170 42) - 1 : Int).toNat 0) r31 → ((r31 = (0 : Int) → (170 = 170 ∧ (∀ (r32 : Int), en_isWord (2036687218) (zup st 194 ((st 170 42) - 1 : Int).toNat 0) r32 → ((r32 = (0 : Int) → (170 = 170 ∧ (∀ (r33 : Int), en_isWord (1953459300) (zup st 194 ((st 170 42) - 1 : Int).toNat 0) r33 → ((r33 = (0 : Int) → _) ∧ (¬ (r33 = (0 : Int)) → (((3 : Int) < (3 : Int) → _) ∧ (¬ ((3 : Int) < (3 : Int)) → (((3 : Int) ≤ (6 : Int) → (((0 : Int) = st 170 36 → ((¬ (3 : Int) = ((-1) : Int) → ((st 170 8 ≤ (0 : Int) → (170 = 170 ∧ (rq_add (3) (st 170 6) (zup st 194 ((st 170 42) - 1 : Int).toNat 0) ∧ ((170 = 170 ∧ (rq_rNext t n  (zup (zup (zup (zup st 194 ((st 170 42) - 1 : Int).toNat 0) 188 ((1600 : Int) * (st 170 35) + (st 170 34) : Int).toNat (3)) 189 ((1600 : Int) * (st 170 35) + (st 170 34) : Int).toNat (st 170 6)) 170 34 ((st 170 34) + 1)) ∧ (∀ (s35 : zS), en_rNext t n  (zup (zup (zup (zup st 194 ((st 170 42) - 1 : Int).toNat 0) 188 ((1600 : Int) * (st 170 35) + (st 170 34) : Int).toNat (3)) 189 ((1600 : Int) * (st 170 35) + (st 170 34) : Int).toNat (st 170 6)) 170 34 ((st 170 34) + 1)) s35 → ((1 = (0 : Int) ∨ 1 = (1 : Int)) ∧ Q (some (.inl 1)) s35)))))))) ∧ (¬ (st 170 8 ≤ (0 : Int)) → _))) ∧ (¬ (¬ (3 : Int) = ((-1) : Int)) → _))) ∧ (¬ ((0 : Int) = st 170 36) → _))) ∧ (¬ ((3 : Int) ≤ (6 : Int)) → _))))))))) ∧ (¬ (r32 = (0 : Int)) → _))))) ∧ (¬ (r31 = (0 : Int)) → _))))) ∧ (¬ (¬ st 170 3 = (2 : Int)) → _))) ∧ (¬ (r30 = (0 : Int)) → _))))))))))))) ∧ (¬ (r27 = (0 : Int)) → _))))) ∧ (¬ ((0 : Int) = (0 : Int)) → _))) ∧ (¬ ((0 : Int) = (0 : Int)) → _))))) ∧ (¬ ((0 : Int) = (0 : Int)) → _))) ∧ (¬ (st 194 ((st 170 42) - 1 : Int).toNat = (0 : Int)) → (((1 : Int) = (0 : Int) → _) ∧ (¬ ((1 : Int) = (0 : Int)) → (170 = 170 ∧ (∀ (r36 : Int), en_isWord (7237492) st r36 → ((r36 = (0 : Int) → ((0 ≤ (st 170 42) - 1 ∧ (st 170 42) - 1 < 20) ∧ ((0 = (0 : Int) ∨ 0 = (1 : Int)) ∧ (((1 : Int) = (0 : Int) → _) ∧ (¬ ((1 : Int) = (0 : Int)) → (170 = 170 ∧ (∀ (r37 : Int), en_isSign (91) (zup st 194 ((st 170 42) - 1 : Int).toNat 0) r37 → ((r37 = (0 : Int) → (((1 : Int) = (0 : Int) → _) ∧ (¬ ((1 : Int) = (0 : Int)) → (170 = 170 ∧ (∀ (r38 : Int), en_isWord (6384748) (zup st 194 ((st 170 42) - 1 : Int).toNat 0) r38 → ((r38 = (0 : Int) → (170 = 170 ∧ (∀ (r39 : Int), en_isSign (40) (zup st 194 ((st 170 42) - 1 : Int).toNat 0) r39 → ((r39 = (0 : Int) → (170 = 170 ∧ (∀ (r40 : Int), en_isWord (7170414) (zup st 194 ((st 170 42) - 1 : Int).toNat 0) r40 → ((¬ r40 = (0 : Int) → _) ∧ (¬ (¬ r40 = (0 : Int)) → (170 = 170 ∧ (∀ (r41 : Int), en_isWord (7168376) (zup st 194 ((st 170 42) - 1 : Int).toNat 0) r41 → ((¬ r41 = (0 : Int) → _) ∧ (¬ (¬ r41 = (0 : Int)) → (170 = 170 ∧ (∀ (r42 : Int), en_isWord (26982) (zup st 194 ((st 170 42) - 1 : Int).toNat 0) r42 → ((r42 = (0 : Int) → ((¬ st 170 3 = (2 : Int) → (170 = 170 ∧ (∀ (r43 : Int), en_isWord (1751474548) (zup st 194 ((st 170 42) - 1 : Int).toNat 0) r43 → ((r43 = (0 : Int) → (170 = 170 ∧ (∀ (r44 : Int), en_isWord (2036687218) (zup st 194 ((st 170 42) - 1 : Int).toNat 0) r44 → ((r44 = (0 : Int) → (170 = 170 ∧ (∀ (r45 : Int), en_isWord (1953459300) (zup st 194 ((st 170 42) - 1 : Int).toNat 0) r45 → ((r45 = (0 : Int) → _) ∧ (¬ (r45 = (0 : Int)) → (((3 : Int) < (3 : Int) → _) ∧ (¬ ((3 : Int) < (3 : Int)) → (((3 : Int) ≤ (6 : Int) → (((0 : Int) = st 170 36 → ((¬ (3 : Int) = ((-1) : Int) → ((st 170 8 ≤ (0 : Int) → (170 = 170 ∧ (rq_add (3) (st 170 6) (zup st 194 ((st 170 42) - 1 : Int).toNat 0) ∧ ((170 = 170 ∧ (rq_rNext t n  (zup (zup (zup (zup st 194 ((st 170 42) - 1 : Int).toNat 0) 188 ((1600 : Int) * (st 170 35) + (st 170 34) : Int).toNat (3)) 189 ((1600 : Int) * (st 170 35) + (st 170 34) : Int).toNat (st 170 6)) 170 34 ((st 170 34) + 1)) ∧ (∀ (s47 : zS), en_rNext t n  (zup (zup (zup (zup st 194 ((st 170 42) - 1 : Int).toNat 0) 188 ((1600 : Int) * (st 170 35) + (st 170 34) : Int).toNat (3)) 189 ((1600 : Int) * (st 170 35) + (st 170 34) : Int).toNat (st 170 6)) 170 34 ((st 170 34) + 1)) s47 → ((1 = (0 : Int) ∨ 1 = (1 : Int)) ∧ Q (some (.inl 1)) s47)))))))) ∧ (¬ (st 170 8 ≤ (0 : Int)) → _))) ∧ (¬ (¬ (3 : Int) = ((-1) : Int)) → _))) ∧ (¬ ((0 : Int) = st 170 36) → _))) ∧ (¬ ((3 : Int) ≤ (6 : Int)) → _))))))))) ∧ (¬ (r44 = (0 : Int)) → _))))) ∧ (¬ (r43 = (0 : Int)) → _))))) ∧ (¬ (¬ st 170 3 = (2 : Int)) → _))) ∧ (¬ (r42 = (0 : Int)) → _))))))))))))) ∧ (¬ (r39 = (0 : Int)) → _))))) ∧ (¬ (r38 = (0 : Int)) → _))))))) ∧ (¬ (r37 = (0 : Int)) → _))))))))) ∧ (¬ (r36 = (0 : Int)) → _))))))))))))))) ∧ (¬ (st 170 8 ≤ (0 : Int)) → _)))))
  refine ⟨rfl, ⟨hG, (show st 170 12 = -1 from by omega)⟩, ?_⟩
  refine ⟨fun h48 => ?_, fun h48 => (by exfalso; omega)⟩
  refine ⟨by omega, ?_⟩
  have g49 := g_frame hG ((st 170 42) - 1 : Int).toNat
  refine ⟨by omega, ?_⟩
  refine fun r17 q17 => ?_
  have b17 := q17
  change (r17 = 0 ∨ r17 = 1) ∧ (r17 = 1 ↔ (st 192 ((st 170 42) - 1 : Int).toNat) = 1 ∨ (st 192 ((st 170 42) - 1 : Int).toNat) = 5 ∨ (st 192 ((st 170 42) - 1 : Int).toNat) = 6) at b17
  refine ⟨fun h50 => ?_, fun h50 => ?_⟩
  · refine ⟨fun h51 => ?_, fun h51 => absurd (by decide) h51⟩
    refine ⟨by omega, ?_⟩
    refine ⟨by omega, ?_⟩
    refine ⟨fun h52 => ?_, fun h52 => absurd (by decide) h52⟩
    refine ⟨fun h53 => ?_, fun h53 => absurd (by decide) h53⟩
    refine ⟨rfl, fun r18 q18 => ?_⟩
    have b18 := q18
    change (r18 = 0 ∨ r18 = 1) ∧ (r18 = 1 ↔ st 170 3 = 3 ∧ st 170 6 = (40)) at b18
    refine ⟨fun h54 => ?_, fun h54 => (by exfalso; clear hQ; omega)⟩
    clear h54 b18
    refine ⟨rfl, fun r19 q19 => ?_⟩
    have b19 := q19
    change (r19 = 0 ∨ r19 = 1) ∧ (r19 = 1 ↔ st 170 3 = 1 ∧ st 170 7 = (7170414)) at b19
    refine ⟨fun h55 => (by exfalso; clear hQ; omega), fun h55 => ?_⟩
    clear h55 b19
    refine ⟨rfl, fun r20 q20 => ?_⟩
    have b20 := q20
    change (r20 = 0 ∨ r20 = 1) ∧ (r20 = 1 ↔ st 170 3 = 1 ∧ st 170 7 = (7168376)) at b20
    refine ⟨fun h56 => (by exfalso; clear hQ; omega), fun h56 => ?_⟩
    clear h56 b20
    refine ⟨rfl, fun r21 q21 => ?_⟩
    have b21 := q21
    change (r21 = 0 ∨ r21 = 1) ∧ (r21 = 1 ↔ st 170 3 = 1 ∧ st 170 7 = (26982)) at b21
    refine ⟨fun h57 => ?_, fun h57 => (by exfalso; clear hQ; omega)⟩
    clear h57 b21
    refine ⟨fun h58 => ?_, fun h58 => (by exfalso; omega)⟩
    refine ⟨rfl, fun r22 q22 => ?_⟩
    have b22 := q22
    change (r22 = 0 ∨ r22 = 1) ∧ (r22 = 1 ↔ st 170 3 = 1 ∧ st 170 7 = (1751474548)) at b22
    refine ⟨fun h59 => ?_, fun h59 => (by exfalso; clear hQ; omega)⟩
    clear h59 b22
    refine ⟨rfl, fun r23 q23 => ?_⟩
    have b23 := q23
    change (r23 = 0 ∨ r23 = 1) ∧ (r23 = 1 ↔ st 170 3 = 1 ∧ st 170 7 = (2036687218)) at b23
    refine ⟨fun h60 => ?_, fun h60 => (by exfalso; clear hQ; omega)⟩
    clear h60 b23
    refine ⟨rfl, fun r24 q24 => ?_⟩
    have b24 := q24
    change (r24 = 0 ∨ r24 = 1) ∧ (r24 = 1 ↔ st 170 3 = 1 ∧ st 170 7 = (1953459300)) at b24
    refine ⟨fun h61 => (by exfalso; clear hQ; omega), fun h61 => ?_⟩
    clear h61 b24
    refine ⟨fun h62 => absurd h62 (by decide), fun h62 => ?_⟩
    refine ⟨fun h63 => ?_, fun h63 => absurd (by decide) h63⟩
    refine ⟨fun h64 => ?_, fun h64 => (by exfalso; omega)⟩
    refine ⟨fun h65 => ?_, fun h65 => absurd (by decide) h65⟩
    refine ⟨fun h66 => ?_, fun h66 => (by exfalso; omega)⟩
    refine ⟨rfl, ⟨(gInv_up hG (p_begins (by omega))), (show st 170 34 ≤ 1599 from by omega)⟩, ?_⟩
    refine ⟨rfl, ⟨(gInv_up (gInv_up (gInv_up (gInv_up hG (p_begins (by omega))) (p_codeSort (by omega))) (p_codeValue (by omega))) (p_codes (by omega))), (show RDr (zup (zup (zup (zup st 194 ((st 170 42) - 1 : Int).toNat 0) 188 ((1600 : Int) * (st 170 35) + (st 170 34) : Int).toNat (3)) 189 ((1600 : Int) * (st 170 35) + (st 170 34) : Int).toNat (st 170 6)) 170 34 ((st 170 34) + 1)) t n from (show RDr (zup (zup (zup (zup st 194 ((st 170 42) - 1 : Int).toNat 0) 188 ((1600 : Int) * (st 170 35) + (st 170 34) : Int).toNat (3)) 189 ((1600 : Int) * (st 170 35) + (st 170 34) : Int).toNat (st 170 6)) 170 34 ((st 170 34) + 1)) t n from mrd)), (show st 170 12 = -1 from by omega)⟩, fun s26 q26 => ?_⟩
    obtain ⟨gs26, fs26, rd26, nx26⟩ := q26
    change RDr s26 t n at rd26
    change NXr (zup (zup (zup (zup st 194 ((st 170 42) - 1 : Int).toNat 0) 188 ((1600 : Int) * (st 170 35) + (st 170 34) : Int).toNat (3)) 189 ((1600 : Int) * (st 170 35) + (st 170 34) : Int).toNat (st 170 6)) 170 34 ((st 170 34) + 1)) s26 t n at nx26
    refine ⟨by omega, ?_⟩
    have e67 : s26 170 8 = st 170 8 := fs26 170 8 rfl rfl
    have e68 : s26 170 46 = st 170 46 := fs26 170 46 rfl rfl
    have e69 : s26 170 43 = st 170 43 := fs26 170 43 rfl rfl
    have e70 : s26 170 34 = ((st 170 34) + 1) := fs26 170 34 rfl rfl
    have e71 : s26 170 45 = st 170 45 := fs26 170 45 rfl rfl
    have e72 : s26 170 42 = st 170 42 := fs26 170 42 rfl rfl
    exact hQ _ _ ⟨gs26, (fr_tr (fr_f (fr_a (fr_a (fr_a (fr_rf _ _) rfl) rfl) rfl) rfl) fs26 rfl), (Z9_tr (Z9_up (Z9_st (Z9_up (Z9_up (Z9_rf _) (by decide)) (by decide)) (b := st 170 35) rfl (by omega)) (by decide)) ((show aFr m_rOp73 st (zup (zup (zup (zup st 194 ((st 170 42) - 1 : Int).toNat 0) 188 ((1600 : Int) * (st 170 35) + (st 170 34) : Int).toNat (3)) 189 ((1600 : Int) * (st 170 35) + (st 170 34) : Int).toNat (st 170 6)) 170 34 ((st 170 34) + 1)) from (fr_f (fr_a (fr_a (fr_a (fr_rf _ _) rfl) rfl) rfl) rfl)) 170 35 rfl rfl) (Z9_fr fs26 (fun _ => rfl) rfl)), (show (1 : Int) = 1 ∧ mcP t n s26 ((k, ph, 0, pr, w) :: fs) 0 (o) (c ++ [3]) (e) from (by
            have hp : s26 170 4 = e := NXr_e (st := (zup (zup (zup (zup st 194 ((st 170 42) - 1 : Int).toNat 0) 188 ((1600 : Int) * (st 170 35) + (st 170 34) : Int).toNat (3)) 189 ((1600 : Int) * (st 170 35) + (st 170 34) : Int).toNat (st 170 6)) 170 34 ((st 170 34) + 1))) (show NXr (zup (zup (zup (zup st 194 ((st 170 42) - 1 : Int).toNat 0) 188 ((1600 : Int) * (st 170 35) + (st 170 34) : Int).toNat (3)) 189 ((1600 : Int) * (st 170 35) + (st 170 34) : Int).toNat (st 170 6)) 170 34 ((st 170 34) + 1)) s26 t n from nx26) (show tk t n ((zup (zup (zup (zup st 194 ((st 170 42) - 1 : Int).toNat 0) 188 ((1600 : Int) * (st 170 35) + (st 170 34) : Int).toNat (3)) 189 ((1600 : Int) * (st 170 35) + (st 170 34) : Int).toNat (st 170 6)) 170 34 ((st 170 34) + 1)) 170 4) _ _ e from by rw [show (zup (zup (zup (zup st 194 ((st 170 42) - 1 : Int).toNat 0) 188 ((1600 : Int) * (st 170 35) + (st 170 34) : Int).toNat (3)) 189 ((1600 : Int) * (st 170 35) + (st 170 34) : Int).toNat (st 170 6)) 170 34 ((st 170 34) + 1)) 170 4 = p from mpp]; exact ht.1) (by omega)
            have hl := tk_lt ht.1 (show 0 ≤ p from by rw [← mpp]; exact mrd.2.1.1) (by omega)
            exact ⟨rfl, ⟨by omega, by omega, by omega, hp, rd26, mcQ_of (fun i => fs26 192 i rfl rfl) (fun i => fs26 193 i rfl rfl) (fun i => fs26 194 i rfl rfl) (fun i => fs26 195 i rfl rfl) (fun i => fs26 196 i rfl rfl) (fun i => fs26 197 i rfl rfl) (fs26 170 42 rfl rfl) (fs26 170 45 rfl rfl) (fs26 170 35 rfl rfl) (fs26 170 34 rfl rfl) (fun i => fs26 188 i rfl rfl) (fun i => fs26 189 i rfl rfl) (show mcQ (zup (zup (zup (zup st 194 ((st 170 42) - 1 : Int).toNat 0) 188 ((1600 : Int) * (st 170 35) + (st 170 34) : Int).toNat (3)) 189 ((1600 : Int) * (st 170 35) + (st 170 34) : Int).toNat (st 170 6)) 170 34 ((st 170 34) + 1)) ((k, ph, 0, pr, w) :: fs) (c ++ [3]) from ⟨FR_bg 0 mb.2.1 mfr, WB_c ml (WB_el mwb) (WB_tl mwb), CDr_add (b := st 170 35) (n := st 170 34) (by omega) mcd (by omega) (fun h => by omega)⟩), by omega, by omega, by omega, by rw [List.length_cons]; omega⟩⟩))⟩
  · have g73 := g_begins hG ((st 170 42) - 1 : Int).toNat
    refine ⟨by omega, ?_⟩
    refine ⟨fun h74 => ?_, fun h74 => ?_⟩
    · refine ⟨fun h75 => ?_, fun h75 => absurd (by decide) h75⟩
      refine ⟨by omega, ?_⟩
      refine ⟨by omega, ?_⟩
      refine ⟨fun h76 => ?_, fun h76 => absurd (by decide) h76⟩
      refine ⟨fun h77 => ?_, fun h77 => absurd (by decide) h77⟩
      refine ⟨rfl, fun r27 q27 => ?_⟩
      have b27 := q27
      change (r27 = 0 ∨ r27 = 1) ∧ (r27 = 1 ↔ st 170 3 = 3 ∧ st 170 6 = (40)) at b27
      refine ⟨fun h78 => ?_, fun h78 => (by exfalso; clear hQ; omega)⟩
      clear h78 b27
      refine ⟨rfl, fun r28 q28 => ?_⟩
      have b28 := q28
      change (r28 = 0 ∨ r28 = 1) ∧ (r28 = 1 ↔ st 170 3 = 1 ∧ st 170 7 = (7170414)) at b28
      refine ⟨fun h79 => (by exfalso; clear hQ; omega), fun h79 => ?_⟩
      clear h79 b28
      refine ⟨rfl, fun r29 q29 => ?_⟩
      have b29 := q29
      change (r29 = 0 ∨ r29 = 1) ∧ (r29 = 1 ↔ st 170 3 = 1 ∧ st 170 7 = (7168376)) at b29
      refine ⟨fun h80 => (by exfalso; clear hQ; omega), fun h80 => ?_⟩
      clear h80 b29
      refine ⟨rfl, fun r30 q30 => ?_⟩
      have b30 := q30
      change (r30 = 0 ∨ r30 = 1) ∧ (r30 = 1 ↔ st 170 3 = 1 ∧ st 170 7 = (26982)) at b30
      refine ⟨fun h81 => ?_, fun h81 => (by exfalso; clear hQ; omega)⟩
      clear h81 b30
      refine ⟨fun h82 => ?_, fun h82 => (by exfalso; omega)⟩
      refine ⟨rfl, fun r31 q31 => ?_⟩
      have b31 := q31
      change (r31 = 0 ∨ r31 = 1) ∧ (r31 = 1 ↔ st 170 3 = 1 ∧ st 170 7 = (1751474548)) at b31
      refine ⟨fun h83 => ?_, fun h83 => (by exfalso; clear hQ; omega)⟩
      clear h83 b31
      refine ⟨rfl, fun r32 q32 => ?_⟩
      have b32 := q32
      change (r32 = 0 ∨ r32 = 1) ∧ (r32 = 1 ↔ st 170 3 = 1 ∧ st 170 7 = (2036687218)) at b32
      refine ⟨fun h84 => ?_, fun h84 => (by exfalso; clear hQ; omega)⟩
      clear h84 b32
      refine ⟨rfl, fun r33 q33 => ?_⟩
      have b33 := q33
      change (r33 = 0 ∨ r33 = 1) ∧ (r33 = 1 ↔ st 170 3 = 1 ∧ st 170 7 = (1953459300)) at b33
      refine ⟨fun h85 => (by exfalso; clear hQ; omega), fun h85 => ?_⟩
      clear h85 b33
      refine ⟨fun h86 => absurd h86 (by decide), fun h86 => ?_⟩
      refine ⟨fun h87 => ?_, fun h87 => absurd (by decide) h87⟩
      refine ⟨fun h88 => ?_, fun h88 => (by exfalso; omega)⟩
      refine ⟨fun h89 => ?_, fun h89 => absurd (by decide) h89⟩
      refine ⟨fun h90 => ?_, fun h90 => (by exfalso; omega)⟩
      refine ⟨rfl, ⟨(gInv_up hG (p_begins (by omega))), (show st 170 34 ≤ 1599 from by omega)⟩, ?_⟩
      refine ⟨rfl, ⟨(gInv_up (gInv_up (gInv_up (gInv_up hG (p_begins (by omega))) (p_codeSort (by omega))) (p_codeValue (by omega))) (p_codes (by omega))), (show RDr (zup (zup (zup (zup st 194 ((st 170 42) - 1 : Int).toNat 0) 188 ((1600 : Int) * (st 170 35) + (st 170 34) : Int).toNat (3)) 189 ((1600 : Int) * (st 170 35) + (st 170 34) : Int).toNat (st 170 6)) 170 34 ((st 170 34) + 1)) t n from (show RDr (zup (zup (zup (zup st 194 ((st 170 42) - 1 : Int).toNat 0) 188 ((1600 : Int) * (st 170 35) + (st 170 34) : Int).toNat (3)) 189 ((1600 : Int) * (st 170 35) + (st 170 34) : Int).toNat (st 170 6)) 170 34 ((st 170 34) + 1)) t n from mrd)), (show st 170 12 = -1 from by omega)⟩, fun s35 q35 => ?_⟩
      obtain ⟨gs35, fs35, rd35, nx35⟩ := q35
      change RDr s35 t n at rd35
      change NXr (zup (zup (zup (zup st 194 ((st 170 42) - 1 : Int).toNat 0) 188 ((1600 : Int) * (st 170 35) + (st 170 34) : Int).toNat (3)) 189 ((1600 : Int) * (st 170 35) + (st 170 34) : Int).toNat (st 170 6)) 170 34 ((st 170 34) + 1)) s35 t n at nx35
      refine ⟨by omega, ?_⟩
      have e91 : s35 170 8 = st 170 8 := fs35 170 8 rfl rfl
      have e92 : s35 170 46 = st 170 46 := fs35 170 46 rfl rfl
      have e93 : s35 170 43 = st 170 43 := fs35 170 43 rfl rfl
      have e94 : s35 170 34 = ((st 170 34) + 1) := fs35 170 34 rfl rfl
      have e95 : s35 170 45 = st 170 45 := fs35 170 45 rfl rfl
      have e96 : s35 170 42 = st 170 42 := fs35 170 42 rfl rfl
      exact hQ _ _ ⟨gs35, (fr_tr (fr_f (fr_a (fr_a (fr_a (fr_rf _ _) rfl) rfl) rfl) rfl) fs35 rfl), (Z9_tr (Z9_up (Z9_st (Z9_up (Z9_up (Z9_rf _) (by decide)) (by decide)) (b := st 170 35) rfl (by omega)) (by decide)) ((show aFr m_rOp73 st (zup (zup (zup (zup st 194 ((st 170 42) - 1 : Int).toNat 0) 188 ((1600 : Int) * (st 170 35) + (st 170 34) : Int).toNat (3)) 189 ((1600 : Int) * (st 170 35) + (st 170 34) : Int).toNat (st 170 6)) 170 34 ((st 170 34) + 1)) from (fr_f (fr_a (fr_a (fr_a (fr_rf _ _) rfl) rfl) rfl) rfl)) 170 35 rfl rfl) (Z9_fr fs35 (fun _ => rfl) rfl)), (show (1 : Int) = 1 ∧ mcP t n s35 ((k, ph, 0, pr, w) :: fs) 0 (o) (c ++ [3]) (e) from (by
            have hp : s35 170 4 = e := NXr_e (st := (zup (zup (zup (zup st 194 ((st 170 42) - 1 : Int).toNat 0) 188 ((1600 : Int) * (st 170 35) + (st 170 34) : Int).toNat (3)) 189 ((1600 : Int) * (st 170 35) + (st 170 34) : Int).toNat (st 170 6)) 170 34 ((st 170 34) + 1))) (show NXr (zup (zup (zup (zup st 194 ((st 170 42) - 1 : Int).toNat 0) 188 ((1600 : Int) * (st 170 35) + (st 170 34) : Int).toNat (3)) 189 ((1600 : Int) * (st 170 35) + (st 170 34) : Int).toNat (st 170 6)) 170 34 ((st 170 34) + 1)) s35 t n from nx35) (show tk t n ((zup (zup (zup (zup st 194 ((st 170 42) - 1 : Int).toNat 0) 188 ((1600 : Int) * (st 170 35) + (st 170 34) : Int).toNat (3)) 189 ((1600 : Int) * (st 170 35) + (st 170 34) : Int).toNat (st 170 6)) 170 34 ((st 170 34) + 1)) 170 4) _ _ e from by rw [show (zup (zup (zup (zup st 194 ((st 170 42) - 1 : Int).toNat 0) 188 ((1600 : Int) * (st 170 35) + (st 170 34) : Int).toNat (3)) 189 ((1600 : Int) * (st 170 35) + (st 170 34) : Int).toNat (st 170 6)) 170 34 ((st 170 34) + 1)) 170 4 = p from mpp]; exact ht.1) (by omega)
            have hl := tk_lt ht.1 (show 0 ≤ p from by rw [← mpp]; exact mrd.2.1.1) (by omega)
            exact ⟨rfl, ⟨by omega, by omega, by omega, hp, rd35, mcQ_of (fun i => fs35 192 i rfl rfl) (fun i => fs35 193 i rfl rfl) (fun i => fs35 194 i rfl rfl) (fun i => fs35 195 i rfl rfl) (fun i => fs35 196 i rfl rfl) (fun i => fs35 197 i rfl rfl) (fs35 170 42 rfl rfl) (fs35 170 45 rfl rfl) (fs35 170 35 rfl rfl) (fs35 170 34 rfl rfl) (fun i => fs35 188 i rfl rfl) (fun i => fs35 189 i rfl rfl) (show mcQ (zup (zup (zup (zup st 194 ((st 170 42) - 1 : Int).toNat 0) 188 ((1600 : Int) * (st 170 35) + (st 170 34) : Int).toNat (3)) 189 ((1600 : Int) * (st 170 35) + (st 170 34) : Int).toNat (st 170 6)) 170 34 ((st 170 34) + 1)) ((k, ph, 0, pr, w) :: fs) (c ++ [3]) from ⟨FR_bg 0 mb.2.1 mfr, WB_c ml (WB_el mwb) (WB_tl mwb), CDr_add (b := st 170 35) (n := st 170 34) (by omega) mcd (by omega) (fun h => by omega)⟩), by omega, by omega, by omega, by rw [List.length_cons]; omega⟩⟩))⟩
    · refine ⟨fun h97 => absurd h97 (by decide), fun h97 => ?_⟩
      refine ⟨rfl, fun r36 q36 => ?_⟩
      have b36 := q36
      change (r36 = 0 ∨ r36 = 1) ∧ (r36 = 1 ↔ st 170 3 = 1 ∧ st 170 7 = (7237492)) at b36
      refine ⟨fun h98 => ?_, fun h98 => (by exfalso; clear hQ; omega)⟩
      clear h98 b36
      refine ⟨by omega, ?_⟩
      refine ⟨by omega, ?_⟩
      refine ⟨fun h99 => absurd h99 (by decide), fun h99 => ?_⟩
      refine ⟨rfl, fun r37 q37 => ?_⟩
      have b37 := q37
      change (r37 = 0 ∨ r37 = 1) ∧ (r37 = 1 ↔ st 170 3 = 3 ∧ st 170 6 = (91)) at b37
      refine ⟨fun h100 => ?_, fun h100 => (by exfalso; clear hQ; omega)⟩
      clear h100 b37
      refine ⟨fun h101 => absurd h101 (by decide), fun h101 => ?_⟩
      refine ⟨rfl, fun r38 q38 => ?_⟩
      have b38 := q38
      change (r38 = 0 ∨ r38 = 1) ∧ (r38 = 1 ↔ st 170 3 = 1 ∧ st 170 7 = (6384748)) at b38
      refine ⟨fun h102 => ?_, fun h102 => (by exfalso; clear hQ; omega)⟩
      clear h102 b38
      refine ⟨rfl, fun r39 q39 => ?_⟩
      have b39 := q39
      change (r39 = 0 ∨ r39 = 1) ∧ (r39 = 1 ↔ st 170 3 = 3 ∧ st 170 6 = (40)) at b39
      refine ⟨fun h103 => ?_, fun h103 => (by exfalso; clear hQ; omega)⟩
      clear h103 b39
      refine ⟨rfl, fun r40 q40 => ?_⟩
      have b40 := q40
      change (r40 = 0 ∨ r40 = 1) ∧ (r40 = 1 ↔ st 170 3 = 1 ∧ st 170 7 = (7170414)) at b40
      refine ⟨fun h104 => (by exfalso; clear hQ; omega), fun h104 => ?_⟩
      clear h104 b40
      refine ⟨rfl, fun r41 q41 => ?_⟩
      have b41 := q41
      change (r41 = 0 ∨ r41 = 1) ∧ (r41 = 1 ↔ st 170 3 = 1 ∧ st 170 7 = (7168376)) at b41
      refine ⟨fun h105 => (by exfalso; clear hQ; omega), fun h105 => ?_⟩
      clear h105 b41
      refine ⟨rfl, fun r42 q42 => ?_⟩
      have b42 := q42
      change (r42 = 0 ∨ r42 = 1) ∧ (r42 = 1 ↔ st 170 3 = 1 ∧ st 170 7 = (26982)) at b42
      refine ⟨fun h106 => ?_, fun h106 => (by exfalso; clear hQ; omega)⟩
      clear h106 b42
      refine ⟨fun h107 => ?_, fun h107 => (by exfalso; omega)⟩
      refine ⟨rfl, fun r43 q43 => ?_⟩
      have b43 := q43
      change (r43 = 0 ∨ r43 = 1) ∧ (r43 = 1 ↔ st 170 3 = 1 ∧ st 170 7 = (1751474548)) at b43
      refine ⟨fun h108 => ?_, fun h108 => (by exfalso; clear hQ; omega)⟩
      clear h108 b43
      refine ⟨rfl, fun r44 q44 => ?_⟩
      have b44 := q44
      change (r44 = 0 ∨ r44 = 1) ∧ (r44 = 1 ↔ st 170 3 = 1 ∧ st 170 7 = (2036687218)) at b44
      refine ⟨fun h109 => ?_, fun h109 => (by exfalso; clear hQ; omega)⟩
      clear h109 b44
      refine ⟨rfl, fun r45 q45 => ?_⟩
      have b45 := q45
      change (r45 = 0 ∨ r45 = 1) ∧ (r45 = 1 ↔ st 170 3 = 1 ∧ st 170 7 = (1953459300)) at b45
      refine ⟨fun h110 => (by exfalso; clear hQ; omega), fun h110 => ?_⟩
      clear h110 b45
      refine ⟨fun h111 => absurd h111 (by decide), fun h111 => ?_⟩
      refine ⟨fun h112 => ?_, fun h112 => absurd (by decide) h112⟩
      refine ⟨fun h113 => ?_, fun h113 => (by exfalso; omega)⟩
      refine ⟨fun h114 => ?_, fun h114 => absurd (by decide) h114⟩
      refine ⟨fun h115 => ?_, fun h115 => (by exfalso; omega)⟩
      refine ⟨rfl, ⟨(gInv_up hG (p_begins (by omega))), (show st 170 34 ≤ 1599 from by omega)⟩, ?_⟩
      refine ⟨rfl, ⟨(gInv_up (gInv_up (gInv_up (gInv_up hG (p_begins (by omega))) (p_codeSort (by omega))) (p_codeValue (by omega))) (p_codes (by omega))), (show RDr (zup (zup (zup (zup st 194 ((st 170 42) - 1 : Int).toNat 0) 188 ((1600 : Int) * (st 170 35) + (st 170 34) : Int).toNat (3)) 189 ((1600 : Int) * (st 170 35) + (st 170 34) : Int).toNat (st 170 6)) 170 34 ((st 170 34) + 1)) t n from (show RDr (zup (zup (zup (zup st 194 ((st 170 42) - 1 : Int).toNat 0) 188 ((1600 : Int) * (st 170 35) + (st 170 34) : Int).toNat (3)) 189 ((1600 : Int) * (st 170 35) + (st 170 34) : Int).toNat (st 170 6)) 170 34 ((st 170 34) + 1)) t n from mrd)), (show st 170 12 = -1 from by omega)⟩, fun s47 q47 => ?_⟩
      obtain ⟨gs47, fs47, rd47, nx47⟩ := q47
      change RDr s47 t n at rd47
      change NXr (zup (zup (zup (zup st 194 ((st 170 42) - 1 : Int).toNat 0) 188 ((1600 : Int) * (st 170 35) + (st 170 34) : Int).toNat (3)) 189 ((1600 : Int) * (st 170 35) + (st 170 34) : Int).toNat (st 170 6)) 170 34 ((st 170 34) + 1)) s47 t n at nx47
      refine ⟨by omega, ?_⟩
      have e116 : s47 170 8 = st 170 8 := fs47 170 8 rfl rfl
      have e117 : s47 170 46 = st 170 46 := fs47 170 46 rfl rfl
      have e118 : s47 170 43 = st 170 43 := fs47 170 43 rfl rfl
      have e119 : s47 170 34 = ((st 170 34) + 1) := fs47 170 34 rfl rfl
      have e120 : s47 170 45 = st 170 45 := fs47 170 45 rfl rfl
      have e121 : s47 170 42 = st 170 42 := fs47 170 42 rfl rfl
      exact hQ _ _ ⟨gs47, (fr_tr (fr_f (fr_a (fr_a (fr_a (fr_rf _ _) rfl) rfl) rfl) rfl) fs47 rfl), (Z9_tr (Z9_up (Z9_st (Z9_up (Z9_up (Z9_rf _) (by decide)) (by decide)) (b := st 170 35) rfl (by omega)) (by decide)) ((show aFr m_rOp73 st (zup (zup (zup (zup st 194 ((st 170 42) - 1 : Int).toNat 0) 188 ((1600 : Int) * (st 170 35) + (st 170 34) : Int).toNat (3)) 189 ((1600 : Int) * (st 170 35) + (st 170 34) : Int).toNat (st 170 6)) 170 34 ((st 170 34) + 1)) from (fr_f (fr_a (fr_a (fr_a (fr_rf _ _) rfl) rfl) rfl) rfl)) 170 35 rfl rfl) (Z9_fr fs47 (fun _ => rfl) rfl)), (show (1 : Int) = 1 ∧ mcP t n s47 ((k, ph, 0, pr, w) :: fs) 0 (o) (c ++ [3]) (e) from (by
            have hp : s47 170 4 = e := NXr_e (st := (zup (zup (zup (zup st 194 ((st 170 42) - 1 : Int).toNat 0) 188 ((1600 : Int) * (st 170 35) + (st 170 34) : Int).toNat (3)) 189 ((1600 : Int) * (st 170 35) + (st 170 34) : Int).toNat (st 170 6)) 170 34 ((st 170 34) + 1))) (show NXr (zup (zup (zup (zup st 194 ((st 170 42) - 1 : Int).toNat 0) 188 ((1600 : Int) * (st 170 35) + (st 170 34) : Int).toNat (3)) 189 ((1600 : Int) * (st 170 35) + (st 170 34) : Int).toNat (st 170 6)) 170 34 ((st 170 34) + 1)) s47 t n from nx47) (show tk t n ((zup (zup (zup (zup st 194 ((st 170 42) - 1 : Int).toNat 0) 188 ((1600 : Int) * (st 170 35) + (st 170 34) : Int).toNat (3)) 189 ((1600 : Int) * (st 170 35) + (st 170 34) : Int).toNat (st 170 6)) 170 34 ((st 170 34) + 1)) 170 4) _ _ e from by rw [show (zup (zup (zup (zup st 194 ((st 170 42) - 1 : Int).toNat 0) 188 ((1600 : Int) * (st 170 35) + (st 170 34) : Int).toNat (3)) 189 ((1600 : Int) * (st 170 35) + (st 170 34) : Int).toNat (st 170 6)) 170 34 ((st 170 34) + 1)) 170 4 = p from mpp]; exact ht.1) (by omega)
            have hl := tk_lt ht.1 (show 0 ≤ p from by rw [← mpp]; exact mrd.2.1.1) (by omega)
            exact ⟨rfl, ⟨by omega, by omega, by omega, hp, rd47, mcQ_of (fun i => fs47 192 i rfl rfl) (fun i => fs47 193 i rfl rfl) (fun i => fs47 194 i rfl rfl) (fun i => fs47 195 i rfl rfl) (fun i => fs47 196 i rfl rfl) (fun i => fs47 197 i rfl rfl) (fs47 170 42 rfl rfl) (fs47 170 45 rfl rfl) (fs47 170 35 rfl rfl) (fs47 170 34 rfl rfl) (fun i => fs47 188 i rfl rfl) (fun i => fs47 189 i rfl rfl) (show mcQ (zup (zup (zup (zup st 194 ((st 170 42) - 1 : Int).toNat 0) 188 ((1600 : Int) * (st 170 35) + (st 170 34) : Int).toNat (3)) 189 ((1600 : Int) * (st 170 35) + (st 170 34) : Int).toNat (st 170 6)) 170 34 ((st 170 34) + 1)) ((k, ph, 0, pr, w) :: fs) (c ++ [3]) from ⟨FR_bg 0 mb.2.1 mfr, WB_c ml (WB_el mwb) (WB_tl mwb), CDr_add (b := st 170 35) (n := st 170 34) (by omega) mcd (by omega) (fun h => by omega)⟩), by omega, by omega, by omega, by rw [List.length_cons]; omega⟩⟩))⟩
theorem k_rOp73_m (hTb : aTb zSh rx_tb cl) {t : Int → Int} {n k ph bg pr o p e : Int} {w c : List Int} {fs : List mFr} {D : Nat} (hD : 4 ≤ D) : ∀ as st (Q Q' : zQ), (∀ r st', Q r st' → Q' r st') → (k_rOp73 t n k ph bg pr o p e w c fs) 196 as st Q → cl D 196 as st Q' := by
  intro as st Q Q' hQ h
  unfold k_rOp73 at h
  split at h
  · obtain ⟨rfl, h⟩ := h
    exact c_rOp73 hTb hD (ct_rOp73_m hQ h)
  · exact h.elim
set_option maxHeartbeats 4000000 in
set_option maxRecDepth 100000 in
theorem c_rOp74 (hTb : aTb zSh rx_tb cl) {t : Int → Int} {n k ph bg pr o p e : Int} {w c : List Int} {fs : List mFr} {D : Nat} (hD : 4 ≤ D) {st : zS} {Q : zQ} (h : ct_rOp74 t n k ph bg pr o p e w c fs st Q) : cl D 196 [.inr (.inr (.inl 170))] st Q := by
  obtain ⟨d, rfl⟩ : ∃ d, D = d + 1 := ⟨D - 1, by omega⟩
  refine hTb d 196 (rx_m196, 4, 0, 0, 2) rfl _ _ _ (Nat.le_of_ble_eq_true rfl) (fun K hcl hsf hsl => ?_)
  have hcm : zmo (wcL [(181, k_rLex), (195, k_isTest), (183, k_isWord), (182, k_isSign), (149, k_rNext t n), (189, k_add), (192, k_holdsBack), (194, k_rOpens t n)]) (cl d) := (wcL_m (wm_cons (k_rLex_m hTb (by omega)) (wm_cons (k_isTest_m hTb (by omega)) (wm_cons (k_isWord_m hTb (by omega)) (wm_cons (k_isSign_m hTb (by omega)) (wm_cons (k_rNext_m hTb (by omega)) (wm_cons (k_add_m hTb (by omega)) (wm_cons (k_holdsBack_m hTb (by omega)) (wm_cons (k_rOpens_m hTb (by omega)) wm_nil)))))))))
  obtain ⟨hR, hQ⟩ := h
  obtain ⟨hG, mp, ht⟩ := hR
  change mcP t n st ((k, ph, bg, pr, w) :: fs) 0 (o) (c) (p) at mp
  change tk t n p 1 1886743660 e ∧ st 170 36 = 0 at ht
  have g1 := g_isClever hG
  obtain ⟨mf, mo, mn, mpp, mrd, mq, mbd, mz1, mz2, mz3⟩ := mp
  rw [List.length_cons] at mz3
  have mq0 := mq
  obtain ⟨mfr, mwb, mcd⟩ := mq
  have mt := FR_top mfr
  have mb := FR_bnd _ _ _ mwb mfr
  rw [List.length_cons] at mb
  have ml := WB_hd mwb
  have mcl := mcd.1
  have mlw := FR_len mb.2.1 mfr
  have tf := r_wrd mrd (by rw [mpp]; exact ht.1)
  have g2 := g_codes hG
  have g3 := g_in hG
  have g4 := g_deep hG
  have g5 := g_open hG
  have g6 := g_opMany hG
  have g7 := g_signAt hG
  have g8 := g_signEnd hG
  have g9 := g_faultKind hG
  have g10 := g_size hG
  have g11 := g_sign hG
  have g12 := g_lexAt hG
  have g13 := g_value hG
  have g14 := g_word hG
  have g15 := g_operand hG
  refine yr1_ok (Rt := Q) (wc := (wcL [(181, k_rLex), (195, k_isTest), (183, k_isWord), (182, k_isSign), (149, k_rNext t n), (189, k_add), (192, k_holdsBack), (194, k_rOpens t n)])) (stp := []) hcm hcl [] 400 ?_
  show (170 = 170 ∧ (rq_rLex  st ∧ (((st 170 8 ≤ (0 : Int) → ((-2147483648 ≤ (st 170 42) - 1 ∧ (st 170 42) - 1 ≤ 2147483647) ∧ ((0 ≤ (st 170 42) - 1 ∧ (st 170 42) - 1 < 20) ∧ (∀ (r17 : Int), en_isTest (st 192 ((st 170 42) - 1 : Int).toNat) st r17 → ((r17 = (0 : Int) → (((0 : Int) = (0 : Int) → ((0 ≤ (st 170 42) - 1 ∧ (st 170 42) - 1 < 20) ∧ ((0 = (0 : Int) ∨ 0 = (1 : Int)) ∧ (((0 : Int) = (0 : Int) → (((0 : Int) = (0 : Int) → (170 = 170 ∧ (∀ (r18 : Int), en_isSign (40) (zup st 194 ((st 170 42) - 1 : Int).toNat 0) r18 → ((r18 = (0 : Int) → (170 = 170 ∧ (∀ (r19 : Int), en_isWord (7170414) (zup st 194 ((st 170 42) - 1 : Int).toNat 0) r19 → ((¬ r19 = (0 : Int) → _) ∧ (¬ (¬ r19 = (0 : Int)) → (170 = 170 ∧ (∀ (r20 : Int), en_isWord (7168376) (zup st 194 ((st 170 42) - 1 : Int).toNat 0) r20 → ((¬ r20 = (0 : Int) → _) ∧ (¬ (¬ r20 = (0 : Int)) → (170 = 170 ∧ (∀ (r21 : Int), en_isWord (26982) (zup st 194 ((st 170 42) - 1 : Int).toNat 0) r21 → ((r21 = (0 : Int) → ((¬ st 170 3 = (2 : Int) → (170 = 170 ∧ (∀ (r22 : Int), en_isWord (1751474548) (zup st 194 ((st 170 42) - 1 : Int).toNat 0) r22 → ((r22 = (0 : Int) → (170 = 170 ∧ (∀ (r23 : Int), en_isWord (2036687218) (zup st 194 ((st 170 42) - 1 : Int).toNat 0) r23 → ((r23 = (0 : Int) → (170 = 170 ∧ (∀ (r24 : Int), en_isWord (1953459300) (zup st 194 ((st 170 42) - 1 : Int).toNat 0) r24 → ((r24 = (0 : Int) → (170 = 170 ∧ (∀ (r25 : Int), en_isWord (1886743660) (zup st 194 ((st 170 42) - 1 : Int).toNat 0) r25 → ((r25 = (0 : Int) → _) ∧ (¬ (r25 = (0 : Int)) → (((4 : Int) < (3 : Int) → _) ∧ (¬ ((4 : Int) < (3 : Int)) → (((4 : Int) ≤ (6 : Int) → (((0 : Int) = st 170 36 → ((¬ (4 : Int) = ((-1) : Int) → ((st 170 8 ≤ (0 : Int) → (170 = 170 ∧ (rq_add (4) (st 170 6) (zup st 194 ((st 170 42) - 1 : Int).toNat 0) ∧ ((170 = 170 ∧ (rq_rNext t n  (zup (zup (zup (zup st 194 ((st 170 42) - 1 : Int).toNat 0) 188 ((1600 : Int) * (st 170 35) + (st 170 34) : Int).toNat (4)) 189 ((1600 : Int) * (st 170 35) + (st 170 34) : Int).toNat (st 170 6)) 170 34 ((st 170 34) + 1)) ∧ (∀ (s27 : zS), en_rNext t n  (zup (zup (zup (zup st 194 ((st 170 42) - 1 : Int).toNat 0) 188 ((1600 : Int) * (st 170 35) + (st 170 34) : Int).toNat (4)) 189 ((1600 : Int) * (st 170 35) + (st 170 34) : Int).toNat (st 170 6)) 170 34 ((st 170 34) + 1)) s27 → ((1 = (0 : Int) ∨ 1 = (1 : Int)) ∧ Q (some (.inl 1)) s27)))))))) ∧ (¬ (st 170 8 ≤ (0 : Int)) → _))) ∧ (¬ (¬ (4 : Int) = ((-1) : Int)) → _))) ∧ (¬ ((0 : Int) = st 170 36) → _))) ∧ (¬ ((4 : Int) ≤ (6 : Int)) → _))))))))) ∧ (¬ (r24 = (0 : Int)) → _))))) ∧ (¬ (r23 = (0 : Int)) → _))))) ∧ (¬ (r22 = (0 : Int)) → _))))) ∧ (¬ (¬ st 170 3 = (2 : Int)) → _))) ∧ (¬ (r21 = (0 : Int)) → _))))))))))))) ∧ (¬ (r18 = (0 : Int)) → _))))) ∧ (¬ ((0 : Int) = (0 : Int)) → _))) ∧ (¬ ((0 : Int) = (0 : Int)) → _))))) ∧ (¬ ((0 : Int) = (0 : Int)) → _))) ∧ (¬ (r17 = (0 : Int)) → ((0 ≤ (st 170 42) - 1 ∧ (st 170 42) - 1 < 20) ∧ ((st 194 ((st 170 42) - 1 : Int).toNat = (0 : Int) → (((0 : Int) = (0 : Int) → ((0 ≤ (st 170 42) - 1 ∧ (st 170 42) - 1 < 20) ∧ ((0 = (0 : Int) ∨ 0 = (1 : Int)) ∧ (((0 : Int) = (0 : Int) → (((0 : Int) = (0 : Int) → (170 = 170 ∧ (∀ (r28 : Int), en_isSign (40) (zup st 194 ((st 170 42) - 1 : Int).toNat 0) r28 → ((r28 = (0 : Int) → (170 = 170 ∧ (∀ (r29 : Int), en_isWord (7170414) (zup st 194 ((st 170 42) - 1 : Int).toNat 0) r29 → ((¬ r29 = (0 : Int) → _) ∧ (¬ (¬ r29 = (0 : Int)) → (170 = 170 ∧ (∀ (r30 : Int), en_isWord (7168376) (zup st 194 ((st 170 42) - 1 : Int).toNat 0) r30 → ((¬ r30 = (0 : Int) → _) ∧ (¬ (¬ r30 = (0 : Int)) → (170 = 170 ∧ (∀ (r31 : Int), en_isWord (26982) (zup st 194 ((st 170 42) - 1 : Int).toNat 0) r31 → ((r31 = (0 : Int) → ((¬ st 170 3 = (2 : Int) → (170 = 170 ∧ (∀ (r32 : Int), en_isWord (1751474548) (zup st 194 ((st 170 42) - 1 : Int).toNat 0) r32 → ((r32 = (0 : Int) → (170 = 170 ∧ (∀ (r33 : Int), en_isWord (2036687218) (zup st 194 ((st 170 42) - 1 : Int).toNat 0) r33 → ((r33 = (0 : Int) → (170 = 170 ∧ (∀ (r34 : Int), en_isWord (1953459300) (zup st 194 ((st 170 42) - 1 : Int).toNat 0) r34 → ((r34 = (0 : Int) → (170 = 170 ∧ (∀ (r35 : Int), en_isWord (1886743660) (zup st 194 ((st 170 42) - 1 : Int).toNat 0) r35 → ((r35 = (0 : Int) → _) ∧ (¬ (r35 = (0 : Int)) → (((4 : Int) < (3 : Int) → _) ∧ (¬ ((4 : Int) < (3 : Int)) → (((4 : Int) ≤ (6 : Int) → (((0 : Int) = st 170 36 → ((¬ (4 : Int) = ((-1) : Int) → ((st 170 8 ≤ (0 : Int) → (170 = 170 ∧ (rq_add (4) (st 170 6) (zup st 194 ((st 170 42) - 1 : Int).toNat 0) ∧ ((170 = 170 ∧ (rq_rNext t n  (zup (zup (zup (zup st 194 ((st 170 42) - 1 : Int).toNat 0) 188 ((1600 : Int) * (st 170 35) + (st 170 34) : Int).toNat (4)) 189 ((1600 : Int) * (st 170 35) + (st 170 34) : Int).toNat (st 170 6)) 170 34 ((st 170 34) + 1)) ∧ (∀ (s37 : zS), en_rNext t n  (zup (zup (zup (zup st 194 ((st 170 42) - 1 : Int).toNat 0) 188 ((1600 : Int) * (st 170 35) + (st 170 34) : Int).toNat (4)) 189 ((1600 : Int) * (st 170 35) + (st 170 34) : Int).toNat (st 170 6)) 170 34 ((st 170 34) + 1)) s37 → ((1 = (0 : Int) ∨ 1 = (1 : Int)) ∧ Q (some (.inl 1)) s37)))))))) ∧ (¬ (st 170 8 ≤ (0 : Int)) → _))) ∧ (¬ (¬ (4 : Int) = ((-1) : Int)) → _))) ∧ (¬ ((0 : Int) = st 170 36) → _))) ∧ (¬ ((4 : Int) ≤ (6 : Int)) → _))))))))) ∧ (¬ (r34 = (0 : Int)) → _))))) ∧ (¬ (r33 = (0 : Int)) → _))))) ∧ (¬ (r32 = (0 : Int)) → _))))) ∧ (¬ (¬ st 170 3 = (2 : Int)) → _))) ∧ (¬ (r31 = (0 : Int)) → _))))))))))))) ∧ (¬ (r28 = (0 : Int)) → _))))) ∧ (¬ ((0 : Int) = (0 : Int)) → _))) ∧ (¬ ((0 : Int) = (0 : Int)) → _))))) ∧ (¬ ((0 : Int) = (0 : Int)) → _))) ∧ (¬ (st 194 ((st 170 42) - 1 : Int).toNat = (0 : Int)) → (((1 : Int) = (0 : Int) → _) ∧ (¬ ((1 : Int) = (0 : Int)) → (170 = 170 ∧ (∀ (r38 : Int), en_isWord (7237492) st r38 → ((r38 = (0 : Int) → ((0 ≤ (st 170 42) - 1 ∧ (st 170 42) - 1 < 20) ∧ ((0 = (0 : Int) ∨ 0 = (1 : Int)) ∧ (((1 : Int) = (0 : Int) → _) ∧ (¬ ((1 : Int) = (0 : Int)) → (170 = 170 ∧ (∀ (r39 : Int), en_isSign (91) (zup st 194 ((st 170 42) - 1 : Int).toNat 0) r39 → ((r39 = (0 : Int) → (((1 : Int) = (0 : Int) → _) ∧ (¬ ((1 : Int) = (0 : Int)) → (170 = 170 ∧ (∀ (r40 : Int), en_isWord (6384748) (zup st 194 ((st 170 42) - 1 : Int).toNat 0) r40 → ((r40 = (0 : Int) → (170 = 170 ∧ (∀ (r41 : Int), en_isSign (40) (zup st 194 ((st 170 42) - 1 : Int).toNat 0) r41 → ((r41 = (0 : Int) → (170 = 170 ∧ (∀ (r42 : Int), en_isWord (7170414) (zup st 194 ((st 170 42) - 1 : Int).toNat 0) r42 → ((¬ r42 = (0 : Int) → _) ∧ (¬ (¬ r42 = (0 : Int)) → (170 = 170 ∧ (∀ (r43 : Int), en_isWord (7168376) (zup st 194 ((st 170 42) - 1 : Int).toNat 0) r43 → ((¬ r43 = (0 : Int) → _) ∧ (¬ (¬ r43 = (0 : Int)) → (170 = 170 ∧ (∀ (r44 : Int), en_isWord (26982) (zup st 194 ((st 170 42) - 1 : Int).toNat 0) r44 → ((r44 = (0 : Int) → ((¬ st 170 3 = (2 : Int) → (170 = 170 ∧ (∀ (r45 : Int), en_isWord (1751474548) (zup st 194 ((st 170 42) - 1 : Int).toNat 0) r45 → ((r45 = (0 : Int) → (170 = 170 ∧ (∀ (r46 : Int), en_isWord (2036687218) (zup st 194 ((st 170 42) - 1 : Int).toNat 0) r46 → ((r46 = (0 : Int) → (170 = 170 ∧ (∀ (r47 : Int), en_isWord (1953459300) (zup st 194 ((st 170 42) - 1 : Int).toNat 0) r47 → ((r47 = (0 : Int) → (170 = 170 ∧ (∀ (r48 : Int), en_isWord (1886743660) (zup st 194 ((st 170 42) - 1 : Int).toNat 0) r48 → ((r48 = (0 : Int) → _) ∧ (¬ (r48 = (0 : Int)) → (((4 : Int) < (3 : Int) → _) ∧ (¬ ((4 : Int) < (3 : Int)) → (((4 : Int) ≤ (6 : Int) → (((0 : Int) = st 170 36 → ((¬ (4 : Int) = ((-1) : Int) → ((st 170 8 ≤ (0 : Int) → (170 = 170 ∧ (rq_add (4) (st 170 6) (zup st 194 ((st 170 42) - 1 : Int).toNat 0) ∧ ((170 = 170 ∧ (rq_rNext t n  (zup (zup (zup (zup st 194 ((st 170 42) - 1 : Int).toNat 0) 188 ((1600 : Int) * (st 170 35) + (st 170 34) : Int).toNat (4)) 189 ((1600 : Int) * (st 170 35) + (st 170 34) : Int).toNat (st 170 6)) 170 34 ((st 170 34) + 1)) ∧ (∀ (s50 : zS), en_rNext t n  (zup (zup (zup (zup st 194 ((st 170 42) - 1 : Int).toNat 0) 188 ((1600 : Int) * (st 170 35) + (st 170 34) : Int).toNat (4)) 189 ((1600 : Int) * (st 170 35) + (st 170 34) : Int).toNat (st 170 6)) 170 34 ((st 170 34) + 1)) s50 → ((1 = (0 : Int) ∨ 1 = (1 : Int)) ∧ Q (some (.inl 1)) s50)))))))) ∧ (¬ (st 170 8 ≤ (0 : Int)) → _))) ∧ (¬ (¬ (4 : Int) = ((-1) : Int)) → _))) ∧ (¬ ((0 : Int) = st 170 36) → _))) ∧ (¬ ((4 : Int) ≤ (6 : Int)) → _))))))))) ∧ (¬ (r47 = (0 : Int)) → _))))) ∧ (¬ (r46 = (0 : Int)) → _))))) ∧ (¬ (r45 = (0 : Int)) → _))))) ∧ (¬ (¬ st 170 3 = (2 : Int)) → _))) ∧ (¬ (r44 = (0 : Int)) → _))))))))))))) ∧ (¬ (r41 = (0 : Int)) → _))))) ∧ (¬ (r40 = (0 : Int)) → _))))))) ∧ (¬ (r39 = (0 : Int)) → _))))))))) ∧ (¬ (r38 = (0 : Int)) → _))))))))))))))) ∧ (¬ (st 170 8 ≤ (0 : Int)) → _)))))
  refine ⟨rfl, ⟨hG, (show st 170 12 = -1 from by omega)⟩, ?_⟩
  refine ⟨fun h51 => ?_, fun h51 => (by exfalso; omega)⟩
  refine ⟨by omega, ?_⟩
  have g52 := g_frame hG ((st 170 42) - 1 : Int).toNat
  refine ⟨by omega, ?_⟩
  refine fun r17 q17 => ?_
  have b17 := q17
  change (r17 = 0 ∨ r17 = 1) ∧ (r17 = 1 ↔ (st 192 ((st 170 42) - 1 : Int).toNat) = 1 ∨ (st 192 ((st 170 42) - 1 : Int).toNat) = 5 ∨ (st 192 ((st 170 42) - 1 : Int).toNat) = 6) at b17
  refine ⟨fun h53 => ?_, fun h53 => ?_⟩
  · refine ⟨fun h54 => ?_, fun h54 => absurd (by decide) h54⟩
    refine ⟨by omega, ?_⟩
    refine ⟨by omega, ?_⟩
    refine ⟨fun h55 => ?_, fun h55 => absurd (by decide) h55⟩
    refine ⟨fun h56 => ?_, fun h56 => absurd (by decide) h56⟩
    refine ⟨rfl, fun r18 q18 => ?_⟩
    have b18 := q18
    change (r18 = 0 ∨ r18 = 1) ∧ (r18 = 1 ↔ st 170 3 = 3 ∧ st 170 6 = (40)) at b18
    refine ⟨fun h57 => ?_, fun h57 => (by exfalso; clear hQ; omega)⟩
    clear h57 b18
    refine ⟨rfl, fun r19 q19 => ?_⟩
    have b19 := q19
    change (r19 = 0 ∨ r19 = 1) ∧ (r19 = 1 ↔ st 170 3 = 1 ∧ st 170 7 = (7170414)) at b19
    refine ⟨fun h58 => (by exfalso; clear hQ; omega), fun h58 => ?_⟩
    clear h58 b19
    refine ⟨rfl, fun r20 q20 => ?_⟩
    have b20 := q20
    change (r20 = 0 ∨ r20 = 1) ∧ (r20 = 1 ↔ st 170 3 = 1 ∧ st 170 7 = (7168376)) at b20
    refine ⟨fun h59 => (by exfalso; clear hQ; omega), fun h59 => ?_⟩
    clear h59 b20
    refine ⟨rfl, fun r21 q21 => ?_⟩
    have b21 := q21
    change (r21 = 0 ∨ r21 = 1) ∧ (r21 = 1 ↔ st 170 3 = 1 ∧ st 170 7 = (26982)) at b21
    refine ⟨fun h60 => ?_, fun h60 => (by exfalso; clear hQ; omega)⟩
    clear h60 b21
    refine ⟨fun h61 => ?_, fun h61 => (by exfalso; omega)⟩
    refine ⟨rfl, fun r22 q22 => ?_⟩
    have b22 := q22
    change (r22 = 0 ∨ r22 = 1) ∧ (r22 = 1 ↔ st 170 3 = 1 ∧ st 170 7 = (1751474548)) at b22
    refine ⟨fun h62 => ?_, fun h62 => (by exfalso; clear hQ; omega)⟩
    clear h62 b22
    refine ⟨rfl, fun r23 q23 => ?_⟩
    have b23 := q23
    change (r23 = 0 ∨ r23 = 1) ∧ (r23 = 1 ↔ st 170 3 = 1 ∧ st 170 7 = (2036687218)) at b23
    refine ⟨fun h63 => ?_, fun h63 => (by exfalso; clear hQ; omega)⟩
    clear h63 b23
    refine ⟨rfl, fun r24 q24 => ?_⟩
    have b24 := q24
    change (r24 = 0 ∨ r24 = 1) ∧ (r24 = 1 ↔ st 170 3 = 1 ∧ st 170 7 = (1953459300)) at b24
    refine ⟨fun h64 => ?_, fun h64 => (by exfalso; clear hQ; omega)⟩
    clear h64 b24
    refine ⟨rfl, fun r25 q25 => ?_⟩
    have b25 := q25
    change (r25 = 0 ∨ r25 = 1) ∧ (r25 = 1 ↔ st 170 3 = 1 ∧ st 170 7 = (1886743660)) at b25
    refine ⟨fun h65 => (by exfalso; clear hQ; omega), fun h65 => ?_⟩
    clear h65 b25
    refine ⟨fun h66 => absurd h66 (by decide), fun h66 => ?_⟩
    refine ⟨fun h67 => ?_, fun h67 => absurd (by decide) h67⟩
    refine ⟨fun h68 => ?_, fun h68 => (by exfalso; omega)⟩
    refine ⟨fun h69 => ?_, fun h69 => absurd (by decide) h69⟩
    refine ⟨fun h70 => ?_, fun h70 => (by exfalso; omega)⟩
    refine ⟨rfl, ⟨(gInv_up hG (p_begins (by omega))), (show st 170 34 ≤ 1599 from by omega)⟩, ?_⟩
    refine ⟨rfl, ⟨(gInv_up (gInv_up (gInv_up (gInv_up hG (p_begins (by omega))) (p_codeSort (by omega))) (p_codeValue (by omega))) (p_codes (by omega))), (show RDr (zup (zup (zup (zup st 194 ((st 170 42) - 1 : Int).toNat 0) 188 ((1600 : Int) * (st 170 35) + (st 170 34) : Int).toNat (4)) 189 ((1600 : Int) * (st 170 35) + (st 170 34) : Int).toNat (st 170 6)) 170 34 ((st 170 34) + 1)) t n from (show RDr (zup (zup (zup (zup st 194 ((st 170 42) - 1 : Int).toNat 0) 188 ((1600 : Int) * (st 170 35) + (st 170 34) : Int).toNat (4)) 189 ((1600 : Int) * (st 170 35) + (st 170 34) : Int).toNat (st 170 6)) 170 34 ((st 170 34) + 1)) t n from mrd)), (show st 170 12 = -1 from by omega)⟩, fun s27 q27 => ?_⟩
    obtain ⟨gs27, fs27, rd27, nx27⟩ := q27
    change RDr s27 t n at rd27
    change NXr (zup (zup (zup (zup st 194 ((st 170 42) - 1 : Int).toNat 0) 188 ((1600 : Int) * (st 170 35) + (st 170 34) : Int).toNat (4)) 189 ((1600 : Int) * (st 170 35) + (st 170 34) : Int).toNat (st 170 6)) 170 34 ((st 170 34) + 1)) s27 t n at nx27
    refine ⟨by omega, ?_⟩
    have e71 : s27 170 8 = st 170 8 := fs27 170 8 rfl rfl
    have e72 : s27 170 46 = st 170 46 := fs27 170 46 rfl rfl
    have e73 : s27 170 43 = st 170 43 := fs27 170 43 rfl rfl
    have e74 : s27 170 34 = ((st 170 34) + 1) := fs27 170 34 rfl rfl
    have e75 : s27 170 45 = st 170 45 := fs27 170 45 rfl rfl
    have e76 : s27 170 42 = st 170 42 := fs27 170 42 rfl rfl
    exact hQ _ _ ⟨gs27, (fr_tr (fr_f (fr_a (fr_a (fr_a (fr_rf _ _) rfl) rfl) rfl) rfl) fs27 rfl), (Z9_tr (Z9_up (Z9_st (Z9_up (Z9_up (Z9_rf _) (by decide)) (by decide)) (b := st 170 35) rfl (by omega)) (by decide)) ((show aFr m_rOp74 st (zup (zup (zup (zup st 194 ((st 170 42) - 1 : Int).toNat 0) 188 ((1600 : Int) * (st 170 35) + (st 170 34) : Int).toNat (4)) 189 ((1600 : Int) * (st 170 35) + (st 170 34) : Int).toNat (st 170 6)) 170 34 ((st 170 34) + 1)) from (fr_f (fr_a (fr_a (fr_a (fr_rf _ _) rfl) rfl) rfl) rfl)) 170 35 rfl rfl) (Z9_fr fs27 (fun _ => rfl) rfl)), (show (1 : Int) = 1 ∧ mcP t n s27 ((k, ph, 0, pr, w) :: fs) 0 (o) (c ++ [4]) (e) from (by
            have hp : s27 170 4 = e := NXr_e (st := (zup (zup (zup (zup st 194 ((st 170 42) - 1 : Int).toNat 0) 188 ((1600 : Int) * (st 170 35) + (st 170 34) : Int).toNat (4)) 189 ((1600 : Int) * (st 170 35) + (st 170 34) : Int).toNat (st 170 6)) 170 34 ((st 170 34) + 1))) (show NXr (zup (zup (zup (zup st 194 ((st 170 42) - 1 : Int).toNat 0) 188 ((1600 : Int) * (st 170 35) + (st 170 34) : Int).toNat (4)) 189 ((1600 : Int) * (st 170 35) + (st 170 34) : Int).toNat (st 170 6)) 170 34 ((st 170 34) + 1)) s27 t n from nx27) (show tk t n ((zup (zup (zup (zup st 194 ((st 170 42) - 1 : Int).toNat 0) 188 ((1600 : Int) * (st 170 35) + (st 170 34) : Int).toNat (4)) 189 ((1600 : Int) * (st 170 35) + (st 170 34) : Int).toNat (st 170 6)) 170 34 ((st 170 34) + 1)) 170 4) _ _ e from by rw [show (zup (zup (zup (zup st 194 ((st 170 42) - 1 : Int).toNat 0) 188 ((1600 : Int) * (st 170 35) + (st 170 34) : Int).toNat (4)) 189 ((1600 : Int) * (st 170 35) + (st 170 34) : Int).toNat (st 170 6)) 170 34 ((st 170 34) + 1)) 170 4 = p from mpp]; exact ht.1) (by omega)
            have hl := tk_lt ht.1 (show 0 ≤ p from by rw [← mpp]; exact mrd.2.1.1) (by omega)
            exact ⟨rfl, ⟨by omega, by omega, by omega, hp, rd27, mcQ_of (fun i => fs27 192 i rfl rfl) (fun i => fs27 193 i rfl rfl) (fun i => fs27 194 i rfl rfl) (fun i => fs27 195 i rfl rfl) (fun i => fs27 196 i rfl rfl) (fun i => fs27 197 i rfl rfl) (fs27 170 42 rfl rfl) (fs27 170 45 rfl rfl) (fs27 170 35 rfl rfl) (fs27 170 34 rfl rfl) (fun i => fs27 188 i rfl rfl) (fun i => fs27 189 i rfl rfl) (show mcQ (zup (zup (zup (zup st 194 ((st 170 42) - 1 : Int).toNat 0) 188 ((1600 : Int) * (st 170 35) + (st 170 34) : Int).toNat (4)) 189 ((1600 : Int) * (st 170 35) + (st 170 34) : Int).toNat (st 170 6)) 170 34 ((st 170 34) + 1)) ((k, ph, 0, pr, w) :: fs) (c ++ [4]) from ⟨FR_bg 0 mb.2.1 mfr, WB_c ml (WB_el mwb) (WB_tl mwb), CDr_add (b := st 170 35) (n := st 170 34) (by omega) mcd (by omega) (fun h => by omega)⟩), by omega, by omega, by omega, by rw [List.length_cons]; omega⟩⟩))⟩
  · have g77 := g_begins hG ((st 170 42) - 1 : Int).toNat
    refine ⟨by omega, ?_⟩
    refine ⟨fun h78 => ?_, fun h78 => ?_⟩
    · refine ⟨fun h79 => ?_, fun h79 => absurd (by decide) h79⟩
      refine ⟨by omega, ?_⟩
      refine ⟨by omega, ?_⟩
      refine ⟨fun h80 => ?_, fun h80 => absurd (by decide) h80⟩
      refine ⟨fun h81 => ?_, fun h81 => absurd (by decide) h81⟩
      refine ⟨rfl, fun r28 q28 => ?_⟩
      have b28 := q28
      change (r28 = 0 ∨ r28 = 1) ∧ (r28 = 1 ↔ st 170 3 = 3 ∧ st 170 6 = (40)) at b28
      refine ⟨fun h82 => ?_, fun h82 => (by exfalso; clear hQ; omega)⟩
      clear h82 b28
      refine ⟨rfl, fun r29 q29 => ?_⟩
      have b29 := q29
      change (r29 = 0 ∨ r29 = 1) ∧ (r29 = 1 ↔ st 170 3 = 1 ∧ st 170 7 = (7170414)) at b29
      refine ⟨fun h83 => (by exfalso; clear hQ; omega), fun h83 => ?_⟩
      clear h83 b29
      refine ⟨rfl, fun r30 q30 => ?_⟩
      have b30 := q30
      change (r30 = 0 ∨ r30 = 1) ∧ (r30 = 1 ↔ st 170 3 = 1 ∧ st 170 7 = (7168376)) at b30
      refine ⟨fun h84 => (by exfalso; clear hQ; omega), fun h84 => ?_⟩
      clear h84 b30
      refine ⟨rfl, fun r31 q31 => ?_⟩
      have b31 := q31
      change (r31 = 0 ∨ r31 = 1) ∧ (r31 = 1 ↔ st 170 3 = 1 ∧ st 170 7 = (26982)) at b31
      refine ⟨fun h85 => ?_, fun h85 => (by exfalso; clear hQ; omega)⟩
      clear h85 b31
      refine ⟨fun h86 => ?_, fun h86 => (by exfalso; omega)⟩
      refine ⟨rfl, fun r32 q32 => ?_⟩
      have b32 := q32
      change (r32 = 0 ∨ r32 = 1) ∧ (r32 = 1 ↔ st 170 3 = 1 ∧ st 170 7 = (1751474548)) at b32
      refine ⟨fun h87 => ?_, fun h87 => (by exfalso; clear hQ; omega)⟩
      clear h87 b32
      refine ⟨rfl, fun r33 q33 => ?_⟩
      have b33 := q33
      change (r33 = 0 ∨ r33 = 1) ∧ (r33 = 1 ↔ st 170 3 = 1 ∧ st 170 7 = (2036687218)) at b33
      refine ⟨fun h88 => ?_, fun h88 => (by exfalso; clear hQ; omega)⟩
      clear h88 b33
      refine ⟨rfl, fun r34 q34 => ?_⟩
      have b34 := q34
      change (r34 = 0 ∨ r34 = 1) ∧ (r34 = 1 ↔ st 170 3 = 1 ∧ st 170 7 = (1953459300)) at b34
      refine ⟨fun h89 => ?_, fun h89 => (by exfalso; clear hQ; omega)⟩
      clear h89 b34
      refine ⟨rfl, fun r35 q35 => ?_⟩
      have b35 := q35
      change (r35 = 0 ∨ r35 = 1) ∧ (r35 = 1 ↔ st 170 3 = 1 ∧ st 170 7 = (1886743660)) at b35
      refine ⟨fun h90 => (by exfalso; clear hQ; omega), fun h90 => ?_⟩
      clear h90 b35
      refine ⟨fun h91 => absurd h91 (by decide), fun h91 => ?_⟩
      refine ⟨fun h92 => ?_, fun h92 => absurd (by decide) h92⟩
      refine ⟨fun h93 => ?_, fun h93 => (by exfalso; omega)⟩
      refine ⟨fun h94 => ?_, fun h94 => absurd (by decide) h94⟩
      refine ⟨fun h95 => ?_, fun h95 => (by exfalso; omega)⟩
      refine ⟨rfl, ⟨(gInv_up hG (p_begins (by omega))), (show st 170 34 ≤ 1599 from by omega)⟩, ?_⟩
      refine ⟨rfl, ⟨(gInv_up (gInv_up (gInv_up (gInv_up hG (p_begins (by omega))) (p_codeSort (by omega))) (p_codeValue (by omega))) (p_codes (by omega))), (show RDr (zup (zup (zup (zup st 194 ((st 170 42) - 1 : Int).toNat 0) 188 ((1600 : Int) * (st 170 35) + (st 170 34) : Int).toNat (4)) 189 ((1600 : Int) * (st 170 35) + (st 170 34) : Int).toNat (st 170 6)) 170 34 ((st 170 34) + 1)) t n from (show RDr (zup (zup (zup (zup st 194 ((st 170 42) - 1 : Int).toNat 0) 188 ((1600 : Int) * (st 170 35) + (st 170 34) : Int).toNat (4)) 189 ((1600 : Int) * (st 170 35) + (st 170 34) : Int).toNat (st 170 6)) 170 34 ((st 170 34) + 1)) t n from mrd)), (show st 170 12 = -1 from by omega)⟩, fun s37 q37 => ?_⟩
      obtain ⟨gs37, fs37, rd37, nx37⟩ := q37
      change RDr s37 t n at rd37
      change NXr (zup (zup (zup (zup st 194 ((st 170 42) - 1 : Int).toNat 0) 188 ((1600 : Int) * (st 170 35) + (st 170 34) : Int).toNat (4)) 189 ((1600 : Int) * (st 170 35) + (st 170 34) : Int).toNat (st 170 6)) 170 34 ((st 170 34) + 1)) s37 t n at nx37
      refine ⟨by omega, ?_⟩
      have e96 : s37 170 8 = st 170 8 := fs37 170 8 rfl rfl
      have e97 : s37 170 46 = st 170 46 := fs37 170 46 rfl rfl
      have e98 : s37 170 43 = st 170 43 := fs37 170 43 rfl rfl
      have e99 : s37 170 34 = ((st 170 34) + 1) := fs37 170 34 rfl rfl
      have e100 : s37 170 45 = st 170 45 := fs37 170 45 rfl rfl
      have e101 : s37 170 42 = st 170 42 := fs37 170 42 rfl rfl
      exact hQ _ _ ⟨gs37, (fr_tr (fr_f (fr_a (fr_a (fr_a (fr_rf _ _) rfl) rfl) rfl) rfl) fs37 rfl), (Z9_tr (Z9_up (Z9_st (Z9_up (Z9_up (Z9_rf _) (by decide)) (by decide)) (b := st 170 35) rfl (by omega)) (by decide)) ((show aFr m_rOp74 st (zup (zup (zup (zup st 194 ((st 170 42) - 1 : Int).toNat 0) 188 ((1600 : Int) * (st 170 35) + (st 170 34) : Int).toNat (4)) 189 ((1600 : Int) * (st 170 35) + (st 170 34) : Int).toNat (st 170 6)) 170 34 ((st 170 34) + 1)) from (fr_f (fr_a (fr_a (fr_a (fr_rf _ _) rfl) rfl) rfl) rfl)) 170 35 rfl rfl) (Z9_fr fs37 (fun _ => rfl) rfl)), (show (1 : Int) = 1 ∧ mcP t n s37 ((k, ph, 0, pr, w) :: fs) 0 (o) (c ++ [4]) (e) from (by
            have hp : s37 170 4 = e := NXr_e (st := (zup (zup (zup (zup st 194 ((st 170 42) - 1 : Int).toNat 0) 188 ((1600 : Int) * (st 170 35) + (st 170 34) : Int).toNat (4)) 189 ((1600 : Int) * (st 170 35) + (st 170 34) : Int).toNat (st 170 6)) 170 34 ((st 170 34) + 1))) (show NXr (zup (zup (zup (zup st 194 ((st 170 42) - 1 : Int).toNat 0) 188 ((1600 : Int) * (st 170 35) + (st 170 34) : Int).toNat (4)) 189 ((1600 : Int) * (st 170 35) + (st 170 34) : Int).toNat (st 170 6)) 170 34 ((st 170 34) + 1)) s37 t n from nx37) (show tk t n ((zup (zup (zup (zup st 194 ((st 170 42) - 1 : Int).toNat 0) 188 ((1600 : Int) * (st 170 35) + (st 170 34) : Int).toNat (4)) 189 ((1600 : Int) * (st 170 35) + (st 170 34) : Int).toNat (st 170 6)) 170 34 ((st 170 34) + 1)) 170 4) _ _ e from by rw [show (zup (zup (zup (zup st 194 ((st 170 42) - 1 : Int).toNat 0) 188 ((1600 : Int) * (st 170 35) + (st 170 34) : Int).toNat (4)) 189 ((1600 : Int) * (st 170 35) + (st 170 34) : Int).toNat (st 170 6)) 170 34 ((st 170 34) + 1)) 170 4 = p from mpp]; exact ht.1) (by omega)
            have hl := tk_lt ht.1 (show 0 ≤ p from by rw [← mpp]; exact mrd.2.1.1) (by omega)
            exact ⟨rfl, ⟨by omega, by omega, by omega, hp, rd37, mcQ_of (fun i => fs37 192 i rfl rfl) (fun i => fs37 193 i rfl rfl) (fun i => fs37 194 i rfl rfl) (fun i => fs37 195 i rfl rfl) (fun i => fs37 196 i rfl rfl) (fun i => fs37 197 i rfl rfl) (fs37 170 42 rfl rfl) (fs37 170 45 rfl rfl) (fs37 170 35 rfl rfl) (fs37 170 34 rfl rfl) (fun i => fs37 188 i rfl rfl) (fun i => fs37 189 i rfl rfl) (show mcQ (zup (zup (zup (zup st 194 ((st 170 42) - 1 : Int).toNat 0) 188 ((1600 : Int) * (st 170 35) + (st 170 34) : Int).toNat (4)) 189 ((1600 : Int) * (st 170 35) + (st 170 34) : Int).toNat (st 170 6)) 170 34 ((st 170 34) + 1)) ((k, ph, 0, pr, w) :: fs) (c ++ [4]) from ⟨FR_bg 0 mb.2.1 mfr, WB_c ml (WB_el mwb) (WB_tl mwb), CDr_add (b := st 170 35) (n := st 170 34) (by omega) mcd (by omega) (fun h => by omega)⟩), by omega, by omega, by omega, by rw [List.length_cons]; omega⟩⟩))⟩
    · refine ⟨fun h102 => absurd h102 (by decide), fun h102 => ?_⟩
      refine ⟨rfl, fun r38 q38 => ?_⟩
      have b38 := q38
      change (r38 = 0 ∨ r38 = 1) ∧ (r38 = 1 ↔ st 170 3 = 1 ∧ st 170 7 = (7237492)) at b38
      refine ⟨fun h103 => ?_, fun h103 => (by exfalso; clear hQ; omega)⟩
      clear h103 b38
      refine ⟨by omega, ?_⟩
      refine ⟨by omega, ?_⟩
      refine ⟨fun h104 => absurd h104 (by decide), fun h104 => ?_⟩
      refine ⟨rfl, fun r39 q39 => ?_⟩
      have b39 := q39
      change (r39 = 0 ∨ r39 = 1) ∧ (r39 = 1 ↔ st 170 3 = 3 ∧ st 170 6 = (91)) at b39
      refine ⟨fun h105 => ?_, fun h105 => (by exfalso; clear hQ; omega)⟩
      clear h105 b39
      refine ⟨fun h106 => absurd h106 (by decide), fun h106 => ?_⟩
      refine ⟨rfl, fun r40 q40 => ?_⟩
      have b40 := q40
      change (r40 = 0 ∨ r40 = 1) ∧ (r40 = 1 ↔ st 170 3 = 1 ∧ st 170 7 = (6384748)) at b40
      refine ⟨fun h107 => ?_, fun h107 => (by exfalso; clear hQ; omega)⟩
      clear h107 b40
      refine ⟨rfl, fun r41 q41 => ?_⟩
      have b41 := q41
      change (r41 = 0 ∨ r41 = 1) ∧ (r41 = 1 ↔ st 170 3 = 3 ∧ st 170 6 = (40)) at b41
      refine ⟨fun h108 => ?_, fun h108 => (by exfalso; clear hQ; omega)⟩
      clear h108 b41
      refine ⟨rfl, fun r42 q42 => ?_⟩
      have b42 := q42
      change (r42 = 0 ∨ r42 = 1) ∧ (r42 = 1 ↔ st 170 3 = 1 ∧ st 170 7 = (7170414)) at b42
      refine ⟨fun h109 => (by exfalso; clear hQ; omega), fun h109 => ?_⟩
      clear h109 b42
      refine ⟨rfl, fun r43 q43 => ?_⟩
      have b43 := q43
      change (r43 = 0 ∨ r43 = 1) ∧ (r43 = 1 ↔ st 170 3 = 1 ∧ st 170 7 = (7168376)) at b43
      refine ⟨fun h110 => (by exfalso; clear hQ; omega), fun h110 => ?_⟩
      clear h110 b43
      refine ⟨rfl, fun r44 q44 => ?_⟩
      have b44 := q44
      change (r44 = 0 ∨ r44 = 1) ∧ (r44 = 1 ↔ st 170 3 = 1 ∧ st 170 7 = (26982)) at b44
      refine ⟨fun h111 => ?_, fun h111 => (by exfalso; clear hQ; omega)⟩
      clear h111 b44
      refine ⟨fun h112 => ?_, fun h112 => (by exfalso; omega)⟩
      refine ⟨rfl, fun r45 q45 => ?_⟩
      have b45 := q45
      change (r45 = 0 ∨ r45 = 1) ∧ (r45 = 1 ↔ st 170 3 = 1 ∧ st 170 7 = (1751474548)) at b45
      refine ⟨fun h113 => ?_, fun h113 => (by exfalso; clear hQ; omega)⟩
      clear h113 b45
      refine ⟨rfl, fun r46 q46 => ?_⟩
      have b46 := q46
      change (r46 = 0 ∨ r46 = 1) ∧ (r46 = 1 ↔ st 170 3 = 1 ∧ st 170 7 = (2036687218)) at b46
      refine ⟨fun h114 => ?_, fun h114 => (by exfalso; clear hQ; omega)⟩
      clear h114 b46
      refine ⟨rfl, fun r47 q47 => ?_⟩
      have b47 := q47
      change (r47 = 0 ∨ r47 = 1) ∧ (r47 = 1 ↔ st 170 3 = 1 ∧ st 170 7 = (1953459300)) at b47
      refine ⟨fun h115 => ?_, fun h115 => (by exfalso; clear hQ; omega)⟩
      clear h115 b47
      refine ⟨rfl, fun r48 q48 => ?_⟩
      have b48 := q48
      change (r48 = 0 ∨ r48 = 1) ∧ (r48 = 1 ↔ st 170 3 = 1 ∧ st 170 7 = (1886743660)) at b48
      refine ⟨fun h116 => (by exfalso; clear hQ; omega), fun h116 => ?_⟩
      clear h116 b48
      refine ⟨fun h117 => absurd h117 (by decide), fun h117 => ?_⟩
      refine ⟨fun h118 => ?_, fun h118 => absurd (by decide) h118⟩
      refine ⟨fun h119 => ?_, fun h119 => (by exfalso; omega)⟩
      refine ⟨fun h120 => ?_, fun h120 => absurd (by decide) h120⟩
      refine ⟨fun h121 => ?_, fun h121 => (by exfalso; omega)⟩
      refine ⟨rfl, ⟨(gInv_up hG (p_begins (by omega))), (show st 170 34 ≤ 1599 from by omega)⟩, ?_⟩
      refine ⟨rfl, ⟨(gInv_up (gInv_up (gInv_up (gInv_up hG (p_begins (by omega))) (p_codeSort (by omega))) (p_codeValue (by omega))) (p_codes (by omega))), (show RDr (zup (zup (zup (zup st 194 ((st 170 42) - 1 : Int).toNat 0) 188 ((1600 : Int) * (st 170 35) + (st 170 34) : Int).toNat (4)) 189 ((1600 : Int) * (st 170 35) + (st 170 34) : Int).toNat (st 170 6)) 170 34 ((st 170 34) + 1)) t n from (show RDr (zup (zup (zup (zup st 194 ((st 170 42) - 1 : Int).toNat 0) 188 ((1600 : Int) * (st 170 35) + (st 170 34) : Int).toNat (4)) 189 ((1600 : Int) * (st 170 35) + (st 170 34) : Int).toNat (st 170 6)) 170 34 ((st 170 34) + 1)) t n from mrd)), (show st 170 12 = -1 from by omega)⟩, fun s50 q50 => ?_⟩
      obtain ⟨gs50, fs50, rd50, nx50⟩ := q50
      change RDr s50 t n at rd50
      change NXr (zup (zup (zup (zup st 194 ((st 170 42) - 1 : Int).toNat 0) 188 ((1600 : Int) * (st 170 35) + (st 170 34) : Int).toNat (4)) 189 ((1600 : Int) * (st 170 35) + (st 170 34) : Int).toNat (st 170 6)) 170 34 ((st 170 34) + 1)) s50 t n at nx50
      refine ⟨by omega, ?_⟩
      have e122 : s50 170 8 = st 170 8 := fs50 170 8 rfl rfl
      have e123 : s50 170 46 = st 170 46 := fs50 170 46 rfl rfl
      have e124 : s50 170 43 = st 170 43 := fs50 170 43 rfl rfl
      have e125 : s50 170 34 = ((st 170 34) + 1) := fs50 170 34 rfl rfl
      have e126 : s50 170 45 = st 170 45 := fs50 170 45 rfl rfl
      have e127 : s50 170 42 = st 170 42 := fs50 170 42 rfl rfl
      exact hQ _ _ ⟨gs50, (fr_tr (fr_f (fr_a (fr_a (fr_a (fr_rf _ _) rfl) rfl) rfl) rfl) fs50 rfl), (Z9_tr (Z9_up (Z9_st (Z9_up (Z9_up (Z9_rf _) (by decide)) (by decide)) (b := st 170 35) rfl (by omega)) (by decide)) ((show aFr m_rOp74 st (zup (zup (zup (zup st 194 ((st 170 42) - 1 : Int).toNat 0) 188 ((1600 : Int) * (st 170 35) + (st 170 34) : Int).toNat (4)) 189 ((1600 : Int) * (st 170 35) + (st 170 34) : Int).toNat (st 170 6)) 170 34 ((st 170 34) + 1)) from (fr_f (fr_a (fr_a (fr_a (fr_rf _ _) rfl) rfl) rfl) rfl)) 170 35 rfl rfl) (Z9_fr fs50 (fun _ => rfl) rfl)), (show (1 : Int) = 1 ∧ mcP t n s50 ((k, ph, 0, pr, w) :: fs) 0 (o) (c ++ [4]) (e) from (by
            have hp : s50 170 4 = e := NXr_e (st := (zup (zup (zup (zup st 194 ((st 170 42) - 1 : Int).toNat 0) 188 ((1600 : Int) * (st 170 35) + (st 170 34) : Int).toNat (4)) 189 ((1600 : Int) * (st 170 35) + (st 170 34) : Int).toNat (st 170 6)) 170 34 ((st 170 34) + 1))) (show NXr (zup (zup (zup (zup st 194 ((st 170 42) - 1 : Int).toNat 0) 188 ((1600 : Int) * (st 170 35) + (st 170 34) : Int).toNat (4)) 189 ((1600 : Int) * (st 170 35) + (st 170 34) : Int).toNat (st 170 6)) 170 34 ((st 170 34) + 1)) s50 t n from nx50) (show tk t n ((zup (zup (zup (zup st 194 ((st 170 42) - 1 : Int).toNat 0) 188 ((1600 : Int) * (st 170 35) + (st 170 34) : Int).toNat (4)) 189 ((1600 : Int) * (st 170 35) + (st 170 34) : Int).toNat (st 170 6)) 170 34 ((st 170 34) + 1)) 170 4) _ _ e from by rw [show (zup (zup (zup (zup st 194 ((st 170 42) - 1 : Int).toNat 0) 188 ((1600 : Int) * (st 170 35) + (st 170 34) : Int).toNat (4)) 189 ((1600 : Int) * (st 170 35) + (st 170 34) : Int).toNat (st 170 6)) 170 34 ((st 170 34) + 1)) 170 4 = p from mpp]; exact ht.1) (by omega)
            have hl := tk_lt ht.1 (show 0 ≤ p from by rw [← mpp]; exact mrd.2.1.1) (by omega)
            exact ⟨rfl, ⟨by omega, by omega, by omega, hp, rd50, mcQ_of (fun i => fs50 192 i rfl rfl) (fun i => fs50 193 i rfl rfl) (fun i => fs50 194 i rfl rfl) (fun i => fs50 195 i rfl rfl) (fun i => fs50 196 i rfl rfl) (fun i => fs50 197 i rfl rfl) (fs50 170 42 rfl rfl) (fs50 170 45 rfl rfl) (fs50 170 35 rfl rfl) (fs50 170 34 rfl rfl) (fun i => fs50 188 i rfl rfl) (fun i => fs50 189 i rfl rfl) (show mcQ (zup (zup (zup (zup st 194 ((st 170 42) - 1 : Int).toNat 0) 188 ((1600 : Int) * (st 170 35) + (st 170 34) : Int).toNat (4)) 189 ((1600 : Int) * (st 170 35) + (st 170 34) : Int).toNat (st 170 6)) 170 34 ((st 170 34) + 1)) ((k, ph, 0, pr, w) :: fs) (c ++ [4]) from ⟨FR_bg 0 mb.2.1 mfr, WB_c ml (WB_el mwb) (WB_tl mwb), CDr_add (b := st 170 35) (n := st 170 34) (by omega) mcd (by omega) (fun h => by omega)⟩), by omega, by omega, by omega, by rw [List.length_cons]; omega⟩⟩))⟩
theorem k_rOp74_m (hTb : aTb zSh rx_tb cl) {t : Int → Int} {n k ph bg pr o p e : Int} {w c : List Int} {fs : List mFr} {D : Nat} (hD : 4 ≤ D) : ∀ as st (Q Q' : zQ), (∀ r st', Q r st' → Q' r st') → (k_rOp74 t n k ph bg pr o p e w c fs) 196 as st Q → cl D 196 as st Q' := by
  intro as st Q Q' hQ h
  unfold k_rOp74 at h
  split at h
  · obtain ⟨rfl, h⟩ := h
    exact c_rOp74 hTb hD (ct_rOp74_m hQ h)
  · exact h.elim
set_option maxHeartbeats 4000000 in
set_option maxRecDepth 100000 in
theorem c_rOp75 (hTb : aTb zSh rx_tb cl) {t : Int → Int} {n k ph bg pr o p e : Int} {w c : List Int} {fs : List mFr} {D : Nat} (hD : 4 ≤ D) {st : zS} {Q : zQ} (h : ct_rOp75 t n k ph bg pr o p e w c fs st Q) : cl D 196 [.inr (.inr (.inl 170))] st Q := by
  obtain ⟨d, rfl⟩ : ∃ d, D = d + 1 := ⟨D - 1, by omega⟩
  refine hTb d 196 (rx_m196, 4, 0, 0, 2) rfl _ _ _ (Nat.le_of_ble_eq_true rfl) (fun K hcl hsf hsl => ?_)
  have hcm : zmo (wcL [(181, k_rLex), (195, k_isTest), (183, k_isWord), (182, k_isSign), (149, k_rNext t n), (189, k_add), (192, k_holdsBack), (194, k_rOpens t n)]) (cl d) := (wcL_m (wm_cons (k_rLex_m hTb (by omega)) (wm_cons (k_isTest_m hTb (by omega)) (wm_cons (k_isWord_m hTb (by omega)) (wm_cons (k_isSign_m hTb (by omega)) (wm_cons (k_rNext_m hTb (by omega)) (wm_cons (k_add_m hTb (by omega)) (wm_cons (k_holdsBack_m hTb (by omega)) (wm_cons (k_rOpens_m hTb (by omega)) wm_nil)))))))))
  obtain ⟨hR, hQ⟩ := h
  obtain ⟨hG, mp, ht⟩ := hR
  change mcP t n st ((k, ph, bg, pr, w) :: fs) 0 (o) (c) (p) at mp
  change tk t n p 1 1937007984 e ∧ st 170 36 = 0 at ht
  have g1 := g_isClever hG
  obtain ⟨mf, mo, mn, mpp, mrd, mq, mbd, mz1, mz2, mz3⟩ := mp
  rw [List.length_cons] at mz3
  have mq0 := mq
  obtain ⟨mfr, mwb, mcd⟩ := mq
  have mt := FR_top mfr
  have mb := FR_bnd _ _ _ mwb mfr
  rw [List.length_cons] at mb
  have ml := WB_hd mwb
  have mcl := mcd.1
  have mlw := FR_len mb.2.1 mfr
  have tf := r_wrd mrd (by rw [mpp]; exact ht.1)
  have g2 := g_codes hG
  have g3 := g_in hG
  have g4 := g_deep hG
  have g5 := g_open hG
  have g6 := g_opMany hG
  have g7 := g_signAt hG
  have g8 := g_signEnd hG
  have g9 := g_faultKind hG
  have g10 := g_size hG
  have g11 := g_sign hG
  have g12 := g_lexAt hG
  have g13 := g_value hG
  have g14 := g_word hG
  have g15 := g_operand hG
  refine yr1_ok (Rt := Q) (wc := (wcL [(181, k_rLex), (195, k_isTest), (183, k_isWord), (182, k_isSign), (149, k_rNext t n), (189, k_add), (192, k_holdsBack), (194, k_rOpens t n)])) (stp := []) hcm hcl [] 400 ?_
  show (170 = 170 ∧ (rq_rLex  st ∧ (((st 170 8 ≤ (0 : Int) → ((-2147483648 ≤ (st 170 42) - 1 ∧ (st 170 42) - 1 ≤ 2147483647) ∧ ((0 ≤ (st 170 42) - 1 ∧ (st 170 42) - 1 < 20) ∧ (∀ (r17 : Int), en_isTest (st 192 ((st 170 42) - 1 : Int).toNat) st r17 → ((r17 = (0 : Int) → (((0 : Int) = (0 : Int) → ((0 ≤ (st 170 42) - 1 ∧ (st 170 42) - 1 < 20) ∧ ((0 = (0 : Int) ∨ 0 = (1 : Int)) ∧ (((0 : Int) = (0 : Int) → (((0 : Int) = (0 : Int) → (170 = 170 ∧ (∀ (r18 : Int), en_isSign (40) (zup st 194 ((st 170 42) - 1 : Int).toNat 0) r18 → ((r18 = (0 : Int) → (170 = 170 ∧ (∀ (r19 : Int), en_isWord (7170414) (zup st 194 ((st 170 42) - 1 : Int).toNat 0) r19 → ((¬ r19 = (0 : Int) → _) ∧ (¬ (¬ r19 = (0 : Int)) → (170 = 170 ∧ (∀ (r20 : Int), en_isWord (7168376) (zup st 194 ((st 170 42) - 1 : Int).toNat 0) r20 → ((¬ r20 = (0 : Int) → _) ∧ (¬ (¬ r20 = (0 : Int)) → (170 = 170 ∧ (∀ (r21 : Int), en_isWord (26982) (zup st 194 ((st 170 42) - 1 : Int).toNat 0) r21 → ((r21 = (0 : Int) → ((¬ st 170 3 = (2 : Int) → (170 = 170 ∧ (∀ (r22 : Int), en_isWord (1751474548) (zup st 194 ((st 170 42) - 1 : Int).toNat 0) r22 → ((r22 = (0 : Int) → (170 = 170 ∧ (∀ (r23 : Int), en_isWord (2036687218) (zup st 194 ((st 170 42) - 1 : Int).toNat 0) r23 → ((r23 = (0 : Int) → (170 = 170 ∧ (∀ (r24 : Int), en_isWord (1953459300) (zup st 194 ((st 170 42) - 1 : Int).toNat 0) r24 → ((r24 = (0 : Int) → (170 = 170 ∧ (∀ (r25 : Int), en_isWord (1886743660) (zup st 194 ((st 170 42) - 1 : Int).toNat 0) r25 → ((r25 = (0 : Int) → (170 = 170 ∧ (∀ (r26 : Int), en_isWord (1937007984) (zup st 194 ((st 170 42) - 1 : Int).toNat 0) r26 → ((r26 = (0 : Int) → _) ∧ (¬ (r26 = (0 : Int)) → (((5 : Int) < (3 : Int) → _) ∧ (¬ ((5 : Int) < (3 : Int)) → (((5 : Int) ≤ (6 : Int) → (((0 : Int) = st 170 36 → ((¬ (5 : Int) = ((-1) : Int) → ((st 170 8 ≤ (0 : Int) → (170 = 170 ∧ (rq_add (5) (st 170 6) (zup st 194 ((st 170 42) - 1 : Int).toNat 0) ∧ ((170 = 170 ∧ (rq_rNext t n  (zup (zup (zup (zup st 194 ((st 170 42) - 1 : Int).toNat 0) 188 ((1600 : Int) * (st 170 35) + (st 170 34) : Int).toNat (5)) 189 ((1600 : Int) * (st 170 35) + (st 170 34) : Int).toNat (st 170 6)) 170 34 ((st 170 34) + 1)) ∧ (∀ (s28 : zS), en_rNext t n  (zup (zup (zup (zup st 194 ((st 170 42) - 1 : Int).toNat 0) 188 ((1600 : Int) * (st 170 35) + (st 170 34) : Int).toNat (5)) 189 ((1600 : Int) * (st 170 35) + (st 170 34) : Int).toNat (st 170 6)) 170 34 ((st 170 34) + 1)) s28 → ((1 = (0 : Int) ∨ 1 = (1 : Int)) ∧ Q (some (.inl 1)) s28)))))))) ∧ (¬ (st 170 8 ≤ (0 : Int)) → _))) ∧ (¬ (¬ (5 : Int) = ((-1) : Int)) → _))) ∧ (¬ ((0 : Int) = st 170 36) → _))) ∧ (¬ ((5 : Int) ≤ (6 : Int)) → _))))))))) ∧ (¬ (r25 = (0 : Int)) → _))))) ∧ (¬ (r24 = (0 : Int)) → _))))) ∧ (¬ (r23 = (0 : Int)) → _))))) ∧ (¬ (r22 = (0 : Int)) → _))))) ∧ (¬ (¬ st 170 3 = (2 : Int)) → _))) ∧ (¬ (r21 = (0 : Int)) → _))))))))))))) ∧ (¬ (r18 = (0 : Int)) → _))))) ∧ (¬ ((0 : Int) = (0 : Int)) → _))) ∧ (¬ ((0 : Int) = (0 : Int)) → _))))) ∧ (¬ ((0 : Int) = (0 : Int)) → _))) ∧ (¬ (r17 = (0 : Int)) → ((0 ≤ (st 170 42) - 1 ∧ (st 170 42) - 1 < 20) ∧ ((st 194 ((st 170 42) - 1 : Int).toNat = (0 : Int) → (((0 : Int) = (0 : Int) → ((0 ≤ (st 170 42) - 1 ∧ (st 170 42) - 1 < 20) ∧ ((0 = (0 : Int) ∨ 0 = (1 : Int)) ∧ (((0 : Int) = (0 : Int) → (((0 : Int) = (0 : Int) → (170 = 170 ∧ (∀ (r29 : Int), en_isSign (40) (zup st 194 ((st 170 42) - 1 : Int).toNat 0) r29 → ((r29 = (0 : Int) → (170 = 170 ∧ (∀ (r30 : Int), en_isWord (7170414) (zup st 194 ((st 170 42) - 1 : Int).toNat 0) r30 → ((¬ r30 = (0 : Int) → _) ∧ (¬ (¬ r30 = (0 : Int)) → (170 = 170 ∧ (∀ (r31 : Int), en_isWord (7168376) (zup st 194 ((st 170 42) - 1 : Int).toNat 0) r31 → ((¬ r31 = (0 : Int) → _) ∧ (¬ (¬ r31 = (0 : Int)) → (170 = 170 ∧ (∀ (r32 : Int), en_isWord (26982) (zup st 194 ((st 170 42) - 1 : Int).toNat 0) r32 → ((r32 = (0 : Int) → ((¬ st 170 3 = (2 : Int) → (170 = 170 ∧ (∀ (r33 : Int), en_isWord (1751474548) (zup st 194 ((st 170 42) - 1 : Int).toNat 0) r33 → ((r33 = (0 : Int) → (170 = 170 ∧ (∀ (r34 : Int), en_isWord (2036687218) (zup st 194 ((st 170 42) - 1 : Int).toNat 0) r34 → ((r34 = (0 : Int) → (170 = 170 ∧ (∀ (r35 : Int), en_isWord (1953459300) (zup st 194 ((st 170 42) - 1 : Int).toNat 0) r35 → ((r35 = (0 : Int) → (170 = 170 ∧ (∀ (r36 : Int), en_isWord (1886743660) (zup st 194 ((st 170 42) - 1 : Int).toNat 0) r36 → ((r36 = (0 : Int) → (170 = 170 ∧ (∀ (r37 : Int), en_isWord (1937007984) (zup st 194 ((st 170 42) - 1 : Int).toNat 0) r37 → ((r37 = (0 : Int) → _) ∧ (¬ (r37 = (0 : Int)) → (((5 : Int) < (3 : Int) → _) ∧ (¬ ((5 : Int) < (3 : Int)) → (((5 : Int) ≤ (6 : Int) → (((0 : Int) = st 170 36 → ((¬ (5 : Int) = ((-1) : Int) → ((st 170 8 ≤ (0 : Int) → (170 = 170 ∧ (rq_add (5) (st 170 6) (zup st 194 ((st 170 42) - 1 : Int).toNat 0) ∧ ((170 = 170 ∧ (rq_rNext t n  (zup (zup (zup (zup st 194 ((st 170 42) - 1 : Int).toNat 0) 188 ((1600 : Int) * (st 170 35) + (st 170 34) : Int).toNat (5)) 189 ((1600 : Int) * (st 170 35) + (st 170 34) : Int).toNat (st 170 6)) 170 34 ((st 170 34) + 1)) ∧ (∀ (s39 : zS), en_rNext t n  (zup (zup (zup (zup st 194 ((st 170 42) - 1 : Int).toNat 0) 188 ((1600 : Int) * (st 170 35) + (st 170 34) : Int).toNat (5)) 189 ((1600 : Int) * (st 170 35) + (st 170 34) : Int).toNat (st 170 6)) 170 34 ((st 170 34) + 1)) s39 → ((1 = (0 : Int) ∨ 1 = (1 : Int)) ∧ Q (some (.inl 1)) s39)))))))) ∧ (¬ (st 170 8 ≤ (0 : Int)) → _))) ∧ (¬ (¬ (5 : Int) = ((-1) : Int)) → _))) ∧ (¬ ((0 : Int) = st 170 36) → _))) ∧ (¬ ((5 : Int) ≤ (6 : Int)) → _))))))))) ∧ (¬ (r36 = (0 : Int)) → _))))) ∧ (¬ (r35 = (0 : Int)) → _))))) ∧ (¬ (r34 = (0 : Int)) → _))))) ∧ (¬ (r33 = (0 : Int)) → _))))) ∧ (¬ (¬ st 170 3 = (2 : Int)) → _))) ∧ (¬ (r32 = (0 : Int)) → _))))))))))))) ∧ (¬ (r29 = (0 : Int)) → _))))) ∧ (¬ ((0 : Int) = (0 : Int)) → _))) ∧ (¬ ((0 : Int) = (0 : Int)) → _))))) ∧ (¬ ((0 : Int) = (0 : Int)) → _))) ∧ (¬ (st 194 ((st 170 42) - 1 : Int).toNat = (0 : Int)) → (((1 : Int) = (0 : Int) → _) ∧ (¬ ((1 : Int) = (0 : Int)) → (170 = 170 ∧ (∀ (r40 : Int), en_isWord (7237492) st r40 → ((r40 = (0 : Int) → ((0 ≤ (st 170 42) - 1 ∧ (st 170 42) - 1 < 20) ∧ ((0 = (0 : Int) ∨ 0 = (1 : Int)) ∧ (((1 : Int) = (0 : Int) → _) ∧ (¬ ((1 : Int) = (0 : Int)) → (170 = 170 ∧ (∀ (r41 : Int), en_isSign (91) (zup st 194 ((st 170 42) - 1 : Int).toNat 0) r41 → ((r41 = (0 : Int) → (((1 : Int) = (0 : Int) → _) ∧ (¬ ((1 : Int) = (0 : Int)) → (170 = 170 ∧ (∀ (r42 : Int), en_isWord (6384748) (zup st 194 ((st 170 42) - 1 : Int).toNat 0) r42 → ((r42 = (0 : Int) → (170 = 170 ∧ (∀ (r43 : Int), en_isSign (40) (zup st 194 ((st 170 42) - 1 : Int).toNat 0) r43 → ((r43 = (0 : Int) → (170 = 170 ∧ (∀ (r44 : Int), en_isWord (7170414) (zup st 194 ((st 170 42) - 1 : Int).toNat 0) r44 → ((¬ r44 = (0 : Int) → _) ∧ (¬ (¬ r44 = (0 : Int)) → (170 = 170 ∧ (∀ (r45 : Int), en_isWord (7168376) (zup st 194 ((st 170 42) - 1 : Int).toNat 0) r45 → ((¬ r45 = (0 : Int) → _) ∧ (¬ (¬ r45 = (0 : Int)) → (170 = 170 ∧ (∀ (r46 : Int), en_isWord (26982) (zup st 194 ((st 170 42) - 1 : Int).toNat 0) r46 → ((r46 = (0 : Int) → ((¬ st 170 3 = (2 : Int) → (170 = 170 ∧ (∀ (r47 : Int), en_isWord (1751474548) (zup st 194 ((st 170 42) - 1 : Int).toNat 0) r47 → ((r47 = (0 : Int) → (170 = 170 ∧ (∀ (r48 : Int), en_isWord (2036687218) (zup st 194 ((st 170 42) - 1 : Int).toNat 0) r48 → ((r48 = (0 : Int) → (170 = 170 ∧ (∀ (r49 : Int), en_isWord (1953459300) (zup st 194 ((st 170 42) - 1 : Int).toNat 0) r49 → ((r49 = (0 : Int) → (170 = 170 ∧ (∀ (r50 : Int), en_isWord (1886743660) (zup st 194 ((st 170 42) - 1 : Int).toNat 0) r50 → ((r50 = (0 : Int) → (170 = 170 ∧ (∀ (r51 : Int), en_isWord (1937007984) (zup st 194 ((st 170 42) - 1 : Int).toNat 0) r51 → ((r51 = (0 : Int) → _) ∧ (¬ (r51 = (0 : Int)) → (((5 : Int) < (3 : Int) → _) ∧ (¬ ((5 : Int) < (3 : Int)) → (((5 : Int) ≤ (6 : Int) → (((0 : Int) = st 170 36 → ((¬ (5 : Int) = ((-1) : Int) → ((st 170 8 ≤ (0 : Int) → (170 = 170 ∧ (rq_add (5) (st 170 6) (zup st 194 ((st 170 42) - 1 : Int).toNat 0) ∧ ((170 = 170 ∧ (rq_rNext t n  (zup (zup (zup (zup st 194 ((st 170 42) - 1 : Int).toNat 0) 188 ((1600 : Int) * (st 170 35) + (st 170 34) : Int).toNat (5)) 189 ((1600 : Int) * (st 170 35) + (st 170 34) : Int).toNat (st 170 6)) 170 34 ((st 170 34) + 1)) ∧ (∀ (s53 : zS), en_rNext t n  (zup (zup (zup (zup st 194 ((st 170 42) - 1 : Int).toNat 0) 188 ((1600 : Int) * (st 170 35) + (st 170 34) : Int).toNat (5)) 189 ((1600 : Int) * (st 170 35) + (st 170 34) : Int).toNat (st 170 6)) 170 34 ((st 170 34) + 1)) s53 → ((1 = (0 : Int) ∨ 1 = (1 : Int)) ∧ Q (some (.inl 1)) s53)))))))) ∧ (¬ (st 170 8 ≤ (0 : Int)) → _))) ∧ (¬ (¬ (5 : Int) = ((-1) : Int)) → _))) ∧ (¬ ((0 : Int) = st 170 36) → _))) ∧ (¬ ((5 : Int) ≤ (6 : Int)) → _))))))))) ∧ (¬ (r50 = (0 : Int)) → _))))) ∧ (¬ (r49 = (0 : Int)) → _))))) ∧ (¬ (r48 = (0 : Int)) → _))))) ∧ (¬ (r47 = (0 : Int)) → _))))) ∧ (¬ (¬ st 170 3 = (2 : Int)) → _))) ∧ (¬ (r46 = (0 : Int)) → _))))))))))))) ∧ (¬ (r43 = (0 : Int)) → _))))) ∧ (¬ (r42 = (0 : Int)) → _))))))) ∧ (¬ (r41 = (0 : Int)) → _))))))))) ∧ (¬ (r40 = (0 : Int)) → _))))))))))))))) ∧ (¬ (st 170 8 ≤ (0 : Int)) → _)))))
  refine ⟨rfl, ⟨hG, (show st 170 12 = -1 from by omega)⟩, ?_⟩
  refine ⟨fun h54 => ?_, fun h54 => (by exfalso; omega)⟩
  refine ⟨by omega, ?_⟩
  have g55 := g_frame hG ((st 170 42) - 1 : Int).toNat
  refine ⟨by omega, ?_⟩
  refine fun r17 q17 => ?_
  have b17 := q17
  change (r17 = 0 ∨ r17 = 1) ∧ (r17 = 1 ↔ (st 192 ((st 170 42) - 1 : Int).toNat) = 1 ∨ (st 192 ((st 170 42) - 1 : Int).toNat) = 5 ∨ (st 192 ((st 170 42) - 1 : Int).toNat) = 6) at b17
  refine ⟨fun h56 => ?_, fun h56 => ?_⟩
  · refine ⟨fun h57 => ?_, fun h57 => absurd (by decide) h57⟩
    refine ⟨by omega, ?_⟩
    refine ⟨by omega, ?_⟩
    refine ⟨fun h58 => ?_, fun h58 => absurd (by decide) h58⟩
    refine ⟨fun h59 => ?_, fun h59 => absurd (by decide) h59⟩
    refine ⟨rfl, fun r18 q18 => ?_⟩
    have b18 := q18
    change (r18 = 0 ∨ r18 = 1) ∧ (r18 = 1 ↔ st 170 3 = 3 ∧ st 170 6 = (40)) at b18
    refine ⟨fun h60 => ?_, fun h60 => (by exfalso; clear hQ; omega)⟩
    clear h60 b18
    refine ⟨rfl, fun r19 q19 => ?_⟩
    have b19 := q19
    change (r19 = 0 ∨ r19 = 1) ∧ (r19 = 1 ↔ st 170 3 = 1 ∧ st 170 7 = (7170414)) at b19
    refine ⟨fun h61 => (by exfalso; clear hQ; omega), fun h61 => ?_⟩
    clear h61 b19
    refine ⟨rfl, fun r20 q20 => ?_⟩
    have b20 := q20
    change (r20 = 0 ∨ r20 = 1) ∧ (r20 = 1 ↔ st 170 3 = 1 ∧ st 170 7 = (7168376)) at b20
    refine ⟨fun h62 => (by exfalso; clear hQ; omega), fun h62 => ?_⟩
    clear h62 b20
    refine ⟨rfl, fun r21 q21 => ?_⟩
    have b21 := q21
    change (r21 = 0 ∨ r21 = 1) ∧ (r21 = 1 ↔ st 170 3 = 1 ∧ st 170 7 = (26982)) at b21
    refine ⟨fun h63 => ?_, fun h63 => (by exfalso; clear hQ; omega)⟩
    clear h63 b21
    refine ⟨fun h64 => ?_, fun h64 => (by exfalso; omega)⟩
    refine ⟨rfl, fun r22 q22 => ?_⟩
    have b22 := q22
    change (r22 = 0 ∨ r22 = 1) ∧ (r22 = 1 ↔ st 170 3 = 1 ∧ st 170 7 = (1751474548)) at b22
    refine ⟨fun h65 => ?_, fun h65 => (by exfalso; clear hQ; omega)⟩
    clear h65 b22
    refine ⟨rfl, fun r23 q23 => ?_⟩
    have b23 := q23
    change (r23 = 0 ∨ r23 = 1) ∧ (r23 = 1 ↔ st 170 3 = 1 ∧ st 170 7 = (2036687218)) at b23
    refine ⟨fun h66 => ?_, fun h66 => (by exfalso; clear hQ; omega)⟩
    clear h66 b23
    refine ⟨rfl, fun r24 q24 => ?_⟩
    have b24 := q24
    change (r24 = 0 ∨ r24 = 1) ∧ (r24 = 1 ↔ st 170 3 = 1 ∧ st 170 7 = (1953459300)) at b24
    refine ⟨fun h67 => ?_, fun h67 => (by exfalso; clear hQ; omega)⟩
    clear h67 b24
    refine ⟨rfl, fun r25 q25 => ?_⟩
    have b25 := q25
    change (r25 = 0 ∨ r25 = 1) ∧ (r25 = 1 ↔ st 170 3 = 1 ∧ st 170 7 = (1886743660)) at b25
    refine ⟨fun h68 => ?_, fun h68 => (by exfalso; clear hQ; omega)⟩
    clear h68 b25
    refine ⟨rfl, fun r26 q26 => ?_⟩
    have b26 := q26
    change (r26 = 0 ∨ r26 = 1) ∧ (r26 = 1 ↔ st 170 3 = 1 ∧ st 170 7 = (1937007984)) at b26
    refine ⟨fun h69 => (by exfalso; clear hQ; omega), fun h69 => ?_⟩
    clear h69 b26
    refine ⟨fun h70 => absurd h70 (by decide), fun h70 => ?_⟩
    refine ⟨fun h71 => ?_, fun h71 => absurd (by decide) h71⟩
    refine ⟨fun h72 => ?_, fun h72 => (by exfalso; omega)⟩
    refine ⟨fun h73 => ?_, fun h73 => absurd (by decide) h73⟩
    refine ⟨fun h74 => ?_, fun h74 => (by exfalso; omega)⟩
    refine ⟨rfl, ⟨(gInv_up hG (p_begins (by omega))), (show st 170 34 ≤ 1599 from by omega)⟩, ?_⟩
    refine ⟨rfl, ⟨(gInv_up (gInv_up (gInv_up (gInv_up hG (p_begins (by omega))) (p_codeSort (by omega))) (p_codeValue (by omega))) (p_codes (by omega))), (show RDr (zup (zup (zup (zup st 194 ((st 170 42) - 1 : Int).toNat 0) 188 ((1600 : Int) * (st 170 35) + (st 170 34) : Int).toNat (5)) 189 ((1600 : Int) * (st 170 35) + (st 170 34) : Int).toNat (st 170 6)) 170 34 ((st 170 34) + 1)) t n from (show RDr (zup (zup (zup (zup st 194 ((st 170 42) - 1 : Int).toNat 0) 188 ((1600 : Int) * (st 170 35) + (st 170 34) : Int).toNat (5)) 189 ((1600 : Int) * (st 170 35) + (st 170 34) : Int).toNat (st 170 6)) 170 34 ((st 170 34) + 1)) t n from mrd)), (show st 170 12 = -1 from by omega)⟩, fun s28 q28 => ?_⟩
    obtain ⟨gs28, fs28, rd28, nx28⟩ := q28
    change RDr s28 t n at rd28
    change NXr (zup (zup (zup (zup st 194 ((st 170 42) - 1 : Int).toNat 0) 188 ((1600 : Int) * (st 170 35) + (st 170 34) : Int).toNat (5)) 189 ((1600 : Int) * (st 170 35) + (st 170 34) : Int).toNat (st 170 6)) 170 34 ((st 170 34) + 1)) s28 t n at nx28
    refine ⟨by omega, ?_⟩
    have e75 : s28 170 8 = st 170 8 := fs28 170 8 rfl rfl
    have e76 : s28 170 46 = st 170 46 := fs28 170 46 rfl rfl
    have e77 : s28 170 43 = st 170 43 := fs28 170 43 rfl rfl
    have e78 : s28 170 34 = ((st 170 34) + 1) := fs28 170 34 rfl rfl
    have e79 : s28 170 45 = st 170 45 := fs28 170 45 rfl rfl
    have e80 : s28 170 42 = st 170 42 := fs28 170 42 rfl rfl
    exact hQ _ _ ⟨gs28, (fr_tr (fr_f (fr_a (fr_a (fr_a (fr_rf _ _) rfl) rfl) rfl) rfl) fs28 rfl), (Z9_tr (Z9_up (Z9_st (Z9_up (Z9_up (Z9_rf _) (by decide)) (by decide)) (b := st 170 35) rfl (by omega)) (by decide)) ((show aFr m_rOp75 st (zup (zup (zup (zup st 194 ((st 170 42) - 1 : Int).toNat 0) 188 ((1600 : Int) * (st 170 35) + (st 170 34) : Int).toNat (5)) 189 ((1600 : Int) * (st 170 35) + (st 170 34) : Int).toNat (st 170 6)) 170 34 ((st 170 34) + 1)) from (fr_f (fr_a (fr_a (fr_a (fr_rf _ _) rfl) rfl) rfl) rfl)) 170 35 rfl rfl) (Z9_fr fs28 (fun _ => rfl) rfl)), (show (1 : Int) = 1 ∧ mcP t n s28 ((k, ph, 0, pr, w) :: fs) 0 (o) (c ++ [5]) (e) from (by
            have hp : s28 170 4 = e := NXr_e (st := (zup (zup (zup (zup st 194 ((st 170 42) - 1 : Int).toNat 0) 188 ((1600 : Int) * (st 170 35) + (st 170 34) : Int).toNat (5)) 189 ((1600 : Int) * (st 170 35) + (st 170 34) : Int).toNat (st 170 6)) 170 34 ((st 170 34) + 1))) (show NXr (zup (zup (zup (zup st 194 ((st 170 42) - 1 : Int).toNat 0) 188 ((1600 : Int) * (st 170 35) + (st 170 34) : Int).toNat (5)) 189 ((1600 : Int) * (st 170 35) + (st 170 34) : Int).toNat (st 170 6)) 170 34 ((st 170 34) + 1)) s28 t n from nx28) (show tk t n ((zup (zup (zup (zup st 194 ((st 170 42) - 1 : Int).toNat 0) 188 ((1600 : Int) * (st 170 35) + (st 170 34) : Int).toNat (5)) 189 ((1600 : Int) * (st 170 35) + (st 170 34) : Int).toNat (st 170 6)) 170 34 ((st 170 34) + 1)) 170 4) _ _ e from by rw [show (zup (zup (zup (zup st 194 ((st 170 42) - 1 : Int).toNat 0) 188 ((1600 : Int) * (st 170 35) + (st 170 34) : Int).toNat (5)) 189 ((1600 : Int) * (st 170 35) + (st 170 34) : Int).toNat (st 170 6)) 170 34 ((st 170 34) + 1)) 170 4 = p from mpp]; exact ht.1) (by omega)
            have hl := tk_lt ht.1 (show 0 ≤ p from by rw [← mpp]; exact mrd.2.1.1) (by omega)
            exact ⟨rfl, ⟨by omega, by omega, by omega, hp, rd28, mcQ_of (fun i => fs28 192 i rfl rfl) (fun i => fs28 193 i rfl rfl) (fun i => fs28 194 i rfl rfl) (fun i => fs28 195 i rfl rfl) (fun i => fs28 196 i rfl rfl) (fun i => fs28 197 i rfl rfl) (fs28 170 42 rfl rfl) (fs28 170 45 rfl rfl) (fs28 170 35 rfl rfl) (fs28 170 34 rfl rfl) (fun i => fs28 188 i rfl rfl) (fun i => fs28 189 i rfl rfl) (show mcQ (zup (zup (zup (zup st 194 ((st 170 42) - 1 : Int).toNat 0) 188 ((1600 : Int) * (st 170 35) + (st 170 34) : Int).toNat (5)) 189 ((1600 : Int) * (st 170 35) + (st 170 34) : Int).toNat (st 170 6)) 170 34 ((st 170 34) + 1)) ((k, ph, 0, pr, w) :: fs) (c ++ [5]) from ⟨FR_bg 0 mb.2.1 mfr, WB_c ml (WB_el mwb) (WB_tl mwb), CDr_add (b := st 170 35) (n := st 170 34) (by omega) mcd (by omega) (fun h => by omega)⟩), by omega, by omega, by omega, by rw [List.length_cons]; omega⟩⟩))⟩
  · have g81 := g_begins hG ((st 170 42) - 1 : Int).toNat
    refine ⟨by omega, ?_⟩
    refine ⟨fun h82 => ?_, fun h82 => ?_⟩
    · refine ⟨fun h83 => ?_, fun h83 => absurd (by decide) h83⟩
      refine ⟨by omega, ?_⟩
      refine ⟨by omega, ?_⟩
      refine ⟨fun h84 => ?_, fun h84 => absurd (by decide) h84⟩
      refine ⟨fun h85 => ?_, fun h85 => absurd (by decide) h85⟩
      refine ⟨rfl, fun r29 q29 => ?_⟩
      have b29 := q29
      change (r29 = 0 ∨ r29 = 1) ∧ (r29 = 1 ↔ st 170 3 = 3 ∧ st 170 6 = (40)) at b29
      refine ⟨fun h86 => ?_, fun h86 => (by exfalso; clear hQ; omega)⟩
      clear h86 b29
      refine ⟨rfl, fun r30 q30 => ?_⟩
      have b30 := q30
      change (r30 = 0 ∨ r30 = 1) ∧ (r30 = 1 ↔ st 170 3 = 1 ∧ st 170 7 = (7170414)) at b30
      refine ⟨fun h87 => (by exfalso; clear hQ; omega), fun h87 => ?_⟩
      clear h87 b30
      refine ⟨rfl, fun r31 q31 => ?_⟩
      have b31 := q31
      change (r31 = 0 ∨ r31 = 1) ∧ (r31 = 1 ↔ st 170 3 = 1 ∧ st 170 7 = (7168376)) at b31
      refine ⟨fun h88 => (by exfalso; clear hQ; omega), fun h88 => ?_⟩
      clear h88 b31
      refine ⟨rfl, fun r32 q32 => ?_⟩
      have b32 := q32
      change (r32 = 0 ∨ r32 = 1) ∧ (r32 = 1 ↔ st 170 3 = 1 ∧ st 170 7 = (26982)) at b32
      refine ⟨fun h89 => ?_, fun h89 => (by exfalso; clear hQ; omega)⟩
      clear h89 b32
      refine ⟨fun h90 => ?_, fun h90 => (by exfalso; omega)⟩
      refine ⟨rfl, fun r33 q33 => ?_⟩
      have b33 := q33
      change (r33 = 0 ∨ r33 = 1) ∧ (r33 = 1 ↔ st 170 3 = 1 ∧ st 170 7 = (1751474548)) at b33
      refine ⟨fun h91 => ?_, fun h91 => (by exfalso; clear hQ; omega)⟩
      clear h91 b33
      refine ⟨rfl, fun r34 q34 => ?_⟩
      have b34 := q34
      change (r34 = 0 ∨ r34 = 1) ∧ (r34 = 1 ↔ st 170 3 = 1 ∧ st 170 7 = (2036687218)) at b34
      refine ⟨fun h92 => ?_, fun h92 => (by exfalso; clear hQ; omega)⟩
      clear h92 b34
      refine ⟨rfl, fun r35 q35 => ?_⟩
      have b35 := q35
      change (r35 = 0 ∨ r35 = 1) ∧ (r35 = 1 ↔ st 170 3 = 1 ∧ st 170 7 = (1953459300)) at b35
      refine ⟨fun h93 => ?_, fun h93 => (by exfalso; clear hQ; omega)⟩
      clear h93 b35
      refine ⟨rfl, fun r36 q36 => ?_⟩
      have b36 := q36
      change (r36 = 0 ∨ r36 = 1) ∧ (r36 = 1 ↔ st 170 3 = 1 ∧ st 170 7 = (1886743660)) at b36
      refine ⟨fun h94 => ?_, fun h94 => (by exfalso; clear hQ; omega)⟩
      clear h94 b36
      refine ⟨rfl, fun r37 q37 => ?_⟩
      have b37 := q37
      change (r37 = 0 ∨ r37 = 1) ∧ (r37 = 1 ↔ st 170 3 = 1 ∧ st 170 7 = (1937007984)) at b37
      refine ⟨fun h95 => (by exfalso; clear hQ; omega), fun h95 => ?_⟩
      clear h95 b37
      refine ⟨fun h96 => absurd h96 (by decide), fun h96 => ?_⟩
      refine ⟨fun h97 => ?_, fun h97 => absurd (by decide) h97⟩
      refine ⟨fun h98 => ?_, fun h98 => (by exfalso; omega)⟩
      refine ⟨fun h99 => ?_, fun h99 => absurd (by decide) h99⟩
      refine ⟨fun h100 => ?_, fun h100 => (by exfalso; omega)⟩
      refine ⟨rfl, ⟨(gInv_up hG (p_begins (by omega))), (show st 170 34 ≤ 1599 from by omega)⟩, ?_⟩
      refine ⟨rfl, ⟨(gInv_up (gInv_up (gInv_up (gInv_up hG (p_begins (by omega))) (p_codeSort (by omega))) (p_codeValue (by omega))) (p_codes (by omega))), (show RDr (zup (zup (zup (zup st 194 ((st 170 42) - 1 : Int).toNat 0) 188 ((1600 : Int) * (st 170 35) + (st 170 34) : Int).toNat (5)) 189 ((1600 : Int) * (st 170 35) + (st 170 34) : Int).toNat (st 170 6)) 170 34 ((st 170 34) + 1)) t n from (show RDr (zup (zup (zup (zup st 194 ((st 170 42) - 1 : Int).toNat 0) 188 ((1600 : Int) * (st 170 35) + (st 170 34) : Int).toNat (5)) 189 ((1600 : Int) * (st 170 35) + (st 170 34) : Int).toNat (st 170 6)) 170 34 ((st 170 34) + 1)) t n from mrd)), (show st 170 12 = -1 from by omega)⟩, fun s39 q39 => ?_⟩
      obtain ⟨gs39, fs39, rd39, nx39⟩ := q39
      change RDr s39 t n at rd39
      change NXr (zup (zup (zup (zup st 194 ((st 170 42) - 1 : Int).toNat 0) 188 ((1600 : Int) * (st 170 35) + (st 170 34) : Int).toNat (5)) 189 ((1600 : Int) * (st 170 35) + (st 170 34) : Int).toNat (st 170 6)) 170 34 ((st 170 34) + 1)) s39 t n at nx39
      refine ⟨by omega, ?_⟩
      have e101 : s39 170 8 = st 170 8 := fs39 170 8 rfl rfl
      have e102 : s39 170 46 = st 170 46 := fs39 170 46 rfl rfl
      have e103 : s39 170 43 = st 170 43 := fs39 170 43 rfl rfl
      have e104 : s39 170 34 = ((st 170 34) + 1) := fs39 170 34 rfl rfl
      have e105 : s39 170 45 = st 170 45 := fs39 170 45 rfl rfl
      have e106 : s39 170 42 = st 170 42 := fs39 170 42 rfl rfl
      exact hQ _ _ ⟨gs39, (fr_tr (fr_f (fr_a (fr_a (fr_a (fr_rf _ _) rfl) rfl) rfl) rfl) fs39 rfl), (Z9_tr (Z9_up (Z9_st (Z9_up (Z9_up (Z9_rf _) (by decide)) (by decide)) (b := st 170 35) rfl (by omega)) (by decide)) ((show aFr m_rOp75 st (zup (zup (zup (zup st 194 ((st 170 42) - 1 : Int).toNat 0) 188 ((1600 : Int) * (st 170 35) + (st 170 34) : Int).toNat (5)) 189 ((1600 : Int) * (st 170 35) + (st 170 34) : Int).toNat (st 170 6)) 170 34 ((st 170 34) + 1)) from (fr_f (fr_a (fr_a (fr_a (fr_rf _ _) rfl) rfl) rfl) rfl)) 170 35 rfl rfl) (Z9_fr fs39 (fun _ => rfl) rfl)), (show (1 : Int) = 1 ∧ mcP t n s39 ((k, ph, 0, pr, w) :: fs) 0 (o) (c ++ [5]) (e) from (by
            have hp : s39 170 4 = e := NXr_e (st := (zup (zup (zup (zup st 194 ((st 170 42) - 1 : Int).toNat 0) 188 ((1600 : Int) * (st 170 35) + (st 170 34) : Int).toNat (5)) 189 ((1600 : Int) * (st 170 35) + (st 170 34) : Int).toNat (st 170 6)) 170 34 ((st 170 34) + 1))) (show NXr (zup (zup (zup (zup st 194 ((st 170 42) - 1 : Int).toNat 0) 188 ((1600 : Int) * (st 170 35) + (st 170 34) : Int).toNat (5)) 189 ((1600 : Int) * (st 170 35) + (st 170 34) : Int).toNat (st 170 6)) 170 34 ((st 170 34) + 1)) s39 t n from nx39) (show tk t n ((zup (zup (zup (zup st 194 ((st 170 42) - 1 : Int).toNat 0) 188 ((1600 : Int) * (st 170 35) + (st 170 34) : Int).toNat (5)) 189 ((1600 : Int) * (st 170 35) + (st 170 34) : Int).toNat (st 170 6)) 170 34 ((st 170 34) + 1)) 170 4) _ _ e from by rw [show (zup (zup (zup (zup st 194 ((st 170 42) - 1 : Int).toNat 0) 188 ((1600 : Int) * (st 170 35) + (st 170 34) : Int).toNat (5)) 189 ((1600 : Int) * (st 170 35) + (st 170 34) : Int).toNat (st 170 6)) 170 34 ((st 170 34) + 1)) 170 4 = p from mpp]; exact ht.1) (by omega)
            have hl := tk_lt ht.1 (show 0 ≤ p from by rw [← mpp]; exact mrd.2.1.1) (by omega)
            exact ⟨rfl, ⟨by omega, by omega, by omega, hp, rd39, mcQ_of (fun i => fs39 192 i rfl rfl) (fun i => fs39 193 i rfl rfl) (fun i => fs39 194 i rfl rfl) (fun i => fs39 195 i rfl rfl) (fun i => fs39 196 i rfl rfl) (fun i => fs39 197 i rfl rfl) (fs39 170 42 rfl rfl) (fs39 170 45 rfl rfl) (fs39 170 35 rfl rfl) (fs39 170 34 rfl rfl) (fun i => fs39 188 i rfl rfl) (fun i => fs39 189 i rfl rfl) (show mcQ (zup (zup (zup (zup st 194 ((st 170 42) - 1 : Int).toNat 0) 188 ((1600 : Int) * (st 170 35) + (st 170 34) : Int).toNat (5)) 189 ((1600 : Int) * (st 170 35) + (st 170 34) : Int).toNat (st 170 6)) 170 34 ((st 170 34) + 1)) ((k, ph, 0, pr, w) :: fs) (c ++ [5]) from ⟨FR_bg 0 mb.2.1 mfr, WB_c ml (WB_el mwb) (WB_tl mwb), CDr_add (b := st 170 35) (n := st 170 34) (by omega) mcd (by omega) (fun h => by omega)⟩), by omega, by omega, by omega, by rw [List.length_cons]; omega⟩⟩))⟩
    · refine ⟨fun h107 => absurd h107 (by decide), fun h107 => ?_⟩
      refine ⟨rfl, fun r40 q40 => ?_⟩
      have b40 := q40
      change (r40 = 0 ∨ r40 = 1) ∧ (r40 = 1 ↔ st 170 3 = 1 ∧ st 170 7 = (7237492)) at b40
      refine ⟨fun h108 => ?_, fun h108 => (by exfalso; clear hQ; omega)⟩
      clear h108 b40
      refine ⟨by omega, ?_⟩
      refine ⟨by omega, ?_⟩
      refine ⟨fun h109 => absurd h109 (by decide), fun h109 => ?_⟩
      refine ⟨rfl, fun r41 q41 => ?_⟩
      have b41 := q41
      change (r41 = 0 ∨ r41 = 1) ∧ (r41 = 1 ↔ st 170 3 = 3 ∧ st 170 6 = (91)) at b41
      refine ⟨fun h110 => ?_, fun h110 => (by exfalso; clear hQ; omega)⟩
      clear h110 b41
      refine ⟨fun h111 => absurd h111 (by decide), fun h111 => ?_⟩
      refine ⟨rfl, fun r42 q42 => ?_⟩
      have b42 := q42
      change (r42 = 0 ∨ r42 = 1) ∧ (r42 = 1 ↔ st 170 3 = 1 ∧ st 170 7 = (6384748)) at b42
      refine ⟨fun h112 => ?_, fun h112 => (by exfalso; clear hQ; omega)⟩
      clear h112 b42
      refine ⟨rfl, fun r43 q43 => ?_⟩
      have b43 := q43
      change (r43 = 0 ∨ r43 = 1) ∧ (r43 = 1 ↔ st 170 3 = 3 ∧ st 170 6 = (40)) at b43
      refine ⟨fun h113 => ?_, fun h113 => (by exfalso; clear hQ; omega)⟩
      clear h113 b43
      refine ⟨rfl, fun r44 q44 => ?_⟩
      have b44 := q44
      change (r44 = 0 ∨ r44 = 1) ∧ (r44 = 1 ↔ st 170 3 = 1 ∧ st 170 7 = (7170414)) at b44
      refine ⟨fun h114 => (by exfalso; clear hQ; omega), fun h114 => ?_⟩
      clear h114 b44
      refine ⟨rfl, fun r45 q45 => ?_⟩
      have b45 := q45
      change (r45 = 0 ∨ r45 = 1) ∧ (r45 = 1 ↔ st 170 3 = 1 ∧ st 170 7 = (7168376)) at b45
      refine ⟨fun h115 => (by exfalso; clear hQ; omega), fun h115 => ?_⟩
      clear h115 b45
      refine ⟨rfl, fun r46 q46 => ?_⟩
      have b46 := q46
      change (r46 = 0 ∨ r46 = 1) ∧ (r46 = 1 ↔ st 170 3 = 1 ∧ st 170 7 = (26982)) at b46
      refine ⟨fun h116 => ?_, fun h116 => (by exfalso; clear hQ; omega)⟩
      clear h116 b46
      refine ⟨fun h117 => ?_, fun h117 => (by exfalso; omega)⟩
      refine ⟨rfl, fun r47 q47 => ?_⟩
      have b47 := q47
      change (r47 = 0 ∨ r47 = 1) ∧ (r47 = 1 ↔ st 170 3 = 1 ∧ st 170 7 = (1751474548)) at b47
      refine ⟨fun h118 => ?_, fun h118 => (by exfalso; clear hQ; omega)⟩
      clear h118 b47
      refine ⟨rfl, fun r48 q48 => ?_⟩
      have b48 := q48
      change (r48 = 0 ∨ r48 = 1) ∧ (r48 = 1 ↔ st 170 3 = 1 ∧ st 170 7 = (2036687218)) at b48
      refine ⟨fun h119 => ?_, fun h119 => (by exfalso; clear hQ; omega)⟩
      clear h119 b48
      refine ⟨rfl, fun r49 q49 => ?_⟩
      have b49 := q49
      change (r49 = 0 ∨ r49 = 1) ∧ (r49 = 1 ↔ st 170 3 = 1 ∧ st 170 7 = (1953459300)) at b49
      refine ⟨fun h120 => ?_, fun h120 => (by exfalso; clear hQ; omega)⟩
      clear h120 b49
      refine ⟨rfl, fun r50 q50 => ?_⟩
      have b50 := q50
      change (r50 = 0 ∨ r50 = 1) ∧ (r50 = 1 ↔ st 170 3 = 1 ∧ st 170 7 = (1886743660)) at b50
      refine ⟨fun h121 => ?_, fun h121 => (by exfalso; clear hQ; omega)⟩
      clear h121 b50
      refine ⟨rfl, fun r51 q51 => ?_⟩
      have b51 := q51
      change (r51 = 0 ∨ r51 = 1) ∧ (r51 = 1 ↔ st 170 3 = 1 ∧ st 170 7 = (1937007984)) at b51
      refine ⟨fun h122 => (by exfalso; clear hQ; omega), fun h122 => ?_⟩
      clear h122 b51
      refine ⟨fun h123 => absurd h123 (by decide), fun h123 => ?_⟩
      refine ⟨fun h124 => ?_, fun h124 => absurd (by decide) h124⟩
      refine ⟨fun h125 => ?_, fun h125 => (by exfalso; omega)⟩
      refine ⟨fun h126 => ?_, fun h126 => absurd (by decide) h126⟩
      refine ⟨fun h127 => ?_, fun h127 => (by exfalso; omega)⟩
      refine ⟨rfl, ⟨(gInv_up hG (p_begins (by omega))), (show st 170 34 ≤ 1599 from by omega)⟩, ?_⟩
      refine ⟨rfl, ⟨(gInv_up (gInv_up (gInv_up (gInv_up hG (p_begins (by omega))) (p_codeSort (by omega))) (p_codeValue (by omega))) (p_codes (by omega))), (show RDr (zup (zup (zup (zup st 194 ((st 170 42) - 1 : Int).toNat 0) 188 ((1600 : Int) * (st 170 35) + (st 170 34) : Int).toNat (5)) 189 ((1600 : Int) * (st 170 35) + (st 170 34) : Int).toNat (st 170 6)) 170 34 ((st 170 34) + 1)) t n from (show RDr (zup (zup (zup (zup st 194 ((st 170 42) - 1 : Int).toNat 0) 188 ((1600 : Int) * (st 170 35) + (st 170 34) : Int).toNat (5)) 189 ((1600 : Int) * (st 170 35) + (st 170 34) : Int).toNat (st 170 6)) 170 34 ((st 170 34) + 1)) t n from mrd)), (show st 170 12 = -1 from by omega)⟩, fun s53 q53 => ?_⟩
      obtain ⟨gs53, fs53, rd53, nx53⟩ := q53
      change RDr s53 t n at rd53
      change NXr (zup (zup (zup (zup st 194 ((st 170 42) - 1 : Int).toNat 0) 188 ((1600 : Int) * (st 170 35) + (st 170 34) : Int).toNat (5)) 189 ((1600 : Int) * (st 170 35) + (st 170 34) : Int).toNat (st 170 6)) 170 34 ((st 170 34) + 1)) s53 t n at nx53
      refine ⟨by omega, ?_⟩
      have e128 : s53 170 8 = st 170 8 := fs53 170 8 rfl rfl
      have e129 : s53 170 46 = st 170 46 := fs53 170 46 rfl rfl
      have e130 : s53 170 43 = st 170 43 := fs53 170 43 rfl rfl
      have e131 : s53 170 34 = ((st 170 34) + 1) := fs53 170 34 rfl rfl
      have e132 : s53 170 45 = st 170 45 := fs53 170 45 rfl rfl
      have e133 : s53 170 42 = st 170 42 := fs53 170 42 rfl rfl
      exact hQ _ _ ⟨gs53, (fr_tr (fr_f (fr_a (fr_a (fr_a (fr_rf _ _) rfl) rfl) rfl) rfl) fs53 rfl), (Z9_tr (Z9_up (Z9_st (Z9_up (Z9_up (Z9_rf _) (by decide)) (by decide)) (b := st 170 35) rfl (by omega)) (by decide)) ((show aFr m_rOp75 st (zup (zup (zup (zup st 194 ((st 170 42) - 1 : Int).toNat 0) 188 ((1600 : Int) * (st 170 35) + (st 170 34) : Int).toNat (5)) 189 ((1600 : Int) * (st 170 35) + (st 170 34) : Int).toNat (st 170 6)) 170 34 ((st 170 34) + 1)) from (fr_f (fr_a (fr_a (fr_a (fr_rf _ _) rfl) rfl) rfl) rfl)) 170 35 rfl rfl) (Z9_fr fs53 (fun _ => rfl) rfl)), (show (1 : Int) = 1 ∧ mcP t n s53 ((k, ph, 0, pr, w) :: fs) 0 (o) (c ++ [5]) (e) from (by
            have hp : s53 170 4 = e := NXr_e (st := (zup (zup (zup (zup st 194 ((st 170 42) - 1 : Int).toNat 0) 188 ((1600 : Int) * (st 170 35) + (st 170 34) : Int).toNat (5)) 189 ((1600 : Int) * (st 170 35) + (st 170 34) : Int).toNat (st 170 6)) 170 34 ((st 170 34) + 1))) (show NXr (zup (zup (zup (zup st 194 ((st 170 42) - 1 : Int).toNat 0) 188 ((1600 : Int) * (st 170 35) + (st 170 34) : Int).toNat (5)) 189 ((1600 : Int) * (st 170 35) + (st 170 34) : Int).toNat (st 170 6)) 170 34 ((st 170 34) + 1)) s53 t n from nx53) (show tk t n ((zup (zup (zup (zup st 194 ((st 170 42) - 1 : Int).toNat 0) 188 ((1600 : Int) * (st 170 35) + (st 170 34) : Int).toNat (5)) 189 ((1600 : Int) * (st 170 35) + (st 170 34) : Int).toNat (st 170 6)) 170 34 ((st 170 34) + 1)) 170 4) _ _ e from by rw [show (zup (zup (zup (zup st 194 ((st 170 42) - 1 : Int).toNat 0) 188 ((1600 : Int) * (st 170 35) + (st 170 34) : Int).toNat (5)) 189 ((1600 : Int) * (st 170 35) + (st 170 34) : Int).toNat (st 170 6)) 170 34 ((st 170 34) + 1)) 170 4 = p from mpp]; exact ht.1) (by omega)
            have hl := tk_lt ht.1 (show 0 ≤ p from by rw [← mpp]; exact mrd.2.1.1) (by omega)
            exact ⟨rfl, ⟨by omega, by omega, by omega, hp, rd53, mcQ_of (fun i => fs53 192 i rfl rfl) (fun i => fs53 193 i rfl rfl) (fun i => fs53 194 i rfl rfl) (fun i => fs53 195 i rfl rfl) (fun i => fs53 196 i rfl rfl) (fun i => fs53 197 i rfl rfl) (fs53 170 42 rfl rfl) (fs53 170 45 rfl rfl) (fs53 170 35 rfl rfl) (fs53 170 34 rfl rfl) (fun i => fs53 188 i rfl rfl) (fun i => fs53 189 i rfl rfl) (show mcQ (zup (zup (zup (zup st 194 ((st 170 42) - 1 : Int).toNat 0) 188 ((1600 : Int) * (st 170 35) + (st 170 34) : Int).toNat (5)) 189 ((1600 : Int) * (st 170 35) + (st 170 34) : Int).toNat (st 170 6)) 170 34 ((st 170 34) + 1)) ((k, ph, 0, pr, w) :: fs) (c ++ [5]) from ⟨FR_bg 0 mb.2.1 mfr, WB_c ml (WB_el mwb) (WB_tl mwb), CDr_add (b := st 170 35) (n := st 170 34) (by omega) mcd (by omega) (fun h => by omega)⟩), by omega, by omega, by omega, by rw [List.length_cons]; omega⟩⟩))⟩
theorem k_rOp75_m (hTb : aTb zSh rx_tb cl) {t : Int → Int} {n k ph bg pr o p e : Int} {w c : List Int} {fs : List mFr} {D : Nat} (hD : 4 ≤ D) : ∀ as st (Q Q' : zQ), (∀ r st', Q r st' → Q' r st') → (k_rOp75 t n k ph bg pr o p e w c fs) 196 as st Q → cl D 196 as st Q' := by
  intro as st Q Q' hQ h
  unfold k_rOp75 at h
  split at h
  · obtain ⟨rfl, h⟩ := h
    exact c_rOp75 hTb hD (ct_rOp75_m hQ h)
  · exact h.elim
set_option maxHeartbeats 4000000 in
set_option maxRecDepth 100000 in
theorem c_rOp76 (hTb : aTb zSh rx_tb cl) {t : Int → Int} {n k ph bg pr o p e : Int} {w c : List Int} {fs : List mFr} {D : Nat} (hD : 4 ≤ D) {st : zS} {Q : zQ} (h : ct_rOp76 t n k ph bg pr o p e w c fs st Q) : cl D 196 [.inr (.inr (.inl 170))] st Q := by
  obtain ⟨d, rfl⟩ : ∃ d, D = d + 1 := ⟨D - 1, by omega⟩
  refine hTb d 196 (rx_m196, 4, 0, 0, 2) rfl _ _ _ (Nat.le_of_ble_eq_true rfl) (fun K hcl hsf hsl => ?_)
  have hcm : zmo (wcL [(181, k_rLex), (195, k_isTest), (183, k_isWord), (182, k_isSign), (149, k_rNext t n), (189, k_add), (192, k_holdsBack), (194, k_rOpens t n)]) (cl d) := (wcL_m (wm_cons (k_rLex_m hTb (by omega)) (wm_cons (k_isTest_m hTb (by omega)) (wm_cons (k_isWord_m hTb (by omega)) (wm_cons (k_isSign_m hTb (by omega)) (wm_cons (k_rNext_m hTb (by omega)) (wm_cons (k_add_m hTb (by omega)) (wm_cons (k_holdsBack_m hTb (by omega)) (wm_cons (k_rOpens_m hTb (by omega)) wm_nil)))))))))
  obtain ⟨hR, hQ⟩ := h
  obtain ⟨hG, mp, ht⟩ := hR
  change mcP t n st ((k, ph, bg, pr, w) :: fs) 0 (o) (c) (p) at mp
  change tk t n p 1 1650812270 e ∧ st 170 36 = 0 at ht
  have g1 := g_isClever hG
  obtain ⟨mf, mo, mn, mpp, mrd, mq, mbd, mz1, mz2, mz3⟩ := mp
  rw [List.length_cons] at mz3
  have mq0 := mq
  obtain ⟨mfr, mwb, mcd⟩ := mq
  have mt := FR_top mfr
  have mb := FR_bnd _ _ _ mwb mfr
  rw [List.length_cons] at mb
  have ml := WB_hd mwb
  have mcl := mcd.1
  have mlw := FR_len mb.2.1 mfr
  have tf := r_wrd mrd (by rw [mpp]; exact ht.1)
  have g2 := g_codes hG
  have g3 := g_in hG
  have g4 := g_deep hG
  have g5 := g_open hG
  have g6 := g_opMany hG
  have g7 := g_signAt hG
  have g8 := g_signEnd hG
  have g9 := g_faultKind hG
  have g10 := g_size hG
  have g11 := g_sign hG
  have g12 := g_lexAt hG
  have g13 := g_value hG
  have g14 := g_word hG
  have g15 := g_operand hG
  refine yr1_ok (Rt := Q) (wc := (wcL [(181, k_rLex), (195, k_isTest), (183, k_isWord), (182, k_isSign), (149, k_rNext t n), (189, k_add), (192, k_holdsBack), (194, k_rOpens t n)])) (stp := []) hcm hcl [] 400 ?_
  show (170 = 170 ∧ (rq_rLex  st ∧ (((st 170 8 ≤ (0 : Int) → ((-2147483648 ≤ (st 170 42) - 1 ∧ (st 170 42) - 1 ≤ 2147483647) ∧ ((0 ≤ (st 170 42) - 1 ∧ (st 170 42) - 1 < 20) ∧ (∀ (r17 : Int), en_isTest (st 192 ((st 170 42) - 1 : Int).toNat) st r17 → ((r17 = (0 : Int) → (((0 : Int) = (0 : Int) → ((0 ≤ (st 170 42) - 1 ∧ (st 170 42) - 1 < 20) ∧ ((0 = (0 : Int) ∨ 0 = (1 : Int)) ∧ (((0 : Int) = (0 : Int) → (((0 : Int) = (0 : Int) → (170 = 170 ∧ (∀ (r18 : Int), en_isSign (40) (zup st 194 ((st 170 42) - 1 : Int).toNat 0) r18 → ((r18 = (0 : Int) → (170 = 170 ∧ (∀ (r19 : Int), en_isWord (7170414) (zup st 194 ((st 170 42) - 1 : Int).toNat 0) r19 → ((¬ r19 = (0 : Int) → _) ∧ (¬ (¬ r19 = (0 : Int)) → (170 = 170 ∧ (∀ (r20 : Int), en_isWord (7168376) (zup st 194 ((st 170 42) - 1 : Int).toNat 0) r20 → ((¬ r20 = (0 : Int) → _) ∧ (¬ (¬ r20 = (0 : Int)) → (170 = 170 ∧ (∀ (r21 : Int), en_isWord (26982) (zup st 194 ((st 170 42) - 1 : Int).toNat 0) r21 → ((r21 = (0 : Int) → ((¬ st 170 3 = (2 : Int) → (170 = 170 ∧ (∀ (r22 : Int), en_isWord (1751474548) (zup st 194 ((st 170 42) - 1 : Int).toNat 0) r22 → ((r22 = (0 : Int) → (170 = 170 ∧ (∀ (r23 : Int), en_isWord (2036687218) (zup st 194 ((st 170 42) - 1 : Int).toNat 0) r23 → ((r23 = (0 : Int) → (170 = 170 ∧ (∀ (r24 : Int), en_isWord (1953459300) (zup st 194 ((st 170 42) - 1 : Int).toNat 0) r24 → ((r24 = (0 : Int) → (170 = 170 ∧ (∀ (r25 : Int), en_isWord (1886743660) (zup st 194 ((st 170 42) - 1 : Int).toNat 0) r25 → ((r25 = (0 : Int) → (170 = 170 ∧ (∀ (r26 : Int), en_isWord (1937007984) (zup st 194 ((st 170 42) - 1 : Int).toNat 0) r26 → ((r26 = (0 : Int) → (170 = 170 ∧ (∀ (r27 : Int), en_isWord (1650812270) (zup st 194 ((st 170 42) - 1 : Int).toNat 0) r27 → ((r27 = (0 : Int) → _) ∧ (¬ (r27 = (0 : Int)) → (((6 : Int) < (3 : Int) → _) ∧ (¬ ((6 : Int) < (3 : Int)) → (((6 : Int) ≤ (6 : Int) → (((0 : Int) = st 170 36 → ((¬ (6 : Int) = ((-1) : Int) → ((st 170 8 ≤ (0 : Int) → (170 = 170 ∧ (rq_add (6) (st 170 6) (zup st 194 ((st 170 42) - 1 : Int).toNat 0) ∧ ((170 = 170 ∧ (rq_rNext t n  (zup (zup (zup (zup st 194 ((st 170 42) - 1 : Int).toNat 0) 188 ((1600 : Int) * (st 170 35) + (st 170 34) : Int).toNat (6)) 189 ((1600 : Int) * (st 170 35) + (st 170 34) : Int).toNat (st 170 6)) 170 34 ((st 170 34) + 1)) ∧ (∀ (s29 : zS), en_rNext t n  (zup (zup (zup (zup st 194 ((st 170 42) - 1 : Int).toNat 0) 188 ((1600 : Int) * (st 170 35) + (st 170 34) : Int).toNat (6)) 189 ((1600 : Int) * (st 170 35) + (st 170 34) : Int).toNat (st 170 6)) 170 34 ((st 170 34) + 1)) s29 → ((1 = (0 : Int) ∨ 1 = (1 : Int)) ∧ Q (some (.inl 1)) s29)))))))) ∧ (¬ (st 170 8 ≤ (0 : Int)) → _))) ∧ (¬ (¬ (6 : Int) = ((-1) : Int)) → _))) ∧ (¬ ((0 : Int) = st 170 36) → _))) ∧ (¬ ((6 : Int) ≤ (6 : Int)) → _))))))))) ∧ (¬ (r26 = (0 : Int)) → _))))) ∧ (¬ (r25 = (0 : Int)) → _))))) ∧ (¬ (r24 = (0 : Int)) → _))))) ∧ (¬ (r23 = (0 : Int)) → _))))) ∧ (¬ (r22 = (0 : Int)) → _))))) ∧ (¬ (¬ st 170 3 = (2 : Int)) → _))) ∧ (¬ (r21 = (0 : Int)) → _))))))))))))) ∧ (¬ (r18 = (0 : Int)) → _))))) ∧ (¬ ((0 : Int) = (0 : Int)) → _))) ∧ (¬ ((0 : Int) = (0 : Int)) → _))))) ∧ (¬ ((0 : Int) = (0 : Int)) → _))) ∧ (¬ (r17 = (0 : Int)) → ((0 ≤ (st 170 42) - 1 ∧ (st 170 42) - 1 < 20) ∧ ((st 194 ((st 170 42) - 1 : Int).toNat = (0 : Int) → (((0 : Int) = (0 : Int) → ((0 ≤ (st 170 42) - 1 ∧ (st 170 42) - 1 < 20) ∧ ((0 = (0 : Int) ∨ 0 = (1 : Int)) ∧ (((0 : Int) = (0 : Int) → (((0 : Int) = (0 : Int) → (170 = 170 ∧ (∀ (r30 : Int), en_isSign (40) (zup st 194 ((st 170 42) - 1 : Int).toNat 0) r30 → ((r30 = (0 : Int) → (170 = 170 ∧ (∀ (r31 : Int), en_isWord (7170414) (zup st 194 ((st 170 42) - 1 : Int).toNat 0) r31 → ((¬ r31 = (0 : Int) → _) ∧ (¬ (¬ r31 = (0 : Int)) → (170 = 170 ∧ (∀ (r32 : Int), en_isWord (7168376) (zup st 194 ((st 170 42) - 1 : Int).toNat 0) r32 → ((¬ r32 = (0 : Int) → _) ∧ (¬ (¬ r32 = (0 : Int)) → (170 = 170 ∧ (∀ (r33 : Int), en_isWord (26982) (zup st 194 ((st 170 42) - 1 : Int).toNat 0) r33 → ((r33 = (0 : Int) → ((¬ st 170 3 = (2 : Int) → (170 = 170 ∧ (∀ (r34 : Int), en_isWord (1751474548) (zup st 194 ((st 170 42) - 1 : Int).toNat 0) r34 → ((r34 = (0 : Int) → (170 = 170 ∧ (∀ (r35 : Int), en_isWord (2036687218) (zup st 194 ((st 170 42) - 1 : Int).toNat 0) r35 → ((r35 = (0 : Int) → (170 = 170 ∧ (∀ (r36 : Int), en_isWord (1953459300) (zup st 194 ((st 170 42) - 1 : Int).toNat 0) r36 → ((r36 = (0 : Int) → (170 = 170 ∧ (∀ (r37 : Int), en_isWord (1886743660) (zup st 194 ((st 170 42) - 1 : Int).toNat 0) r37 → ((r37 = (0 : Int) → (170 = 170 ∧ (∀ (r38 : Int), en_isWord (1937007984) (zup st 194 ((st 170 42) - 1 : Int).toNat 0) r38 → ((r38 = (0 : Int) → (170 = 170 ∧ (∀ (r39 : Int), en_isWord (1650812270) (zup st 194 ((st 170 42) - 1 : Int).toNat 0) r39 → ((r39 = (0 : Int) → _) ∧ (¬ (r39 = (0 : Int)) → (((6 : Int) < (3 : Int) → _) ∧ (¬ ((6 : Int) < (3 : Int)) → (((6 : Int) ≤ (6 : Int) → (((0 : Int) = st 170 36 → ((¬ (6 : Int) = ((-1) : Int) → ((st 170 8 ≤ (0 : Int) → (170 = 170 ∧ (rq_add (6) (st 170 6) (zup st 194 ((st 170 42) - 1 : Int).toNat 0) ∧ ((170 = 170 ∧ (rq_rNext t n  (zup (zup (zup (zup st 194 ((st 170 42) - 1 : Int).toNat 0) 188 ((1600 : Int) * (st 170 35) + (st 170 34) : Int).toNat (6)) 189 ((1600 : Int) * (st 170 35) + (st 170 34) : Int).toNat (st 170 6)) 170 34 ((st 170 34) + 1)) ∧ (∀ (s41 : zS), en_rNext t n  (zup (zup (zup (zup st 194 ((st 170 42) - 1 : Int).toNat 0) 188 ((1600 : Int) * (st 170 35) + (st 170 34) : Int).toNat (6)) 189 ((1600 : Int) * (st 170 35) + (st 170 34) : Int).toNat (st 170 6)) 170 34 ((st 170 34) + 1)) s41 → ((1 = (0 : Int) ∨ 1 = (1 : Int)) ∧ Q (some (.inl 1)) s41)))))))) ∧ (¬ (st 170 8 ≤ (0 : Int)) → _))) ∧ (¬ (¬ (6 : Int) = ((-1) : Int)) → _))) ∧ (¬ ((0 : Int) = st 170 36) → _))) ∧ (¬ ((6 : Int) ≤ (6 : Int)) → _))))))))) ∧ (¬ (r38 = (0 : Int)) → _))))) ∧ (¬ (r37 = (0 : Int)) → _))))) ∧ (¬ (r36 = (0 : Int)) → _))))) ∧ (¬ (r35 = (0 : Int)) → _))))) ∧ (¬ (r34 = (0 : Int)) → _))))) ∧ (¬ (¬ st 170 3 = (2 : Int)) → _))) ∧ (¬ (r33 = (0 : Int)) → _))))))))))))) ∧ (¬ (r30 = (0 : Int)) → _))))) ∧ (¬ ((0 : Int) = (0 : Int)) → _))) ∧ (¬ ((0 : Int) = (0 : Int)) → _))))) ∧ (¬ ((0 : Int) = (0 : Int)) → _))) ∧ (¬ (st 194 ((st 170 42) - 1 : Int).toNat = (0 : Int)) → (((1 : Int) = (0 : Int) → _) ∧ (¬ ((1 : Int) = (0 : Int)) → (170 = 170 ∧ (∀ (r42 : Int), en_isWord (7237492) st r42 → ((r42 = (0 : Int) → ((0 ≤ (st 170 42) - 1 ∧ (st 170 42) - 1 < 20) ∧ ((0 = (0 : Int) ∨ 0 = (1 : Int)) ∧ (((1 : Int) = (0 : Int) → _) ∧ (¬ ((1 : Int) = (0 : Int)) → (170 = 170 ∧ (∀ (r43 : Int), en_isSign (91) (zup st 194 ((st 170 42) - 1 : Int).toNat 0) r43 → ((r43 = (0 : Int) → (((1 : Int) = (0 : Int) → _) ∧ (¬ ((1 : Int) = (0 : Int)) → (170 = 170 ∧ (∀ (r44 : Int), en_isWord (6384748) (zup st 194 ((st 170 42) - 1 : Int).toNat 0) r44 → ((r44 = (0 : Int) → (170 = 170 ∧ (∀ (r45 : Int), en_isSign (40) (zup st 194 ((st 170 42) - 1 : Int).toNat 0) r45 → ((r45 = (0 : Int) → (170 = 170 ∧ (∀ (r46 : Int), en_isWord (7170414) (zup st 194 ((st 170 42) - 1 : Int).toNat 0) r46 → ((¬ r46 = (0 : Int) → _) ∧ (¬ (¬ r46 = (0 : Int)) → (170 = 170 ∧ (∀ (r47 : Int), en_isWord (7168376) (zup st 194 ((st 170 42) - 1 : Int).toNat 0) r47 → ((¬ r47 = (0 : Int) → _) ∧ (¬ (¬ r47 = (0 : Int)) → (170 = 170 ∧ (∀ (r48 : Int), en_isWord (26982) (zup st 194 ((st 170 42) - 1 : Int).toNat 0) r48 → ((r48 = (0 : Int) → ((¬ st 170 3 = (2 : Int) → (170 = 170 ∧ (∀ (r49 : Int), en_isWord (1751474548) (zup st 194 ((st 170 42) - 1 : Int).toNat 0) r49 → ((r49 = (0 : Int) → (170 = 170 ∧ (∀ (r50 : Int), en_isWord (2036687218) (zup st 194 ((st 170 42) - 1 : Int).toNat 0) r50 → ((r50 = (0 : Int) → (170 = 170 ∧ (∀ (r51 : Int), en_isWord (1953459300) (zup st 194 ((st 170 42) - 1 : Int).toNat 0) r51 → ((r51 = (0 : Int) → (170 = 170 ∧ (∀ (r52 : Int), en_isWord (1886743660) (zup st 194 ((st 170 42) - 1 : Int).toNat 0) r52 → ((r52 = (0 : Int) → (170 = 170 ∧ (∀ (r53 : Int), en_isWord (1937007984) (zup st 194 ((st 170 42) - 1 : Int).toNat 0) r53 → ((r53 = (0 : Int) → (170 = 170 ∧ (∀ (r54 : Int), en_isWord (1650812270) (zup st 194 ((st 170 42) - 1 : Int).toNat 0) r54 → ((r54 = (0 : Int) → _) ∧ (¬ (r54 = (0 : Int)) → (((6 : Int) < (3 : Int) → _) ∧ (¬ ((6 : Int) < (3 : Int)) → (((6 : Int) ≤ (6 : Int) → (((0 : Int) = st 170 36 → ((¬ (6 : Int) = ((-1) : Int) → ((st 170 8 ≤ (0 : Int) → (170 = 170 ∧ (rq_add (6) (st 170 6) (zup st 194 ((st 170 42) - 1 : Int).toNat 0) ∧ ((170 = 170 ∧ (rq_rNext t n  (zup (zup (zup (zup st 194 ((st 170 42) - 1 : Int).toNat 0) 188 ((1600 : Int) * (st 170 35) + (st 170 34) : Int).toNat (6)) 189 ((1600 : Int) * (st 170 35) + (st 170 34) : Int).toNat (st 170 6)) 170 34 ((st 170 34) + 1)) ∧ (∀ (s56 : zS), en_rNext t n  (zup (zup (zup (zup st 194 ((st 170 42) - 1 : Int).toNat 0) 188 ((1600 : Int) * (st 170 35) + (st 170 34) : Int).toNat (6)) 189 ((1600 : Int) * (st 170 35) + (st 170 34) : Int).toNat (st 170 6)) 170 34 ((st 170 34) + 1)) s56 → ((1 = (0 : Int) ∨ 1 = (1 : Int)) ∧ Q (some (.inl 1)) s56)))))))) ∧ (¬ (st 170 8 ≤ (0 : Int)) → _))) ∧ (¬ (¬ (6 : Int) = ((-1) : Int)) → _))) ∧ (¬ ((0 : Int) = st 170 36) → _))) ∧ (¬ ((6 : Int) ≤ (6 : Int)) → _))))))))) ∧ (¬ (r53 = (0 : Int)) → _))))) ∧ (¬ (r52 = (0 : Int)) → _))))) ∧ (¬ (r51 = (0 : Int)) → _))))) ∧ (¬ (r50 = (0 : Int)) → _))))) ∧ (¬ (r49 = (0 : Int)) → _))))) ∧ (¬ (¬ st 170 3 = (2 : Int)) → _))) ∧ (¬ (r48 = (0 : Int)) → _))))))))))))) ∧ (¬ (r45 = (0 : Int)) → _))))) ∧ (¬ (r44 = (0 : Int)) → _))))))) ∧ (¬ (r43 = (0 : Int)) → _))))))))) ∧ (¬ (r42 = (0 : Int)) → _))))))))))))))) ∧ (¬ (st 170 8 ≤ (0 : Int)) → _)))))
  refine ⟨rfl, ⟨hG, (show st 170 12 = -1 from by omega)⟩, ?_⟩
  refine ⟨fun h57 => ?_, fun h57 => (by exfalso; omega)⟩
  refine ⟨by omega, ?_⟩
  have g58 := g_frame hG ((st 170 42) - 1 : Int).toNat
  refine ⟨by omega, ?_⟩
  refine fun r17 q17 => ?_
  have b17 := q17
  change (r17 = 0 ∨ r17 = 1) ∧ (r17 = 1 ↔ (st 192 ((st 170 42) - 1 : Int).toNat) = 1 ∨ (st 192 ((st 170 42) - 1 : Int).toNat) = 5 ∨ (st 192 ((st 170 42) - 1 : Int).toNat) = 6) at b17
  refine ⟨fun h59 => ?_, fun h59 => ?_⟩
  · refine ⟨fun h60 => ?_, fun h60 => absurd (by decide) h60⟩
    refine ⟨by omega, ?_⟩
    refine ⟨by omega, ?_⟩
    refine ⟨fun h61 => ?_, fun h61 => absurd (by decide) h61⟩
    refine ⟨fun h62 => ?_, fun h62 => absurd (by decide) h62⟩
    refine ⟨rfl, fun r18 q18 => ?_⟩
    have b18 := q18
    change (r18 = 0 ∨ r18 = 1) ∧ (r18 = 1 ↔ st 170 3 = 3 ∧ st 170 6 = (40)) at b18
    refine ⟨fun h63 => ?_, fun h63 => (by exfalso; clear hQ; omega)⟩
    clear h63 b18
    refine ⟨rfl, fun r19 q19 => ?_⟩
    have b19 := q19
    change (r19 = 0 ∨ r19 = 1) ∧ (r19 = 1 ↔ st 170 3 = 1 ∧ st 170 7 = (7170414)) at b19
    refine ⟨fun h64 => (by exfalso; clear hQ; omega), fun h64 => ?_⟩
    clear h64 b19
    refine ⟨rfl, fun r20 q20 => ?_⟩
    have b20 := q20
    change (r20 = 0 ∨ r20 = 1) ∧ (r20 = 1 ↔ st 170 3 = 1 ∧ st 170 7 = (7168376)) at b20
    refine ⟨fun h65 => (by exfalso; clear hQ; omega), fun h65 => ?_⟩
    clear h65 b20
    refine ⟨rfl, fun r21 q21 => ?_⟩
    have b21 := q21
    change (r21 = 0 ∨ r21 = 1) ∧ (r21 = 1 ↔ st 170 3 = 1 ∧ st 170 7 = (26982)) at b21
    refine ⟨fun h66 => ?_, fun h66 => (by exfalso; clear hQ; omega)⟩
    clear h66 b21
    refine ⟨fun h67 => ?_, fun h67 => (by exfalso; omega)⟩
    refine ⟨rfl, fun r22 q22 => ?_⟩
    have b22 := q22
    change (r22 = 0 ∨ r22 = 1) ∧ (r22 = 1 ↔ st 170 3 = 1 ∧ st 170 7 = (1751474548)) at b22
    refine ⟨fun h68 => ?_, fun h68 => (by exfalso; clear hQ; omega)⟩
    clear h68 b22
    refine ⟨rfl, fun r23 q23 => ?_⟩
    have b23 := q23
    change (r23 = 0 ∨ r23 = 1) ∧ (r23 = 1 ↔ st 170 3 = 1 ∧ st 170 7 = (2036687218)) at b23
    refine ⟨fun h69 => ?_, fun h69 => (by exfalso; clear hQ; omega)⟩
    clear h69 b23
    refine ⟨rfl, fun r24 q24 => ?_⟩
    have b24 := q24
    change (r24 = 0 ∨ r24 = 1) ∧ (r24 = 1 ↔ st 170 3 = 1 ∧ st 170 7 = (1953459300)) at b24
    refine ⟨fun h70 => ?_, fun h70 => (by exfalso; clear hQ; omega)⟩
    clear h70 b24
    refine ⟨rfl, fun r25 q25 => ?_⟩
    have b25 := q25
    change (r25 = 0 ∨ r25 = 1) ∧ (r25 = 1 ↔ st 170 3 = 1 ∧ st 170 7 = (1886743660)) at b25
    refine ⟨fun h71 => ?_, fun h71 => (by exfalso; clear hQ; omega)⟩
    clear h71 b25
    refine ⟨rfl, fun r26 q26 => ?_⟩
    have b26 := q26
    change (r26 = 0 ∨ r26 = 1) ∧ (r26 = 1 ↔ st 170 3 = 1 ∧ st 170 7 = (1937007984)) at b26
    refine ⟨fun h72 => ?_, fun h72 => (by exfalso; clear hQ; omega)⟩
    clear h72 b26
    refine ⟨rfl, fun r27 q27 => ?_⟩
    have b27 := q27
    change (r27 = 0 ∨ r27 = 1) ∧ (r27 = 1 ↔ st 170 3 = 1 ∧ st 170 7 = (1650812270)) at b27
    refine ⟨fun h73 => (by exfalso; clear hQ; omega), fun h73 => ?_⟩
    clear h73 b27
    refine ⟨fun h74 => absurd h74 (by decide), fun h74 => ?_⟩
    refine ⟨fun h75 => ?_, fun h75 => absurd (by decide) h75⟩
    refine ⟨fun h76 => ?_, fun h76 => (by exfalso; omega)⟩
    refine ⟨fun h77 => ?_, fun h77 => absurd (by decide) h77⟩
    refine ⟨fun h78 => ?_, fun h78 => (by exfalso; omega)⟩
    refine ⟨rfl, ⟨(gInv_up hG (p_begins (by omega))), (show st 170 34 ≤ 1599 from by omega)⟩, ?_⟩
    refine ⟨rfl, ⟨(gInv_up (gInv_up (gInv_up (gInv_up hG (p_begins (by omega))) (p_codeSort (by omega))) (p_codeValue (by omega))) (p_codes (by omega))), (show RDr (zup (zup (zup (zup st 194 ((st 170 42) - 1 : Int).toNat 0) 188 ((1600 : Int) * (st 170 35) + (st 170 34) : Int).toNat (6)) 189 ((1600 : Int) * (st 170 35) + (st 170 34) : Int).toNat (st 170 6)) 170 34 ((st 170 34) + 1)) t n from (show RDr (zup (zup (zup (zup st 194 ((st 170 42) - 1 : Int).toNat 0) 188 ((1600 : Int) * (st 170 35) + (st 170 34) : Int).toNat (6)) 189 ((1600 : Int) * (st 170 35) + (st 170 34) : Int).toNat (st 170 6)) 170 34 ((st 170 34) + 1)) t n from mrd)), (show st 170 12 = -1 from by omega)⟩, fun s29 q29 => ?_⟩
    obtain ⟨gs29, fs29, rd29, nx29⟩ := q29
    change RDr s29 t n at rd29
    change NXr (zup (zup (zup (zup st 194 ((st 170 42) - 1 : Int).toNat 0) 188 ((1600 : Int) * (st 170 35) + (st 170 34) : Int).toNat (6)) 189 ((1600 : Int) * (st 170 35) + (st 170 34) : Int).toNat (st 170 6)) 170 34 ((st 170 34) + 1)) s29 t n at nx29
    refine ⟨by omega, ?_⟩
    have e79 : s29 170 8 = st 170 8 := fs29 170 8 rfl rfl
    have e80 : s29 170 46 = st 170 46 := fs29 170 46 rfl rfl
    have e81 : s29 170 43 = st 170 43 := fs29 170 43 rfl rfl
    have e82 : s29 170 34 = ((st 170 34) + 1) := fs29 170 34 rfl rfl
    have e83 : s29 170 45 = st 170 45 := fs29 170 45 rfl rfl
    have e84 : s29 170 42 = st 170 42 := fs29 170 42 rfl rfl
    exact hQ _ _ ⟨gs29, (fr_tr (fr_f (fr_a (fr_a (fr_a (fr_rf _ _) rfl) rfl) rfl) rfl) fs29 rfl), (Z9_tr (Z9_up (Z9_st (Z9_up (Z9_up (Z9_rf _) (by decide)) (by decide)) (b := st 170 35) rfl (by omega)) (by decide)) ((show aFr m_rOp76 st (zup (zup (zup (zup st 194 ((st 170 42) - 1 : Int).toNat 0) 188 ((1600 : Int) * (st 170 35) + (st 170 34) : Int).toNat (6)) 189 ((1600 : Int) * (st 170 35) + (st 170 34) : Int).toNat (st 170 6)) 170 34 ((st 170 34) + 1)) from (fr_f (fr_a (fr_a (fr_a (fr_rf _ _) rfl) rfl) rfl) rfl)) 170 35 rfl rfl) (Z9_fr fs29 (fun _ => rfl) rfl)), (show (1 : Int) = 1 ∧ mcP t n s29 ((k, ph, 0, pr, w) :: fs) 0 (o) (c ++ [6]) (e) from (by
            have hp : s29 170 4 = e := NXr_e (st := (zup (zup (zup (zup st 194 ((st 170 42) - 1 : Int).toNat 0) 188 ((1600 : Int) * (st 170 35) + (st 170 34) : Int).toNat (6)) 189 ((1600 : Int) * (st 170 35) + (st 170 34) : Int).toNat (st 170 6)) 170 34 ((st 170 34) + 1))) (show NXr (zup (zup (zup (zup st 194 ((st 170 42) - 1 : Int).toNat 0) 188 ((1600 : Int) * (st 170 35) + (st 170 34) : Int).toNat (6)) 189 ((1600 : Int) * (st 170 35) + (st 170 34) : Int).toNat (st 170 6)) 170 34 ((st 170 34) + 1)) s29 t n from nx29) (show tk t n ((zup (zup (zup (zup st 194 ((st 170 42) - 1 : Int).toNat 0) 188 ((1600 : Int) * (st 170 35) + (st 170 34) : Int).toNat (6)) 189 ((1600 : Int) * (st 170 35) + (st 170 34) : Int).toNat (st 170 6)) 170 34 ((st 170 34) + 1)) 170 4) _ _ e from by rw [show (zup (zup (zup (zup st 194 ((st 170 42) - 1 : Int).toNat 0) 188 ((1600 : Int) * (st 170 35) + (st 170 34) : Int).toNat (6)) 189 ((1600 : Int) * (st 170 35) + (st 170 34) : Int).toNat (st 170 6)) 170 34 ((st 170 34) + 1)) 170 4 = p from mpp]; exact ht.1) (by omega)
            have hl := tk_lt ht.1 (show 0 ≤ p from by rw [← mpp]; exact mrd.2.1.1) (by omega)
            exact ⟨rfl, ⟨by omega, by omega, by omega, hp, rd29, mcQ_of (fun i => fs29 192 i rfl rfl) (fun i => fs29 193 i rfl rfl) (fun i => fs29 194 i rfl rfl) (fun i => fs29 195 i rfl rfl) (fun i => fs29 196 i rfl rfl) (fun i => fs29 197 i rfl rfl) (fs29 170 42 rfl rfl) (fs29 170 45 rfl rfl) (fs29 170 35 rfl rfl) (fs29 170 34 rfl rfl) (fun i => fs29 188 i rfl rfl) (fun i => fs29 189 i rfl rfl) (show mcQ (zup (zup (zup (zup st 194 ((st 170 42) - 1 : Int).toNat 0) 188 ((1600 : Int) * (st 170 35) + (st 170 34) : Int).toNat (6)) 189 ((1600 : Int) * (st 170 35) + (st 170 34) : Int).toNat (st 170 6)) 170 34 ((st 170 34) + 1)) ((k, ph, 0, pr, w) :: fs) (c ++ [6]) from ⟨FR_bg 0 mb.2.1 mfr, WB_c ml (WB_el mwb) (WB_tl mwb), CDr_add (b := st 170 35) (n := st 170 34) (by omega) mcd (by omega) (fun h => by omega)⟩), by omega, by omega, by omega, by rw [List.length_cons]; omega⟩⟩))⟩
  · have g85 := g_begins hG ((st 170 42) - 1 : Int).toNat
    refine ⟨by omega, ?_⟩
    refine ⟨fun h86 => ?_, fun h86 => ?_⟩
    · refine ⟨fun h87 => ?_, fun h87 => absurd (by decide) h87⟩
      refine ⟨by omega, ?_⟩
      refine ⟨by omega, ?_⟩
      refine ⟨fun h88 => ?_, fun h88 => absurd (by decide) h88⟩
      refine ⟨fun h89 => ?_, fun h89 => absurd (by decide) h89⟩
      refine ⟨rfl, fun r30 q30 => ?_⟩
      have b30 := q30
      change (r30 = 0 ∨ r30 = 1) ∧ (r30 = 1 ↔ st 170 3 = 3 ∧ st 170 6 = (40)) at b30
      refine ⟨fun h90 => ?_, fun h90 => (by exfalso; clear hQ; omega)⟩
      clear h90 b30
      refine ⟨rfl, fun r31 q31 => ?_⟩
      have b31 := q31
      change (r31 = 0 ∨ r31 = 1) ∧ (r31 = 1 ↔ st 170 3 = 1 ∧ st 170 7 = (7170414)) at b31
      refine ⟨fun h91 => (by exfalso; clear hQ; omega), fun h91 => ?_⟩
      clear h91 b31
      refine ⟨rfl, fun r32 q32 => ?_⟩
      have b32 := q32
      change (r32 = 0 ∨ r32 = 1) ∧ (r32 = 1 ↔ st 170 3 = 1 ∧ st 170 7 = (7168376)) at b32
      refine ⟨fun h92 => (by exfalso; clear hQ; omega), fun h92 => ?_⟩
      clear h92 b32
      refine ⟨rfl, fun r33 q33 => ?_⟩
      have b33 := q33
      change (r33 = 0 ∨ r33 = 1) ∧ (r33 = 1 ↔ st 170 3 = 1 ∧ st 170 7 = (26982)) at b33
      refine ⟨fun h93 => ?_, fun h93 => (by exfalso; clear hQ; omega)⟩
      clear h93 b33
      refine ⟨fun h94 => ?_, fun h94 => (by exfalso; omega)⟩
      refine ⟨rfl, fun r34 q34 => ?_⟩
      have b34 := q34
      change (r34 = 0 ∨ r34 = 1) ∧ (r34 = 1 ↔ st 170 3 = 1 ∧ st 170 7 = (1751474548)) at b34
      refine ⟨fun h95 => ?_, fun h95 => (by exfalso; clear hQ; omega)⟩
      clear h95 b34
      refine ⟨rfl, fun r35 q35 => ?_⟩
      have b35 := q35
      change (r35 = 0 ∨ r35 = 1) ∧ (r35 = 1 ↔ st 170 3 = 1 ∧ st 170 7 = (2036687218)) at b35
      refine ⟨fun h96 => ?_, fun h96 => (by exfalso; clear hQ; omega)⟩
      clear h96 b35
      refine ⟨rfl, fun r36 q36 => ?_⟩
      have b36 := q36
      change (r36 = 0 ∨ r36 = 1) ∧ (r36 = 1 ↔ st 170 3 = 1 ∧ st 170 7 = (1953459300)) at b36
      refine ⟨fun h97 => ?_, fun h97 => (by exfalso; clear hQ; omega)⟩
      clear h97 b36
      refine ⟨rfl, fun r37 q37 => ?_⟩
      have b37 := q37
      change (r37 = 0 ∨ r37 = 1) ∧ (r37 = 1 ↔ st 170 3 = 1 ∧ st 170 7 = (1886743660)) at b37
      refine ⟨fun h98 => ?_, fun h98 => (by exfalso; clear hQ; omega)⟩
      clear h98 b37
      refine ⟨rfl, fun r38 q38 => ?_⟩
      have b38 := q38
      change (r38 = 0 ∨ r38 = 1) ∧ (r38 = 1 ↔ st 170 3 = 1 ∧ st 170 7 = (1937007984)) at b38
      refine ⟨fun h99 => ?_, fun h99 => (by exfalso; clear hQ; omega)⟩
      clear h99 b38
      refine ⟨rfl, fun r39 q39 => ?_⟩
      have b39 := q39
      change (r39 = 0 ∨ r39 = 1) ∧ (r39 = 1 ↔ st 170 3 = 1 ∧ st 170 7 = (1650812270)) at b39
      refine ⟨fun h100 => (by exfalso; clear hQ; omega), fun h100 => ?_⟩
      clear h100 b39
      refine ⟨fun h101 => absurd h101 (by decide), fun h101 => ?_⟩
      refine ⟨fun h102 => ?_, fun h102 => absurd (by decide) h102⟩
      refine ⟨fun h103 => ?_, fun h103 => (by exfalso; omega)⟩
      refine ⟨fun h104 => ?_, fun h104 => absurd (by decide) h104⟩
      refine ⟨fun h105 => ?_, fun h105 => (by exfalso; omega)⟩
      refine ⟨rfl, ⟨(gInv_up hG (p_begins (by omega))), (show st 170 34 ≤ 1599 from by omega)⟩, ?_⟩
      refine ⟨rfl, ⟨(gInv_up (gInv_up (gInv_up (gInv_up hG (p_begins (by omega))) (p_codeSort (by omega))) (p_codeValue (by omega))) (p_codes (by omega))), (show RDr (zup (zup (zup (zup st 194 ((st 170 42) - 1 : Int).toNat 0) 188 ((1600 : Int) * (st 170 35) + (st 170 34) : Int).toNat (6)) 189 ((1600 : Int) * (st 170 35) + (st 170 34) : Int).toNat (st 170 6)) 170 34 ((st 170 34) + 1)) t n from (show RDr (zup (zup (zup (zup st 194 ((st 170 42) - 1 : Int).toNat 0) 188 ((1600 : Int) * (st 170 35) + (st 170 34) : Int).toNat (6)) 189 ((1600 : Int) * (st 170 35) + (st 170 34) : Int).toNat (st 170 6)) 170 34 ((st 170 34) + 1)) t n from mrd)), (show st 170 12 = -1 from by omega)⟩, fun s41 q41 => ?_⟩
      obtain ⟨gs41, fs41, rd41, nx41⟩ := q41
      change RDr s41 t n at rd41
      change NXr (zup (zup (zup (zup st 194 ((st 170 42) - 1 : Int).toNat 0) 188 ((1600 : Int) * (st 170 35) + (st 170 34) : Int).toNat (6)) 189 ((1600 : Int) * (st 170 35) + (st 170 34) : Int).toNat (st 170 6)) 170 34 ((st 170 34) + 1)) s41 t n at nx41
      refine ⟨by omega, ?_⟩
      have e106 : s41 170 8 = st 170 8 := fs41 170 8 rfl rfl
      have e107 : s41 170 46 = st 170 46 := fs41 170 46 rfl rfl
      have e108 : s41 170 43 = st 170 43 := fs41 170 43 rfl rfl
      have e109 : s41 170 34 = ((st 170 34) + 1) := fs41 170 34 rfl rfl
      have e110 : s41 170 45 = st 170 45 := fs41 170 45 rfl rfl
      have e111 : s41 170 42 = st 170 42 := fs41 170 42 rfl rfl
      exact hQ _ _ ⟨gs41, (fr_tr (fr_f (fr_a (fr_a (fr_a (fr_rf _ _) rfl) rfl) rfl) rfl) fs41 rfl), (Z9_tr (Z9_up (Z9_st (Z9_up (Z9_up (Z9_rf _) (by decide)) (by decide)) (b := st 170 35) rfl (by omega)) (by decide)) ((show aFr m_rOp76 st (zup (zup (zup (zup st 194 ((st 170 42) - 1 : Int).toNat 0) 188 ((1600 : Int) * (st 170 35) + (st 170 34) : Int).toNat (6)) 189 ((1600 : Int) * (st 170 35) + (st 170 34) : Int).toNat (st 170 6)) 170 34 ((st 170 34) + 1)) from (fr_f (fr_a (fr_a (fr_a (fr_rf _ _) rfl) rfl) rfl) rfl)) 170 35 rfl rfl) (Z9_fr fs41 (fun _ => rfl) rfl)), (show (1 : Int) = 1 ∧ mcP t n s41 ((k, ph, 0, pr, w) :: fs) 0 (o) (c ++ [6]) (e) from (by
            have hp : s41 170 4 = e := NXr_e (st := (zup (zup (zup (zup st 194 ((st 170 42) - 1 : Int).toNat 0) 188 ((1600 : Int) * (st 170 35) + (st 170 34) : Int).toNat (6)) 189 ((1600 : Int) * (st 170 35) + (st 170 34) : Int).toNat (st 170 6)) 170 34 ((st 170 34) + 1))) (show NXr (zup (zup (zup (zup st 194 ((st 170 42) - 1 : Int).toNat 0) 188 ((1600 : Int) * (st 170 35) + (st 170 34) : Int).toNat (6)) 189 ((1600 : Int) * (st 170 35) + (st 170 34) : Int).toNat (st 170 6)) 170 34 ((st 170 34) + 1)) s41 t n from nx41) (show tk t n ((zup (zup (zup (zup st 194 ((st 170 42) - 1 : Int).toNat 0) 188 ((1600 : Int) * (st 170 35) + (st 170 34) : Int).toNat (6)) 189 ((1600 : Int) * (st 170 35) + (st 170 34) : Int).toNat (st 170 6)) 170 34 ((st 170 34) + 1)) 170 4) _ _ e from by rw [show (zup (zup (zup (zup st 194 ((st 170 42) - 1 : Int).toNat 0) 188 ((1600 : Int) * (st 170 35) + (st 170 34) : Int).toNat (6)) 189 ((1600 : Int) * (st 170 35) + (st 170 34) : Int).toNat (st 170 6)) 170 34 ((st 170 34) + 1)) 170 4 = p from mpp]; exact ht.1) (by omega)
            have hl := tk_lt ht.1 (show 0 ≤ p from by rw [← mpp]; exact mrd.2.1.1) (by omega)
            exact ⟨rfl, ⟨by omega, by omega, by omega, hp, rd41, mcQ_of (fun i => fs41 192 i rfl rfl) (fun i => fs41 193 i rfl rfl) (fun i => fs41 194 i rfl rfl) (fun i => fs41 195 i rfl rfl) (fun i => fs41 196 i rfl rfl) (fun i => fs41 197 i rfl rfl) (fs41 170 42 rfl rfl) (fs41 170 45 rfl rfl) (fs41 170 35 rfl rfl) (fs41 170 34 rfl rfl) (fun i => fs41 188 i rfl rfl) (fun i => fs41 189 i rfl rfl) (show mcQ (zup (zup (zup (zup st 194 ((st 170 42) - 1 : Int).toNat 0) 188 ((1600 : Int) * (st 170 35) + (st 170 34) : Int).toNat (6)) 189 ((1600 : Int) * (st 170 35) + (st 170 34) : Int).toNat (st 170 6)) 170 34 ((st 170 34) + 1)) ((k, ph, 0, pr, w) :: fs) (c ++ [6]) from ⟨FR_bg 0 mb.2.1 mfr, WB_c ml (WB_el mwb) (WB_tl mwb), CDr_add (b := st 170 35) (n := st 170 34) (by omega) mcd (by omega) (fun h => by omega)⟩), by omega, by omega, by omega, by rw [List.length_cons]; omega⟩⟩))⟩
    · refine ⟨fun h112 => absurd h112 (by decide), fun h112 => ?_⟩
      refine ⟨rfl, fun r42 q42 => ?_⟩
      have b42 := q42
      change (r42 = 0 ∨ r42 = 1) ∧ (r42 = 1 ↔ st 170 3 = 1 ∧ st 170 7 = (7237492)) at b42
      refine ⟨fun h113 => ?_, fun h113 => (by exfalso; clear hQ; omega)⟩
      clear h113 b42
      refine ⟨by omega, ?_⟩
      refine ⟨by omega, ?_⟩
      refine ⟨fun h114 => absurd h114 (by decide), fun h114 => ?_⟩
      refine ⟨rfl, fun r43 q43 => ?_⟩
      have b43 := q43
      change (r43 = 0 ∨ r43 = 1) ∧ (r43 = 1 ↔ st 170 3 = 3 ∧ st 170 6 = (91)) at b43
      refine ⟨fun h115 => ?_, fun h115 => (by exfalso; clear hQ; omega)⟩
      clear h115 b43
      refine ⟨fun h116 => absurd h116 (by decide), fun h116 => ?_⟩
      refine ⟨rfl, fun r44 q44 => ?_⟩
      have b44 := q44
      change (r44 = 0 ∨ r44 = 1) ∧ (r44 = 1 ↔ st 170 3 = 1 ∧ st 170 7 = (6384748)) at b44
      refine ⟨fun h117 => ?_, fun h117 => (by exfalso; clear hQ; omega)⟩
      clear h117 b44
      refine ⟨rfl, fun r45 q45 => ?_⟩
      have b45 := q45
      change (r45 = 0 ∨ r45 = 1) ∧ (r45 = 1 ↔ st 170 3 = 3 ∧ st 170 6 = (40)) at b45
      refine ⟨fun h118 => ?_, fun h118 => (by exfalso; clear hQ; omega)⟩
      clear h118 b45
      refine ⟨rfl, fun r46 q46 => ?_⟩
      have b46 := q46
      change (r46 = 0 ∨ r46 = 1) ∧ (r46 = 1 ↔ st 170 3 = 1 ∧ st 170 7 = (7170414)) at b46
      refine ⟨fun h119 => (by exfalso; clear hQ; omega), fun h119 => ?_⟩
      clear h119 b46
      refine ⟨rfl, fun r47 q47 => ?_⟩
      have b47 := q47
      change (r47 = 0 ∨ r47 = 1) ∧ (r47 = 1 ↔ st 170 3 = 1 ∧ st 170 7 = (7168376)) at b47
      refine ⟨fun h120 => (by exfalso; clear hQ; omega), fun h120 => ?_⟩
      clear h120 b47
      refine ⟨rfl, fun r48 q48 => ?_⟩
      have b48 := q48
      change (r48 = 0 ∨ r48 = 1) ∧ (r48 = 1 ↔ st 170 3 = 1 ∧ st 170 7 = (26982)) at b48
      refine ⟨fun h121 => ?_, fun h121 => (by exfalso; clear hQ; omega)⟩
      clear h121 b48
      refine ⟨fun h122 => ?_, fun h122 => (by exfalso; omega)⟩
      refine ⟨rfl, fun r49 q49 => ?_⟩
      have b49 := q49
      change (r49 = 0 ∨ r49 = 1) ∧ (r49 = 1 ↔ st 170 3 = 1 ∧ st 170 7 = (1751474548)) at b49
      refine ⟨fun h123 => ?_, fun h123 => (by exfalso; clear hQ; omega)⟩
      clear h123 b49
      refine ⟨rfl, fun r50 q50 => ?_⟩
      have b50 := q50
      change (r50 = 0 ∨ r50 = 1) ∧ (r50 = 1 ↔ st 170 3 = 1 ∧ st 170 7 = (2036687218)) at b50
      refine ⟨fun h124 => ?_, fun h124 => (by exfalso; clear hQ; omega)⟩
      clear h124 b50
      refine ⟨rfl, fun r51 q51 => ?_⟩
      have b51 := q51
      change (r51 = 0 ∨ r51 = 1) ∧ (r51 = 1 ↔ st 170 3 = 1 ∧ st 170 7 = (1953459300)) at b51
      refine ⟨fun h125 => ?_, fun h125 => (by exfalso; clear hQ; omega)⟩
      clear h125 b51
      refine ⟨rfl, fun r52 q52 => ?_⟩
      have b52 := q52
      change (r52 = 0 ∨ r52 = 1) ∧ (r52 = 1 ↔ st 170 3 = 1 ∧ st 170 7 = (1886743660)) at b52
      refine ⟨fun h126 => ?_, fun h126 => (by exfalso; clear hQ; omega)⟩
      clear h126 b52
      refine ⟨rfl, fun r53 q53 => ?_⟩
      have b53 := q53
      change (r53 = 0 ∨ r53 = 1) ∧ (r53 = 1 ↔ st 170 3 = 1 ∧ st 170 7 = (1937007984)) at b53
      refine ⟨fun h127 => ?_, fun h127 => (by exfalso; clear hQ; omega)⟩
      clear h127 b53
      refine ⟨rfl, fun r54 q54 => ?_⟩
      have b54 := q54
      change (r54 = 0 ∨ r54 = 1) ∧ (r54 = 1 ↔ st 170 3 = 1 ∧ st 170 7 = (1650812270)) at b54
      refine ⟨fun h128 => (by exfalso; clear hQ; omega), fun h128 => ?_⟩
      clear h128 b54
      refine ⟨fun h129 => absurd h129 (by decide), fun h129 => ?_⟩
      refine ⟨fun h130 => ?_, fun h130 => absurd (by decide) h130⟩
      refine ⟨fun h131 => ?_, fun h131 => (by exfalso; omega)⟩
      refine ⟨fun h132 => ?_, fun h132 => absurd (by decide) h132⟩
      refine ⟨fun h133 => ?_, fun h133 => (by exfalso; omega)⟩
      refine ⟨rfl, ⟨(gInv_up hG (p_begins (by omega))), (show st 170 34 ≤ 1599 from by omega)⟩, ?_⟩
      refine ⟨rfl, ⟨(gInv_up (gInv_up (gInv_up (gInv_up hG (p_begins (by omega))) (p_codeSort (by omega))) (p_codeValue (by omega))) (p_codes (by omega))), (show RDr (zup (zup (zup (zup st 194 ((st 170 42) - 1 : Int).toNat 0) 188 ((1600 : Int) * (st 170 35) + (st 170 34) : Int).toNat (6)) 189 ((1600 : Int) * (st 170 35) + (st 170 34) : Int).toNat (st 170 6)) 170 34 ((st 170 34) + 1)) t n from (show RDr (zup (zup (zup (zup st 194 ((st 170 42) - 1 : Int).toNat 0) 188 ((1600 : Int) * (st 170 35) + (st 170 34) : Int).toNat (6)) 189 ((1600 : Int) * (st 170 35) + (st 170 34) : Int).toNat (st 170 6)) 170 34 ((st 170 34) + 1)) t n from mrd)), (show st 170 12 = -1 from by omega)⟩, fun s56 q56 => ?_⟩
      obtain ⟨gs56, fs56, rd56, nx56⟩ := q56
      change RDr s56 t n at rd56
      change NXr (zup (zup (zup (zup st 194 ((st 170 42) - 1 : Int).toNat 0) 188 ((1600 : Int) * (st 170 35) + (st 170 34) : Int).toNat (6)) 189 ((1600 : Int) * (st 170 35) + (st 170 34) : Int).toNat (st 170 6)) 170 34 ((st 170 34) + 1)) s56 t n at nx56
      refine ⟨by omega, ?_⟩
      have e134 : s56 170 8 = st 170 8 := fs56 170 8 rfl rfl
      have e135 : s56 170 46 = st 170 46 := fs56 170 46 rfl rfl
      have e136 : s56 170 43 = st 170 43 := fs56 170 43 rfl rfl
      have e137 : s56 170 34 = ((st 170 34) + 1) := fs56 170 34 rfl rfl
      have e138 : s56 170 45 = st 170 45 := fs56 170 45 rfl rfl
      have e139 : s56 170 42 = st 170 42 := fs56 170 42 rfl rfl
      exact hQ _ _ ⟨gs56, (fr_tr (fr_f (fr_a (fr_a (fr_a (fr_rf _ _) rfl) rfl) rfl) rfl) fs56 rfl), (Z9_tr (Z9_up (Z9_st (Z9_up (Z9_up (Z9_rf _) (by decide)) (by decide)) (b := st 170 35) rfl (by omega)) (by decide)) ((show aFr m_rOp76 st (zup (zup (zup (zup st 194 ((st 170 42) - 1 : Int).toNat 0) 188 ((1600 : Int) * (st 170 35) + (st 170 34) : Int).toNat (6)) 189 ((1600 : Int) * (st 170 35) + (st 170 34) : Int).toNat (st 170 6)) 170 34 ((st 170 34) + 1)) from (fr_f (fr_a (fr_a (fr_a (fr_rf _ _) rfl) rfl) rfl) rfl)) 170 35 rfl rfl) (Z9_fr fs56 (fun _ => rfl) rfl)), (show (1 : Int) = 1 ∧ mcP t n s56 ((k, ph, 0, pr, w) :: fs) 0 (o) (c ++ [6]) (e) from (by
            have hp : s56 170 4 = e := NXr_e (st := (zup (zup (zup (zup st 194 ((st 170 42) - 1 : Int).toNat 0) 188 ((1600 : Int) * (st 170 35) + (st 170 34) : Int).toNat (6)) 189 ((1600 : Int) * (st 170 35) + (st 170 34) : Int).toNat (st 170 6)) 170 34 ((st 170 34) + 1))) (show NXr (zup (zup (zup (zup st 194 ((st 170 42) - 1 : Int).toNat 0) 188 ((1600 : Int) * (st 170 35) + (st 170 34) : Int).toNat (6)) 189 ((1600 : Int) * (st 170 35) + (st 170 34) : Int).toNat (st 170 6)) 170 34 ((st 170 34) + 1)) s56 t n from nx56) (show tk t n ((zup (zup (zup (zup st 194 ((st 170 42) - 1 : Int).toNat 0) 188 ((1600 : Int) * (st 170 35) + (st 170 34) : Int).toNat (6)) 189 ((1600 : Int) * (st 170 35) + (st 170 34) : Int).toNat (st 170 6)) 170 34 ((st 170 34) + 1)) 170 4) _ _ e from by rw [show (zup (zup (zup (zup st 194 ((st 170 42) - 1 : Int).toNat 0) 188 ((1600 : Int) * (st 170 35) + (st 170 34) : Int).toNat (6)) 189 ((1600 : Int) * (st 170 35) + (st 170 34) : Int).toNat (st 170 6)) 170 34 ((st 170 34) + 1)) 170 4 = p from mpp]; exact ht.1) (by omega)
            have hl := tk_lt ht.1 (show 0 ≤ p from by rw [← mpp]; exact mrd.2.1.1) (by omega)
            exact ⟨rfl, ⟨by omega, by omega, by omega, hp, rd56, mcQ_of (fun i => fs56 192 i rfl rfl) (fun i => fs56 193 i rfl rfl) (fun i => fs56 194 i rfl rfl) (fun i => fs56 195 i rfl rfl) (fun i => fs56 196 i rfl rfl) (fun i => fs56 197 i rfl rfl) (fs56 170 42 rfl rfl) (fs56 170 45 rfl rfl) (fs56 170 35 rfl rfl) (fs56 170 34 rfl rfl) (fun i => fs56 188 i rfl rfl) (fun i => fs56 189 i rfl rfl) (show mcQ (zup (zup (zup (zup st 194 ((st 170 42) - 1 : Int).toNat 0) 188 ((1600 : Int) * (st 170 35) + (st 170 34) : Int).toNat (6)) 189 ((1600 : Int) * (st 170 35) + (st 170 34) : Int).toNat (st 170 6)) 170 34 ((st 170 34) + 1)) ((k, ph, 0, pr, w) :: fs) (c ++ [6]) from ⟨FR_bg 0 mb.2.1 mfr, WB_c ml (WB_el mwb) (WB_tl mwb), CDr_add (b := st 170 35) (n := st 170 34) (by omega) mcd (by omega) (fun h => by omega)⟩), by omega, by omega, by omega, by rw [List.length_cons]; omega⟩⟩))⟩
theorem k_rOp76_m (hTb : aTb zSh rx_tb cl) {t : Int → Int} {n k ph bg pr o p e : Int} {w c : List Int} {fs : List mFr} {D : Nat} (hD : 4 ≤ D) : ∀ as st (Q Q' : zQ), (∀ r st', Q r st' → Q' r st') → (k_rOp76 t n k ph bg pr o p e w c fs) 196 as st Q → cl D 196 as st Q' := by
  intro as st Q Q' hQ h
  unfold k_rOp76 at h
  split at h
  · obtain ⟨rfl, h⟩ := h
    exact c_rOp76 hTb hD (ct_rOp76_m hQ h)
  · exact h.elim
set_option maxHeartbeats 4000000 in
set_option maxRecDepth 100000 in
theorem c_rOp77 (hTb : aTb zSh rx_tb cl) {t : Int → Int} {n k ph bg pr o p e : Int} {w c : List Int} {fs : List mFr} {D : Nat} (hD : 4 ≤ D) {st : zS} {Q : zQ} (h : ct_rOp77 t n k ph bg pr o p e w c fs st Q) : cl D 196 [.inr (.inr (.inl 170))] st Q := by
  obtain ⟨d, rfl⟩ : ∃ d, D = d + 1 := ⟨D - 1, by omega⟩
  refine hTb d 196 (rx_m196, 4, 0, 0, 2) rfl _ _ _ (Nat.le_of_ble_eq_true rfl) (fun K hcl hsf hsl => ?_)
  have hcm : zmo (wcL [(181, k_rLex), (195, k_isTest), (183, k_isWord), (182, k_isSign), (149, k_rNext t n), (189, k_add), (192, k_holdsBack), (194, k_rOpens t n)]) (cl d) := (wcL_m (wm_cons (k_rLex_m hTb (by omega)) (wm_cons (k_isTest_m hTb (by omega)) (wm_cons (k_isWord_m hTb (by omega)) (wm_cons (k_isSign_m hTb (by omega)) (wm_cons (k_rNext_m hTb (by omega)) (wm_cons (k_add_m hTb (by omega)) (wm_cons (k_holdsBack_m hTb (by omega)) (wm_cons (k_rOpens_m hTb (by omega)) wm_nil)))))))))
  obtain ⟨hR, hQ⟩ := h
  obtain ⟨hG, mp, ht⟩ := hR
  change mcP t n st ((k, ph, bg, pr, w) :: fs) 0 (o) (c) (p) at mp
  change tk t n p 1 495874044019 e ∧ st 170 36 = 1 at ht
  have g1 := g_isClever hG
  obtain ⟨mf, mo, mn, mpp, mrd, mq, mbd, mz1, mz2, mz3⟩ := mp
  rw [List.length_cons] at mz3
  have mq0 := mq
  obtain ⟨mfr, mwb, mcd⟩ := mq
  have mt := FR_top mfr
  have mb := FR_bnd _ _ _ mwb mfr
  rw [List.length_cons] at mb
  have ml := WB_hd mwb
  have mcl := mcd.1
  have mlw := FR_len mb.2.1 mfr
  have tf := r_wrd mrd (by rw [mpp]; exact ht.1)
  have g2 := g_codes hG
  have g3 := g_in hG
  have g4 := g_deep hG
  have g5 := g_open hG
  have g6 := g_opMany hG
  have g7 := g_signAt hG
  have g8 := g_signEnd hG
  have g9 := g_faultKind hG
  have g10 := g_size hG
  have g11 := g_sign hG
  have g12 := g_lexAt hG
  have g13 := g_value hG
  have g14 := g_word hG
  have g15 := g_operand hG
  refine yr1_ok (Rt := Q) (wc := (wcL [(181, k_rLex), (195, k_isTest), (183, k_isWord), (182, k_isSign), (149, k_rNext t n), (189, k_add), (192, k_holdsBack), (194, k_rOpens t n)])) (stp := []) hcm hcl [] 400 ?_
  show (170 = 170 ∧ (rq_rLex  st ∧ (((st 170 8 ≤ (0 : Int) → ((-2147483648 ≤ (st 170 42) - 1 ∧ (st 170 42) - 1 ≤ 2147483647) ∧ ((0 ≤ (st 170 42) - 1 ∧ (st 170 42) - 1 < 20) ∧ (∀ (r17 : Int), en_isTest (st 192 ((st 170 42) - 1 : Int).toNat) st r17 → ((r17 = (0 : Int) → (((0 : Int) = (0 : Int) → ((0 ≤ (st 170 42) - 1 ∧ (st 170 42) - 1 < 20) ∧ ((0 = (0 : Int) ∨ 0 = (1 : Int)) ∧ (((0 : Int) = (0 : Int) → (((0 : Int) = (0 : Int) → (170 = 170 ∧ (∀ (r18 : Int), en_isSign (40) (zup st 194 ((st 170 42) - 1 : Int).toNat 0) r18 → ((r18 = (0 : Int) → (170 = 170 ∧ (∀ (r19 : Int), en_isWord (7170414) (zup st 194 ((st 170 42) - 1 : Int).toNat 0) r19 → ((¬ r19 = (0 : Int) → _) ∧ (¬ (¬ r19 = (0 : Int)) → (170 = 170 ∧ (∀ (r20 : Int), en_isWord (7168376) (zup st 194 ((st 170 42) - 1 : Int).toNat 0) r20 → ((¬ r20 = (0 : Int) → _) ∧ (¬ (¬ r20 = (0 : Int)) → (170 = 170 ∧ (∀ (r21 : Int), en_isWord (26982) (zup st 194 ((st 170 42) - 1 : Int).toNat 0) r21 → ((r21 = (0 : Int) → ((¬ st 170 3 = (2 : Int) → (170 = 170 ∧ (∀ (r22 : Int), en_isWord (1751474548) (zup st 194 ((st 170 42) - 1 : Int).toNat 0) r22 → ((r22 = (0 : Int) → (170 = 170 ∧ (∀ (r23 : Int), en_isWord (2036687218) (zup st 194 ((st 170 42) - 1 : Int).toNat 0) r23 → ((r23 = (0 : Int) → (170 = 170 ∧ (∀ (r24 : Int), en_isWord (1953459300) (zup st 194 ((st 170 42) - 1 : Int).toNat 0) r24 → ((r24 = (0 : Int) → (170 = 170 ∧ (∀ (r25 : Int), en_isWord (1886743660) (zup st 194 ((st 170 42) - 1 : Int).toNat 0) r25 → ((r25 = (0 : Int) → (170 = 170 ∧ (∀ (r26 : Int), en_isWord (1937007984) (zup st 194 ((st 170 42) - 1 : Int).toNat 0) r26 → ((r26 = (0 : Int) → (170 = 170 ∧ (∀ (r27 : Int), en_isWord (1650812270) (zup st 194 ((st 170 42) - 1 : Int).toNat 0) r27 → ((r27 = (0 : Int) → (170 = 170 ∧ (∀ (r28 : Int), en_isWord (495874044019) (zup st 194 ((st 170 42) - 1 : Int).toNat 0) r28 → ((r28 = (0 : Int) → _) ∧ (¬ (r28 = (0 : Int)) → (((7 : Int) < (3 : Int) → _) ∧ (¬ ((7 : Int) < (3 : Int)) → (((7 : Int) ≤ (6 : Int) → _) ∧ (¬ ((7 : Int) ≤ (6 : Int)) → (((1 : Int) = st 170 36 → ((¬ (7 : Int) = ((-1) : Int) → ((st 170 8 ≤ (0 : Int) → (170 = 170 ∧ (rq_add (7) (st 170 6) (zup st 194 ((st 170 42) - 1 : Int).toNat 0) ∧ ((170 = 170 ∧ (rq_rNext t n  (zup (zup (zup (zup st 194 ((st 170 42) - 1 : Int).toNat 0) 188 ((1600 : Int) * (st 170 35) + (st 170 34) : Int).toNat (7)) 189 ((1600 : Int) * (st 170 35) + (st 170 34) : Int).toNat (st 170 6)) 170 34 ((st 170 34) + 1)) ∧ (∀ (s30 : zS), en_rNext t n  (zup (zup (zup (zup st 194 ((st 170 42) - 1 : Int).toNat 0) 188 ((1600 : Int) * (st 170 35) + (st 170 34) : Int).toNat (7)) 189 ((1600 : Int) * (st 170 35) + (st 170 34) : Int).toNat (st 170 6)) 170 34 ((st 170 34) + 1)) s30 → ((1 = (0 : Int) ∨ 1 = (1 : Int)) ∧ Q (some (.inl 1)) s30)))))))) ∧ (¬ (st 170 8 ≤ (0 : Int)) → _))) ∧ (¬ (¬ (7 : Int) = ((-1) : Int)) → _))) ∧ (¬ ((1 : Int) = st 170 36) → _))))))))))) ∧ (¬ (r27 = (0 : Int)) → _))))) ∧ (¬ (r26 = (0 : Int)) → _))))) ∧ (¬ (r25 = (0 : Int)) → _))))) ∧ (¬ (r24 = (0 : Int)) → _))))) ∧ (¬ (r23 = (0 : Int)) → _))))) ∧ (¬ (r22 = (0 : Int)) → _))))) ∧ (¬ (¬ st 170 3 = (2 : Int)) → _))) ∧ (¬ (r21 = (0 : Int)) → _))))))))))))) ∧ (¬ (r18 = (0 : Int)) → _))))) ∧ (¬ ((0 : Int) = (0 : Int)) → _))) ∧ (¬ ((0 : Int) = (0 : Int)) → _))))) ∧ (¬ ((0 : Int) = (0 : Int)) → _))) ∧ (¬ (r17 = (0 : Int)) → ((0 ≤ (st 170 42) - 1 ∧ (st 170 42) - 1 < 20) ∧ ((st 194 ((st 170 42) - 1 : Int).toNat = (0 : Int) → (((0 : Int) = (0 : Int) → ((0 ≤ (st 170 42) - 1 ∧ (st 170 42) - 1 < 20) ∧ ((0 = (0 : Int) ∨ 0 = (1 : Int)) ∧ (((0 : Int) = (0 : Int) → (((0 : Int) = (0 : Int) → (170 = 170 ∧ (∀ (r31 : Int), en_isSign (40) (zup st 194 ((st 170 42) - 1 : Int).toNat 0) r31 → ((r31 = (0 : Int) → (170 = 170 ∧ (∀ (r32 : Int), en_isWord (7170414) (zup st 194 ((st 170 42) - 1 : Int).toNat 0) r32 → ((¬ r32 = (0 : Int) → _) ∧ (¬ (¬ r32 = (0 : Int)) → (170 = 170 ∧ (∀ (r33 : Int), en_isWord (7168376) (zup st 194 ((st 170 42) - 1 : Int).toNat 0) r33 → ((¬ r33 = (0 : Int) → _) ∧ (¬ (¬ r33 = (0 : Int)) → (170 = 170 ∧ (∀ (r34 : Int), en_isWord (26982) (zup st 194 ((st 170 42) - 1 : Int).toNat 0) r34 → ((r34 = (0 : Int) → ((¬ st 170 3 = (2 : Int) → (170 = 170 ∧ (∀ (r35 : Int), en_isWord (1751474548) (zup st 194 ((st 170 42) - 1 : Int).toNat 0) r35 → ((r35 = (0 : Int) → (170 = 170 ∧ (∀ (r36 : Int), en_isWord (2036687218) (zup st 194 ((st 170 42) - 1 : Int).toNat 0) r36 → ((r36 = (0 : Int) → (170 = 170 ∧ (∀ (r37 : Int), en_isWord (1953459300) (zup st 194 ((st 170 42) - 1 : Int).toNat 0) r37 → ((r37 = (0 : Int) → (170 = 170 ∧ (∀ (r38 : Int), en_isWord (1886743660) (zup st 194 ((st 170 42) - 1 : Int).toNat 0) r38 → ((r38 = (0 : Int) → (170 = 170 ∧ (∀ (r39 : Int), en_isWord (1937007984) (zup st 194 ((st 170 42) - 1 : Int).toNat 0) r39 → ((r39 = (0 : Int) → (170 = 170 ∧ (∀ (r40 : Int), en_isWord (1650812270) (zup st 194 ((st 170 42) - 1 : Int).toNat 0) r40 → ((r40 = (0 : Int) → (170 = 170 ∧ (∀ (r41 : Int), en_isWord (495874044019) (zup st 194 ((st 170 42) - 1 : Int).toNat 0) r41 → ((r41 = (0 : Int) → _) ∧ (¬ (r41 = (0 : Int)) → (((7 : Int) < (3 : Int) → _) ∧ (¬ ((7 : Int) < (3 : Int)) → (((7 : Int) ≤ (6 : Int) → _) ∧ (¬ ((7 : Int) ≤ (6 : Int)) → (((1 : Int) = st 170 36 → ((¬ (7 : Int) = ((-1) : Int) → ((st 170 8 ≤ (0 : Int) → (170 = 170 ∧ (rq_add (7) (st 170 6) (zup st 194 ((st 170 42) - 1 : Int).toNat 0) ∧ ((170 = 170 ∧ (rq_rNext t n  (zup (zup (zup (zup st 194 ((st 170 42) - 1 : Int).toNat 0) 188 ((1600 : Int) * (st 170 35) + (st 170 34) : Int).toNat (7)) 189 ((1600 : Int) * (st 170 35) + (st 170 34) : Int).toNat (st 170 6)) 170 34 ((st 170 34) + 1)) ∧ (∀ (s43 : zS), en_rNext t n  (zup (zup (zup (zup st 194 ((st 170 42) - 1 : Int).toNat 0) 188 ((1600 : Int) * (st 170 35) + (st 170 34) : Int).toNat (7)) 189 ((1600 : Int) * (st 170 35) + (st 170 34) : Int).toNat (st 170 6)) 170 34 ((st 170 34) + 1)) s43 → ((1 = (0 : Int) ∨ 1 = (1 : Int)) ∧ Q (some (.inl 1)) s43)))))))) ∧ (¬ (st 170 8 ≤ (0 : Int)) → _))) ∧ (¬ (¬ (7 : Int) = ((-1) : Int)) → _))) ∧ (¬ ((1 : Int) = st 170 36) → _))))))))))) ∧ (¬ (r40 = (0 : Int)) → _))))) ∧ (¬ (r39 = (0 : Int)) → _))))) ∧ (¬ (r38 = (0 : Int)) → _))))) ∧ (¬ (r37 = (0 : Int)) → _))))) ∧ (¬ (r36 = (0 : Int)) → _))))) ∧ (¬ (r35 = (0 : Int)) → _))))) ∧ (¬ (¬ st 170 3 = (2 : Int)) → _))) ∧ (¬ (r34 = (0 : Int)) → _))))))))))))) ∧ (¬ (r31 = (0 : Int)) → _))))) ∧ (¬ ((0 : Int) = (0 : Int)) → _))) ∧ (¬ ((0 : Int) = (0 : Int)) → _))))) ∧ (¬ ((0 : Int) = (0 : Int)) → _))) ∧ (¬ (st 194 ((st 170 42) - 1 : Int).toNat = (0 : Int)) → (((1 : Int) = (0 : Int) → _) ∧ (¬ ((1 : Int) = (0 : Int)) → (170 = 170 ∧ (∀ (r44 : Int), en_isWord (7237492) st r44 → ((r44 = (0 : Int) → ((0 ≤ (st 170 42) - 1 ∧ (st 170 42) - 1 < 20) ∧ ((0 = (0 : Int) ∨ 0 = (1 : Int)) ∧ (((1 : Int) = (0 : Int) → _) ∧ (¬ ((1 : Int) = (0 : Int)) → (170 = 170 ∧ (∀ (r45 : Int), en_isSign (91) (zup st 194 ((st 170 42) - 1 : Int).toNat 0) r45 → ((r45 = (0 : Int) → (((1 : Int) = (0 : Int) → _) ∧ (¬ ((1 : Int) = (0 : Int)) → (170 = 170 ∧ (∀ (r46 : Int), en_isWord (6384748) (zup st 194 ((st 170 42) - 1 : Int).toNat 0) r46 → ((r46 = (0 : Int) → (170 = 170 ∧ (∀ (r47 : Int), en_isSign (40) (zup st 194 ((st 170 42) - 1 : Int).toNat 0) r47 → ((r47 = (0 : Int) → (170 = 170 ∧ (∀ (r48 : Int), en_isWord (7170414) (zup st 194 ((st 170 42) - 1 : Int).toNat 0) r48 → ((¬ r48 = (0 : Int) → _) ∧ (¬ (¬ r48 = (0 : Int)) → (170 = 170 ∧ (∀ (r49 : Int), en_isWord (7168376) (zup st 194 ((st 170 42) - 1 : Int).toNat 0) r49 → ((¬ r49 = (0 : Int) → _) ∧ (¬ (¬ r49 = (0 : Int)) → (170 = 170 ∧ (∀ (r50 : Int), en_isWord (26982) (zup st 194 ((st 170 42) - 1 : Int).toNat 0) r50 → ((r50 = (0 : Int) → ((¬ st 170 3 = (2 : Int) → (170 = 170 ∧ (∀ (r51 : Int), en_isWord (1751474548) (zup st 194 ((st 170 42) - 1 : Int).toNat 0) r51 → ((r51 = (0 : Int) → (170 = 170 ∧ (∀ (r52 : Int), en_isWord (2036687218) (zup st 194 ((st 170 42) - 1 : Int).toNat 0) r52 → ((r52 = (0 : Int) → (170 = 170 ∧ (∀ (r53 : Int), en_isWord (1953459300) (zup st 194 ((st 170 42) - 1 : Int).toNat 0) r53 → ((r53 = (0 : Int) → (170 = 170 ∧ (∀ (r54 : Int), en_isWord (1886743660) (zup st 194 ((st 170 42) - 1 : Int).toNat 0) r54 → ((r54 = (0 : Int) → (170 = 170 ∧ (∀ (r55 : Int), en_isWord (1937007984) (zup st 194 ((st 170 42) - 1 : Int).toNat 0) r55 → ((r55 = (0 : Int) → (170 = 170 ∧ (∀ (r56 : Int), en_isWord (1650812270) (zup st 194 ((st 170 42) - 1 : Int).toNat 0) r56 → ((r56 = (0 : Int) → (170 = 170 ∧ (∀ (r57 : Int), en_isWord (495874044019) (zup st 194 ((st 170 42) - 1 : Int).toNat 0) r57 → ((r57 = (0 : Int) → _) ∧ (¬ (r57 = (0 : Int)) → (((7 : Int) < (3 : Int) → _) ∧ (¬ ((7 : Int) < (3 : Int)) → (((7 : Int) ≤ (6 : Int) → _) ∧ (¬ ((7 : Int) ≤ (6 : Int)) → (((1 : Int) = st 170 36 → ((¬ (7 : Int) = ((-1) : Int) → ((st 170 8 ≤ (0 : Int) → (170 = 170 ∧ (rq_add (7) (st 170 6) (zup st 194 ((st 170 42) - 1 : Int).toNat 0) ∧ ((170 = 170 ∧ (rq_rNext t n  (zup (zup (zup (zup st 194 ((st 170 42) - 1 : Int).toNat 0) 188 ((1600 : Int) * (st 170 35) + (st 170 34) : Int).toNat (7)) 189 ((1600 : Int) * (st 170 35) + (st 170 34) : Int).toNat (st 170 6)) 170 34 ((st 170 34) + 1)) ∧ (∀ (s59 : zS), en_rNext t n  (zup (zup (zup (zup st 194 ((st 170 42) - 1 : Int).toNat 0) 188 ((1600 : Int) * (st 170 35) + (st 170 34) : Int).toNat (7)) 189 ((1600 : Int) * (st 170 35) + (st 170 34) : Int).toNat (st 170 6)) 170 34 ((st 170 34) + 1)) s59 → ((1 = (0 : Int) ∨ 1 = (1 : Int)) ∧ Q (some (.inl 1)) s59)))))))) ∧ (¬ (st 170 8 ≤ (0 : Int)) → _))) ∧ (¬ (¬ (7 : Int) = ((-1) : Int)) → _))) ∧ (¬ ((1 : Int) = st 170 36) → _))))))))))) ∧ (¬ (r56 = (0 : Int)) → _))))) ∧ (¬ (r55 = (0 : Int)) → _))))) ∧ (¬ (r54 = (0 : Int)) → _))))) ∧ (¬ (r53 = (0 : Int)) → _))))) ∧ (¬ (r52 = (0 : Int)) → _))))) ∧ (¬ (r51 = (0 : Int)) → _))))) ∧ (¬ (¬ st 170 3 = (2 : Int)) → _))) ∧ (¬ (r50 = (0 : Int)) → _))))))))))))) ∧ (¬ (r47 = (0 : Int)) → _))))) ∧ (¬ (r46 = (0 : Int)) → _))))))) ∧ (¬ (r45 = (0 : Int)) → _))))))))) ∧ (¬ (r44 = (0 : Int)) → _))))))))))))))) ∧ (¬ (st 170 8 ≤ (0 : Int)) → _)))))
  refine ⟨rfl, ⟨hG, (show st 170 12 = -1 from by omega)⟩, ?_⟩
  refine ⟨fun h60 => ?_, fun h60 => (by exfalso; omega)⟩
  refine ⟨by omega, ?_⟩
  have g61 := g_frame hG ((st 170 42) - 1 : Int).toNat
  refine ⟨by omega, ?_⟩
  refine fun r17 q17 => ?_
  have b17 := q17
  change (r17 = 0 ∨ r17 = 1) ∧ (r17 = 1 ↔ (st 192 ((st 170 42) - 1 : Int).toNat) = 1 ∨ (st 192 ((st 170 42) - 1 : Int).toNat) = 5 ∨ (st 192 ((st 170 42) - 1 : Int).toNat) = 6) at b17
  refine ⟨fun h62 => ?_, fun h62 => ?_⟩
  · refine ⟨fun h63 => ?_, fun h63 => absurd (by decide) h63⟩
    refine ⟨by omega, ?_⟩
    refine ⟨by omega, ?_⟩
    refine ⟨fun h64 => ?_, fun h64 => absurd (by decide) h64⟩
    refine ⟨fun h65 => ?_, fun h65 => absurd (by decide) h65⟩
    refine ⟨rfl, fun r18 q18 => ?_⟩
    have b18 := q18
    change (r18 = 0 ∨ r18 = 1) ∧ (r18 = 1 ↔ st 170 3 = 3 ∧ st 170 6 = (40)) at b18
    refine ⟨fun h66 => ?_, fun h66 => (by exfalso; clear hQ; omega)⟩
    clear h66 b18
    refine ⟨rfl, fun r19 q19 => ?_⟩
    have b19 := q19
    change (r19 = 0 ∨ r19 = 1) ∧ (r19 = 1 ↔ st 170 3 = 1 ∧ st 170 7 = (7170414)) at b19
    refine ⟨fun h67 => (by exfalso; clear hQ; omega), fun h67 => ?_⟩
    clear h67 b19
    refine ⟨rfl, fun r20 q20 => ?_⟩
    have b20 := q20
    change (r20 = 0 ∨ r20 = 1) ∧ (r20 = 1 ↔ st 170 3 = 1 ∧ st 170 7 = (7168376)) at b20
    refine ⟨fun h68 => (by exfalso; clear hQ; omega), fun h68 => ?_⟩
    clear h68 b20
    refine ⟨rfl, fun r21 q21 => ?_⟩
    have b21 := q21
    change (r21 = 0 ∨ r21 = 1) ∧ (r21 = 1 ↔ st 170 3 = 1 ∧ st 170 7 = (26982)) at b21
    refine ⟨fun h69 => ?_, fun h69 => (by exfalso; clear hQ; omega)⟩
    clear h69 b21
    refine ⟨fun h70 => ?_, fun h70 => (by exfalso; omega)⟩
    refine ⟨rfl, fun r22 q22 => ?_⟩
    have b22 := q22
    change (r22 = 0 ∨ r22 = 1) ∧ (r22 = 1 ↔ st 170 3 = 1 ∧ st 170 7 = (1751474548)) at b22
    refine ⟨fun h71 => ?_, fun h71 => (by exfalso; clear hQ; omega)⟩
    clear h71 b22
    refine ⟨rfl, fun r23 q23 => ?_⟩
    have b23 := q23
    change (r23 = 0 ∨ r23 = 1) ∧ (r23 = 1 ↔ st 170 3 = 1 ∧ st 170 7 = (2036687218)) at b23
    refine ⟨fun h72 => ?_, fun h72 => (by exfalso; clear hQ; omega)⟩
    clear h72 b23
    refine ⟨rfl, fun r24 q24 => ?_⟩
    have b24 := q24
    change (r24 = 0 ∨ r24 = 1) ∧ (r24 = 1 ↔ st 170 3 = 1 ∧ st 170 7 = (1953459300)) at b24
    refine ⟨fun h73 => ?_, fun h73 => (by exfalso; clear hQ; omega)⟩
    clear h73 b24
    refine ⟨rfl, fun r25 q25 => ?_⟩
    have b25 := q25
    change (r25 = 0 ∨ r25 = 1) ∧ (r25 = 1 ↔ st 170 3 = 1 ∧ st 170 7 = (1886743660)) at b25
    refine ⟨fun h74 => ?_, fun h74 => (by exfalso; clear hQ; omega)⟩
    clear h74 b25
    refine ⟨rfl, fun r26 q26 => ?_⟩
    have b26 := q26
    change (r26 = 0 ∨ r26 = 1) ∧ (r26 = 1 ↔ st 170 3 = 1 ∧ st 170 7 = (1937007984)) at b26
    refine ⟨fun h75 => ?_, fun h75 => (by exfalso; clear hQ; omega)⟩
    clear h75 b26
    refine ⟨rfl, fun r27 q27 => ?_⟩
    have b27 := q27
    change (r27 = 0 ∨ r27 = 1) ∧ (r27 = 1 ↔ st 170 3 = 1 ∧ st 170 7 = (1650812270)) at b27
    refine ⟨fun h76 => ?_, fun h76 => (by exfalso; clear hQ; omega)⟩
    clear h76 b27
    refine ⟨rfl, fun r28 q28 => ?_⟩
    have b28 := q28
    change (r28 = 0 ∨ r28 = 1) ∧ (r28 = 1 ↔ st 170 3 = 1 ∧ st 170 7 = (495874044019)) at b28
    refine ⟨fun h77 => (by exfalso; clear hQ; omega), fun h77 => ?_⟩
    clear h77 b28
    refine ⟨fun h78 => absurd h78 (by decide), fun h78 => ?_⟩
    refine ⟨fun h79 => absurd h79 (by decide), fun h79 => ?_⟩
    refine ⟨fun h80 => ?_, fun h80 => (by exfalso; omega)⟩
    refine ⟨fun h81 => ?_, fun h81 => absurd (by decide) h81⟩
    refine ⟨fun h82 => ?_, fun h82 => (by exfalso; omega)⟩
    refine ⟨rfl, ⟨(gInv_up hG (p_begins (by omega))), (show st 170 34 ≤ 1599 from by omega)⟩, ?_⟩
    refine ⟨rfl, ⟨(gInv_up (gInv_up (gInv_up (gInv_up hG (p_begins (by omega))) (p_codeSort (by omega))) (p_codeValue (by omega))) (p_codes (by omega))), (show RDr (zup (zup (zup (zup st 194 ((st 170 42) - 1 : Int).toNat 0) 188 ((1600 : Int) * (st 170 35) + (st 170 34) : Int).toNat (7)) 189 ((1600 : Int) * (st 170 35) + (st 170 34) : Int).toNat (st 170 6)) 170 34 ((st 170 34) + 1)) t n from (show RDr (zup (zup (zup (zup st 194 ((st 170 42) - 1 : Int).toNat 0) 188 ((1600 : Int) * (st 170 35) + (st 170 34) : Int).toNat (7)) 189 ((1600 : Int) * (st 170 35) + (st 170 34) : Int).toNat (st 170 6)) 170 34 ((st 170 34) + 1)) t n from mrd)), (show st 170 12 = -1 from by omega)⟩, fun s30 q30 => ?_⟩
    obtain ⟨gs30, fs30, rd30, nx30⟩ := q30
    change RDr s30 t n at rd30
    change NXr (zup (zup (zup (zup st 194 ((st 170 42) - 1 : Int).toNat 0) 188 ((1600 : Int) * (st 170 35) + (st 170 34) : Int).toNat (7)) 189 ((1600 : Int) * (st 170 35) + (st 170 34) : Int).toNat (st 170 6)) 170 34 ((st 170 34) + 1)) s30 t n at nx30
    refine ⟨by omega, ?_⟩
    have e83 : s30 170 8 = st 170 8 := fs30 170 8 rfl rfl
    have e84 : s30 170 46 = st 170 46 := fs30 170 46 rfl rfl
    have e85 : s30 170 43 = st 170 43 := fs30 170 43 rfl rfl
    have e86 : s30 170 34 = ((st 170 34) + 1) := fs30 170 34 rfl rfl
    have e87 : s30 170 45 = st 170 45 := fs30 170 45 rfl rfl
    have e88 : s30 170 42 = st 170 42 := fs30 170 42 rfl rfl
    exact hQ _ _ ⟨gs30, (fr_tr (fr_f (fr_a (fr_a (fr_a (fr_rf _ _) rfl) rfl) rfl) rfl) fs30 rfl), (Z9_tr (Z9_up (Z9_st (Z9_up (Z9_up (Z9_rf _) (by decide)) (by decide)) (b := st 170 35) rfl (by omega)) (by decide)) ((show aFr m_rOp77 st (zup (zup (zup (zup st 194 ((st 170 42) - 1 : Int).toNat 0) 188 ((1600 : Int) * (st 170 35) + (st 170 34) : Int).toNat (7)) 189 ((1600 : Int) * (st 170 35) + (st 170 34) : Int).toNat (st 170 6)) 170 34 ((st 170 34) + 1)) from (fr_f (fr_a (fr_a (fr_a (fr_rf _ _) rfl) rfl) rfl) rfl)) 170 35 rfl rfl) (Z9_fr fs30 (fun _ => rfl) rfl)), (show (1 : Int) = 1 ∧ mcP t n s30 ((k, ph, 0, pr, w) :: fs) 0 (o) (c ++ [7]) (e) from (by
            have hp : s30 170 4 = e := NXr_e (st := (zup (zup (zup (zup st 194 ((st 170 42) - 1 : Int).toNat 0) 188 ((1600 : Int) * (st 170 35) + (st 170 34) : Int).toNat (7)) 189 ((1600 : Int) * (st 170 35) + (st 170 34) : Int).toNat (st 170 6)) 170 34 ((st 170 34) + 1))) (show NXr (zup (zup (zup (zup st 194 ((st 170 42) - 1 : Int).toNat 0) 188 ((1600 : Int) * (st 170 35) + (st 170 34) : Int).toNat (7)) 189 ((1600 : Int) * (st 170 35) + (st 170 34) : Int).toNat (st 170 6)) 170 34 ((st 170 34) + 1)) s30 t n from nx30) (show tk t n ((zup (zup (zup (zup st 194 ((st 170 42) - 1 : Int).toNat 0) 188 ((1600 : Int) * (st 170 35) + (st 170 34) : Int).toNat (7)) 189 ((1600 : Int) * (st 170 35) + (st 170 34) : Int).toNat (st 170 6)) 170 34 ((st 170 34) + 1)) 170 4) _ _ e from by rw [show (zup (zup (zup (zup st 194 ((st 170 42) - 1 : Int).toNat 0) 188 ((1600 : Int) * (st 170 35) + (st 170 34) : Int).toNat (7)) 189 ((1600 : Int) * (st 170 35) + (st 170 34) : Int).toNat (st 170 6)) 170 34 ((st 170 34) + 1)) 170 4 = p from mpp]; exact ht.1) (by omega)
            have hl := tk_lt ht.1 (show 0 ≤ p from by rw [← mpp]; exact mrd.2.1.1) (by omega)
            exact ⟨rfl, ⟨by omega, by omega, by omega, hp, rd30, mcQ_of (fun i => fs30 192 i rfl rfl) (fun i => fs30 193 i rfl rfl) (fun i => fs30 194 i rfl rfl) (fun i => fs30 195 i rfl rfl) (fun i => fs30 196 i rfl rfl) (fun i => fs30 197 i rfl rfl) (fs30 170 42 rfl rfl) (fs30 170 45 rfl rfl) (fs30 170 35 rfl rfl) (fs30 170 34 rfl rfl) (fun i => fs30 188 i rfl rfl) (fun i => fs30 189 i rfl rfl) (show mcQ (zup (zup (zup (zup st 194 ((st 170 42) - 1 : Int).toNat 0) 188 ((1600 : Int) * (st 170 35) + (st 170 34) : Int).toNat (7)) 189 ((1600 : Int) * (st 170 35) + (st 170 34) : Int).toNat (st 170 6)) 170 34 ((st 170 34) + 1)) ((k, ph, 0, pr, w) :: fs) (c ++ [7]) from ⟨FR_bg 0 mb.2.1 mfr, WB_c ml (WB_el mwb) (WB_tl mwb), CDr_add (b := st 170 35) (n := st 170 34) (by omega) mcd (by omega) (fun h => by omega)⟩), by omega, by omega, by omega, by rw [List.length_cons]; omega⟩⟩))⟩
  · have g89 := g_begins hG ((st 170 42) - 1 : Int).toNat
    refine ⟨by omega, ?_⟩
    refine ⟨fun h90 => ?_, fun h90 => ?_⟩
    · refine ⟨fun h91 => ?_, fun h91 => absurd (by decide) h91⟩
      refine ⟨by omega, ?_⟩
      refine ⟨by omega, ?_⟩
      refine ⟨fun h92 => ?_, fun h92 => absurd (by decide) h92⟩
      refine ⟨fun h93 => ?_, fun h93 => absurd (by decide) h93⟩
      refine ⟨rfl, fun r31 q31 => ?_⟩
      have b31 := q31
      change (r31 = 0 ∨ r31 = 1) ∧ (r31 = 1 ↔ st 170 3 = 3 ∧ st 170 6 = (40)) at b31
      refine ⟨fun h94 => ?_, fun h94 => (by exfalso; clear hQ; omega)⟩
      clear h94 b31
      refine ⟨rfl, fun r32 q32 => ?_⟩
      have b32 := q32
      change (r32 = 0 ∨ r32 = 1) ∧ (r32 = 1 ↔ st 170 3 = 1 ∧ st 170 7 = (7170414)) at b32
      refine ⟨fun h95 => (by exfalso; clear hQ; omega), fun h95 => ?_⟩
      clear h95 b32
      refine ⟨rfl, fun r33 q33 => ?_⟩
      have b33 := q33
      change (r33 = 0 ∨ r33 = 1) ∧ (r33 = 1 ↔ st 170 3 = 1 ∧ st 170 7 = (7168376)) at b33
      refine ⟨fun h96 => (by exfalso; clear hQ; omega), fun h96 => ?_⟩
      clear h96 b33
      refine ⟨rfl, fun r34 q34 => ?_⟩
      have b34 := q34
      change (r34 = 0 ∨ r34 = 1) ∧ (r34 = 1 ↔ st 170 3 = 1 ∧ st 170 7 = (26982)) at b34
      refine ⟨fun h97 => ?_, fun h97 => (by exfalso; clear hQ; omega)⟩
      clear h97 b34
      refine ⟨fun h98 => ?_, fun h98 => (by exfalso; omega)⟩
      refine ⟨rfl, fun r35 q35 => ?_⟩
      have b35 := q35
      change (r35 = 0 ∨ r35 = 1) ∧ (r35 = 1 ↔ st 170 3 = 1 ∧ st 170 7 = (1751474548)) at b35
      refine ⟨fun h99 => ?_, fun h99 => (by exfalso; clear hQ; omega)⟩
      clear h99 b35
      refine ⟨rfl, fun r36 q36 => ?_⟩
      have b36 := q36
      change (r36 = 0 ∨ r36 = 1) ∧ (r36 = 1 ↔ st 170 3 = 1 ∧ st 170 7 = (2036687218)) at b36
      refine ⟨fun h100 => ?_, fun h100 => (by exfalso; clear hQ; omega)⟩
      clear h100 b36
      refine ⟨rfl, fun r37 q37 => ?_⟩
      have b37 := q37
      change (r37 = 0 ∨ r37 = 1) ∧ (r37 = 1 ↔ st 170 3 = 1 ∧ st 170 7 = (1953459300)) at b37
      refine ⟨fun h101 => ?_, fun h101 => (by exfalso; clear hQ; omega)⟩
      clear h101 b37
      refine ⟨rfl, fun r38 q38 => ?_⟩
      have b38 := q38
      change (r38 = 0 ∨ r38 = 1) ∧ (r38 = 1 ↔ st 170 3 = 1 ∧ st 170 7 = (1886743660)) at b38
      refine ⟨fun h102 => ?_, fun h102 => (by exfalso; clear hQ; omega)⟩
      clear h102 b38
      refine ⟨rfl, fun r39 q39 => ?_⟩
      have b39 := q39
      change (r39 = 0 ∨ r39 = 1) ∧ (r39 = 1 ↔ st 170 3 = 1 ∧ st 170 7 = (1937007984)) at b39
      refine ⟨fun h103 => ?_, fun h103 => (by exfalso; clear hQ; omega)⟩
      clear h103 b39
      refine ⟨rfl, fun r40 q40 => ?_⟩
      have b40 := q40
      change (r40 = 0 ∨ r40 = 1) ∧ (r40 = 1 ↔ st 170 3 = 1 ∧ st 170 7 = (1650812270)) at b40
      refine ⟨fun h104 => ?_, fun h104 => (by exfalso; clear hQ; omega)⟩
      clear h104 b40
      refine ⟨rfl, fun r41 q41 => ?_⟩
      have b41 := q41
      change (r41 = 0 ∨ r41 = 1) ∧ (r41 = 1 ↔ st 170 3 = 1 ∧ st 170 7 = (495874044019)) at b41
      refine ⟨fun h105 => (by exfalso; clear hQ; omega), fun h105 => ?_⟩
      clear h105 b41
      refine ⟨fun h106 => absurd h106 (by decide), fun h106 => ?_⟩
      refine ⟨fun h107 => absurd h107 (by decide), fun h107 => ?_⟩
      refine ⟨fun h108 => ?_, fun h108 => (by exfalso; omega)⟩
      refine ⟨fun h109 => ?_, fun h109 => absurd (by decide) h109⟩
      refine ⟨fun h110 => ?_, fun h110 => (by exfalso; omega)⟩
      refine ⟨rfl, ⟨(gInv_up hG (p_begins (by omega))), (show st 170 34 ≤ 1599 from by omega)⟩, ?_⟩
      refine ⟨rfl, ⟨(gInv_up (gInv_up (gInv_up (gInv_up hG (p_begins (by omega))) (p_codeSort (by omega))) (p_codeValue (by omega))) (p_codes (by omega))), (show RDr (zup (zup (zup (zup st 194 ((st 170 42) - 1 : Int).toNat 0) 188 ((1600 : Int) * (st 170 35) + (st 170 34) : Int).toNat (7)) 189 ((1600 : Int) * (st 170 35) + (st 170 34) : Int).toNat (st 170 6)) 170 34 ((st 170 34) + 1)) t n from (show RDr (zup (zup (zup (zup st 194 ((st 170 42) - 1 : Int).toNat 0) 188 ((1600 : Int) * (st 170 35) + (st 170 34) : Int).toNat (7)) 189 ((1600 : Int) * (st 170 35) + (st 170 34) : Int).toNat (st 170 6)) 170 34 ((st 170 34) + 1)) t n from mrd)), (show st 170 12 = -1 from by omega)⟩, fun s43 q43 => ?_⟩
      obtain ⟨gs43, fs43, rd43, nx43⟩ := q43
      change RDr s43 t n at rd43
      change NXr (zup (zup (zup (zup st 194 ((st 170 42) - 1 : Int).toNat 0) 188 ((1600 : Int) * (st 170 35) + (st 170 34) : Int).toNat (7)) 189 ((1600 : Int) * (st 170 35) + (st 170 34) : Int).toNat (st 170 6)) 170 34 ((st 170 34) + 1)) s43 t n at nx43
      refine ⟨by omega, ?_⟩
      have e111 : s43 170 8 = st 170 8 := fs43 170 8 rfl rfl
      have e112 : s43 170 46 = st 170 46 := fs43 170 46 rfl rfl
      have e113 : s43 170 43 = st 170 43 := fs43 170 43 rfl rfl
      have e114 : s43 170 34 = ((st 170 34) + 1) := fs43 170 34 rfl rfl
      have e115 : s43 170 45 = st 170 45 := fs43 170 45 rfl rfl
      have e116 : s43 170 42 = st 170 42 := fs43 170 42 rfl rfl
      exact hQ _ _ ⟨gs43, (fr_tr (fr_f (fr_a (fr_a (fr_a (fr_rf _ _) rfl) rfl) rfl) rfl) fs43 rfl), (Z9_tr (Z9_up (Z9_st (Z9_up (Z9_up (Z9_rf _) (by decide)) (by decide)) (b := st 170 35) rfl (by omega)) (by decide)) ((show aFr m_rOp77 st (zup (zup (zup (zup st 194 ((st 170 42) - 1 : Int).toNat 0) 188 ((1600 : Int) * (st 170 35) + (st 170 34) : Int).toNat (7)) 189 ((1600 : Int) * (st 170 35) + (st 170 34) : Int).toNat (st 170 6)) 170 34 ((st 170 34) + 1)) from (fr_f (fr_a (fr_a (fr_a (fr_rf _ _) rfl) rfl) rfl) rfl)) 170 35 rfl rfl) (Z9_fr fs43 (fun _ => rfl) rfl)), (show (1 : Int) = 1 ∧ mcP t n s43 ((k, ph, 0, pr, w) :: fs) 0 (o) (c ++ [7]) (e) from (by
            have hp : s43 170 4 = e := NXr_e (st := (zup (zup (zup (zup st 194 ((st 170 42) - 1 : Int).toNat 0) 188 ((1600 : Int) * (st 170 35) + (st 170 34) : Int).toNat (7)) 189 ((1600 : Int) * (st 170 35) + (st 170 34) : Int).toNat (st 170 6)) 170 34 ((st 170 34) + 1))) (show NXr (zup (zup (zup (zup st 194 ((st 170 42) - 1 : Int).toNat 0) 188 ((1600 : Int) * (st 170 35) + (st 170 34) : Int).toNat (7)) 189 ((1600 : Int) * (st 170 35) + (st 170 34) : Int).toNat (st 170 6)) 170 34 ((st 170 34) + 1)) s43 t n from nx43) (show tk t n ((zup (zup (zup (zup st 194 ((st 170 42) - 1 : Int).toNat 0) 188 ((1600 : Int) * (st 170 35) + (st 170 34) : Int).toNat (7)) 189 ((1600 : Int) * (st 170 35) + (st 170 34) : Int).toNat (st 170 6)) 170 34 ((st 170 34) + 1)) 170 4) _ _ e from by rw [show (zup (zup (zup (zup st 194 ((st 170 42) - 1 : Int).toNat 0) 188 ((1600 : Int) * (st 170 35) + (st 170 34) : Int).toNat (7)) 189 ((1600 : Int) * (st 170 35) + (st 170 34) : Int).toNat (st 170 6)) 170 34 ((st 170 34) + 1)) 170 4 = p from mpp]; exact ht.1) (by omega)
            have hl := tk_lt ht.1 (show 0 ≤ p from by rw [← mpp]; exact mrd.2.1.1) (by omega)
            exact ⟨rfl, ⟨by omega, by omega, by omega, hp, rd43, mcQ_of (fun i => fs43 192 i rfl rfl) (fun i => fs43 193 i rfl rfl) (fun i => fs43 194 i rfl rfl) (fun i => fs43 195 i rfl rfl) (fun i => fs43 196 i rfl rfl) (fun i => fs43 197 i rfl rfl) (fs43 170 42 rfl rfl) (fs43 170 45 rfl rfl) (fs43 170 35 rfl rfl) (fs43 170 34 rfl rfl) (fun i => fs43 188 i rfl rfl) (fun i => fs43 189 i rfl rfl) (show mcQ (zup (zup (zup (zup st 194 ((st 170 42) - 1 : Int).toNat 0) 188 ((1600 : Int) * (st 170 35) + (st 170 34) : Int).toNat (7)) 189 ((1600 : Int) * (st 170 35) + (st 170 34) : Int).toNat (st 170 6)) 170 34 ((st 170 34) + 1)) ((k, ph, 0, pr, w) :: fs) (c ++ [7]) from ⟨FR_bg 0 mb.2.1 mfr, WB_c ml (WB_el mwb) (WB_tl mwb), CDr_add (b := st 170 35) (n := st 170 34) (by omega) mcd (by omega) (fun h => by omega)⟩), by omega, by omega, by omega, by rw [List.length_cons]; omega⟩⟩))⟩
    · refine ⟨fun h117 => absurd h117 (by decide), fun h117 => ?_⟩
      refine ⟨rfl, fun r44 q44 => ?_⟩
      have b44 := q44
      change (r44 = 0 ∨ r44 = 1) ∧ (r44 = 1 ↔ st 170 3 = 1 ∧ st 170 7 = (7237492)) at b44
      refine ⟨fun h118 => ?_, fun h118 => (by exfalso; clear hQ; omega)⟩
      clear h118 b44
      refine ⟨by omega, ?_⟩
      refine ⟨by omega, ?_⟩
      refine ⟨fun h119 => absurd h119 (by decide), fun h119 => ?_⟩
      refine ⟨rfl, fun r45 q45 => ?_⟩
      have b45 := q45
      change (r45 = 0 ∨ r45 = 1) ∧ (r45 = 1 ↔ st 170 3 = 3 ∧ st 170 6 = (91)) at b45
      refine ⟨fun h120 => ?_, fun h120 => (by exfalso; clear hQ; omega)⟩
      clear h120 b45
      refine ⟨fun h121 => absurd h121 (by decide), fun h121 => ?_⟩
      refine ⟨rfl, fun r46 q46 => ?_⟩
      have b46 := q46
      change (r46 = 0 ∨ r46 = 1) ∧ (r46 = 1 ↔ st 170 3 = 1 ∧ st 170 7 = (6384748)) at b46
      refine ⟨fun h122 => ?_, fun h122 => (by exfalso; clear hQ; omega)⟩
      clear h122 b46
      refine ⟨rfl, fun r47 q47 => ?_⟩
      have b47 := q47
      change (r47 = 0 ∨ r47 = 1) ∧ (r47 = 1 ↔ st 170 3 = 3 ∧ st 170 6 = (40)) at b47
      refine ⟨fun h123 => ?_, fun h123 => (by exfalso; clear hQ; omega)⟩
      clear h123 b47
      refine ⟨rfl, fun r48 q48 => ?_⟩
      have b48 := q48
      change (r48 = 0 ∨ r48 = 1) ∧ (r48 = 1 ↔ st 170 3 = 1 ∧ st 170 7 = (7170414)) at b48
      refine ⟨fun h124 => (by exfalso; clear hQ; omega), fun h124 => ?_⟩
      clear h124 b48
      refine ⟨rfl, fun r49 q49 => ?_⟩
      have b49 := q49
      change (r49 = 0 ∨ r49 = 1) ∧ (r49 = 1 ↔ st 170 3 = 1 ∧ st 170 7 = (7168376)) at b49
      refine ⟨fun h125 => (by exfalso; clear hQ; omega), fun h125 => ?_⟩
      clear h125 b49
      refine ⟨rfl, fun r50 q50 => ?_⟩
      have b50 := q50
      change (r50 = 0 ∨ r50 = 1) ∧ (r50 = 1 ↔ st 170 3 = 1 ∧ st 170 7 = (26982)) at b50
      refine ⟨fun h126 => ?_, fun h126 => (by exfalso; clear hQ; omega)⟩
      clear h126 b50
      refine ⟨fun h127 => ?_, fun h127 => (by exfalso; omega)⟩
      refine ⟨rfl, fun r51 q51 => ?_⟩
      have b51 := q51
      change (r51 = 0 ∨ r51 = 1) ∧ (r51 = 1 ↔ st 170 3 = 1 ∧ st 170 7 = (1751474548)) at b51
      refine ⟨fun h128 => ?_, fun h128 => (by exfalso; clear hQ; omega)⟩
      clear h128 b51
      refine ⟨rfl, fun r52 q52 => ?_⟩
      have b52 := q52
      change (r52 = 0 ∨ r52 = 1) ∧ (r52 = 1 ↔ st 170 3 = 1 ∧ st 170 7 = (2036687218)) at b52
      refine ⟨fun h129 => ?_, fun h129 => (by exfalso; clear hQ; omega)⟩
      clear h129 b52
      refine ⟨rfl, fun r53 q53 => ?_⟩
      have b53 := q53
      change (r53 = 0 ∨ r53 = 1) ∧ (r53 = 1 ↔ st 170 3 = 1 ∧ st 170 7 = (1953459300)) at b53
      refine ⟨fun h130 => ?_, fun h130 => (by exfalso; clear hQ; omega)⟩
      clear h130 b53
      refine ⟨rfl, fun r54 q54 => ?_⟩
      have b54 := q54
      change (r54 = 0 ∨ r54 = 1) ∧ (r54 = 1 ↔ st 170 3 = 1 ∧ st 170 7 = (1886743660)) at b54
      refine ⟨fun h131 => ?_, fun h131 => (by exfalso; clear hQ; omega)⟩
      clear h131 b54
      refine ⟨rfl, fun r55 q55 => ?_⟩
      have b55 := q55
      change (r55 = 0 ∨ r55 = 1) ∧ (r55 = 1 ↔ st 170 3 = 1 ∧ st 170 7 = (1937007984)) at b55
      refine ⟨fun h132 => ?_, fun h132 => (by exfalso; clear hQ; omega)⟩
      clear h132 b55
      refine ⟨rfl, fun r56 q56 => ?_⟩
      have b56 := q56
      change (r56 = 0 ∨ r56 = 1) ∧ (r56 = 1 ↔ st 170 3 = 1 ∧ st 170 7 = (1650812270)) at b56
      refine ⟨fun h133 => ?_, fun h133 => (by exfalso; clear hQ; omega)⟩
      clear h133 b56
      refine ⟨rfl, fun r57 q57 => ?_⟩
      have b57 := q57
      change (r57 = 0 ∨ r57 = 1) ∧ (r57 = 1 ↔ st 170 3 = 1 ∧ st 170 7 = (495874044019)) at b57
      refine ⟨fun h134 => (by exfalso; clear hQ; omega), fun h134 => ?_⟩
      clear h134 b57
      refine ⟨fun h135 => absurd h135 (by decide), fun h135 => ?_⟩
      refine ⟨fun h136 => absurd h136 (by decide), fun h136 => ?_⟩
      refine ⟨fun h137 => ?_, fun h137 => (by exfalso; omega)⟩
      refine ⟨fun h138 => ?_, fun h138 => absurd (by decide) h138⟩
      refine ⟨fun h139 => ?_, fun h139 => (by exfalso; omega)⟩
      refine ⟨rfl, ⟨(gInv_up hG (p_begins (by omega))), (show st 170 34 ≤ 1599 from by omega)⟩, ?_⟩
      refine ⟨rfl, ⟨(gInv_up (gInv_up (gInv_up (gInv_up hG (p_begins (by omega))) (p_codeSort (by omega))) (p_codeValue (by omega))) (p_codes (by omega))), (show RDr (zup (zup (zup (zup st 194 ((st 170 42) - 1 : Int).toNat 0) 188 ((1600 : Int) * (st 170 35) + (st 170 34) : Int).toNat (7)) 189 ((1600 : Int) * (st 170 35) + (st 170 34) : Int).toNat (st 170 6)) 170 34 ((st 170 34) + 1)) t n from (show RDr (zup (zup (zup (zup st 194 ((st 170 42) - 1 : Int).toNat 0) 188 ((1600 : Int) * (st 170 35) + (st 170 34) : Int).toNat (7)) 189 ((1600 : Int) * (st 170 35) + (st 170 34) : Int).toNat (st 170 6)) 170 34 ((st 170 34) + 1)) t n from mrd)), (show st 170 12 = -1 from by omega)⟩, fun s59 q59 => ?_⟩
      obtain ⟨gs59, fs59, rd59, nx59⟩ := q59
      change RDr s59 t n at rd59
      change NXr (zup (zup (zup (zup st 194 ((st 170 42) - 1 : Int).toNat 0) 188 ((1600 : Int) * (st 170 35) + (st 170 34) : Int).toNat (7)) 189 ((1600 : Int) * (st 170 35) + (st 170 34) : Int).toNat (st 170 6)) 170 34 ((st 170 34) + 1)) s59 t n at nx59
      refine ⟨by omega, ?_⟩
      have e140 : s59 170 8 = st 170 8 := fs59 170 8 rfl rfl
      have e141 : s59 170 46 = st 170 46 := fs59 170 46 rfl rfl
      have e142 : s59 170 43 = st 170 43 := fs59 170 43 rfl rfl
      have e143 : s59 170 34 = ((st 170 34) + 1) := fs59 170 34 rfl rfl
      have e144 : s59 170 45 = st 170 45 := fs59 170 45 rfl rfl
      have e145 : s59 170 42 = st 170 42 := fs59 170 42 rfl rfl
      exact hQ _ _ ⟨gs59, (fr_tr (fr_f (fr_a (fr_a (fr_a (fr_rf _ _) rfl) rfl) rfl) rfl) fs59 rfl), (Z9_tr (Z9_up (Z9_st (Z9_up (Z9_up (Z9_rf _) (by decide)) (by decide)) (b := st 170 35) rfl (by omega)) (by decide)) ((show aFr m_rOp77 st (zup (zup (zup (zup st 194 ((st 170 42) - 1 : Int).toNat 0) 188 ((1600 : Int) * (st 170 35) + (st 170 34) : Int).toNat (7)) 189 ((1600 : Int) * (st 170 35) + (st 170 34) : Int).toNat (st 170 6)) 170 34 ((st 170 34) + 1)) from (fr_f (fr_a (fr_a (fr_a (fr_rf _ _) rfl) rfl) rfl) rfl)) 170 35 rfl rfl) (Z9_fr fs59 (fun _ => rfl) rfl)), (show (1 : Int) = 1 ∧ mcP t n s59 ((k, ph, 0, pr, w) :: fs) 0 (o) (c ++ [7]) (e) from (by
            have hp : s59 170 4 = e := NXr_e (st := (zup (zup (zup (zup st 194 ((st 170 42) - 1 : Int).toNat 0) 188 ((1600 : Int) * (st 170 35) + (st 170 34) : Int).toNat (7)) 189 ((1600 : Int) * (st 170 35) + (st 170 34) : Int).toNat (st 170 6)) 170 34 ((st 170 34) + 1))) (show NXr (zup (zup (zup (zup st 194 ((st 170 42) - 1 : Int).toNat 0) 188 ((1600 : Int) * (st 170 35) + (st 170 34) : Int).toNat (7)) 189 ((1600 : Int) * (st 170 35) + (st 170 34) : Int).toNat (st 170 6)) 170 34 ((st 170 34) + 1)) s59 t n from nx59) (show tk t n ((zup (zup (zup (zup st 194 ((st 170 42) - 1 : Int).toNat 0) 188 ((1600 : Int) * (st 170 35) + (st 170 34) : Int).toNat (7)) 189 ((1600 : Int) * (st 170 35) + (st 170 34) : Int).toNat (st 170 6)) 170 34 ((st 170 34) + 1)) 170 4) _ _ e from by rw [show (zup (zup (zup (zup st 194 ((st 170 42) - 1 : Int).toNat 0) 188 ((1600 : Int) * (st 170 35) + (st 170 34) : Int).toNat (7)) 189 ((1600 : Int) * (st 170 35) + (st 170 34) : Int).toNat (st 170 6)) 170 34 ((st 170 34) + 1)) 170 4 = p from mpp]; exact ht.1) (by omega)
            have hl := tk_lt ht.1 (show 0 ≤ p from by rw [← mpp]; exact mrd.2.1.1) (by omega)
            exact ⟨rfl, ⟨by omega, by omega, by omega, hp, rd59, mcQ_of (fun i => fs59 192 i rfl rfl) (fun i => fs59 193 i rfl rfl) (fun i => fs59 194 i rfl rfl) (fun i => fs59 195 i rfl rfl) (fun i => fs59 196 i rfl rfl) (fun i => fs59 197 i rfl rfl) (fs59 170 42 rfl rfl) (fs59 170 45 rfl rfl) (fs59 170 35 rfl rfl) (fs59 170 34 rfl rfl) (fun i => fs59 188 i rfl rfl) (fun i => fs59 189 i rfl rfl) (show mcQ (zup (zup (zup (zup st 194 ((st 170 42) - 1 : Int).toNat 0) 188 ((1600 : Int) * (st 170 35) + (st 170 34) : Int).toNat (7)) 189 ((1600 : Int) * (st 170 35) + (st 170 34) : Int).toNat (st 170 6)) 170 34 ((st 170 34) + 1)) ((k, ph, 0, pr, w) :: fs) (c ++ [7]) from ⟨FR_bg 0 mb.2.1 mfr, WB_c ml (WB_el mwb) (WB_tl mwb), CDr_add (b := st 170 35) (n := st 170 34) (by omega) mcd (by omega) (fun h => by omega)⟩), by omega, by omega, by omega, by rw [List.length_cons]; omega⟩⟩))⟩
theorem k_rOp77_m (hTb : aTb zSh rx_tb cl) {t : Int → Int} {n k ph bg pr o p e : Int} {w c : List Int} {fs : List mFr} {D : Nat} (hD : 4 ≤ D) : ∀ as st (Q Q' : zQ), (∀ r st', Q r st' → Q' r st') → (k_rOp77 t n k ph bg pr o p e w c fs) 196 as st Q → cl D 196 as st Q' := by
  intro as st Q Q' hQ h
  unfold k_rOp77 at h
  split at h
  · obtain ⟨rfl, h⟩ := h
    exact c_rOp77 hTb hD (ct_rOp77_m hQ h)
  · exact h.elim
set_option maxHeartbeats 4000000 in
set_option maxRecDepth 100000 in
theorem c_rOp78 (hTb : aTb zSh rx_tb cl) {t : Int → Int} {n k ph bg pr o p e : Int} {w c : List Int} {fs : List mFr} {D : Nat} (hD : 4 ≤ D) {st : zS} {Q : zQ} (h : ct_rOp78 t n k ph bg pr o p e w c fs st Q) : cl D 196 [.inr (.inr (.inl 170))] st Q := by
  obtain ⟨d, rfl⟩ : ∃ d, D = d + 1 := ⟨D - 1, by omega⟩
  refine hTb d 196 (rx_m196, 4, 0, 0, 2) rfl _ _ _ (Nat.le_of_ble_eq_true rfl) (fun K hcl hsf hsl => ?_)
  have hcm : zmo (wcL [(181, k_rLex), (195, k_isTest), (183, k_isWord), (182, k_isSign), (149, k_rNext t n), (189, k_add), (192, k_holdsBack), (194, k_rOpens t n)]) (cl d) := (wcL_m (wm_cons (k_rLex_m hTb (by omega)) (wm_cons (k_isTest_m hTb (by omega)) (wm_cons (k_isWord_m hTb (by omega)) (wm_cons (k_isSign_m hTb (by omega)) (wm_cons (k_rNext_m hTb (by omega)) (wm_cons (k_add_m hTb (by omega)) (wm_cons (k_holdsBack_m hTb (by omega)) (wm_cons (k_rOpens_m hTb (by omega)) wm_nil)))))))))
  obtain ⟨hR, hQ⟩ := h
  obtain ⟨hG, mp, ht⟩ := hR
  change mcP t n st ((k, ph, bg, pr, w) :: fs) 0 (o) (c) (p) at mp
  change tk t n p 1 1953066341 e ∧ st 170 36 = 1 at ht
  have g1 := g_isClever hG
  obtain ⟨mf, mo, mn, mpp, mrd, mq, mbd, mz1, mz2, mz3⟩ := mp
  rw [List.length_cons] at mz3
  have mq0 := mq
  obtain ⟨mfr, mwb, mcd⟩ := mq
  have mt := FR_top mfr
  have mb := FR_bnd _ _ _ mwb mfr
  rw [List.length_cons] at mb
  have ml := WB_hd mwb
  have mcl := mcd.1
  have mlw := FR_len mb.2.1 mfr
  have tf := r_wrd mrd (by rw [mpp]; exact ht.1)
  have g2 := g_codes hG
  have g3 := g_in hG
  have g4 := g_deep hG
  have g5 := g_open hG
  have g6 := g_opMany hG
  have g7 := g_signAt hG
  have g8 := g_signEnd hG
  have g9 := g_faultKind hG
  have g10 := g_size hG
  have g11 := g_sign hG
  have g12 := g_lexAt hG
  have g13 := g_value hG
  have g14 := g_word hG
  have g15 := g_operand hG
  refine yr1_ok (Rt := Q) (wc := (wcL [(181, k_rLex), (195, k_isTest), (183, k_isWord), (182, k_isSign), (149, k_rNext t n), (189, k_add), (192, k_holdsBack), (194, k_rOpens t n)])) (stp := []) hcm hcl [] 400 ?_
  show (170 = 170 ∧ (rq_rLex  st ∧ (((st 170 8 ≤ (0 : Int) → ((-2147483648 ≤ (st 170 42) - 1 ∧ (st 170 42) - 1 ≤ 2147483647) ∧ ((0 ≤ (st 170 42) - 1 ∧ (st 170 42) - 1 < 20) ∧ (∀ (r17 : Int), en_isTest (st 192 ((st 170 42) - 1 : Int).toNat) st r17 → ((r17 = (0 : Int) → (((0 : Int) = (0 : Int) → ((0 ≤ (st 170 42) - 1 ∧ (st 170 42) - 1 < 20) ∧ ((0 = (0 : Int) ∨ 0 = (1 : Int)) ∧ (((0 : Int) = (0 : Int) → (((0 : Int) = (0 : Int) → (170 = 170 ∧ (∀ (r18 : Int), en_isSign (40) (zup st 194 ((st 170 42) - 1 : Int).toNat 0) r18 → ((r18 = (0 : Int) → (170 = 170 ∧ (∀ (r19 : Int), en_isWord (7170414) (zup st 194 ((st 170 42) - 1 : Int).toNat 0) r19 → ((¬ r19 = (0 : Int) → _) ∧ (¬ (¬ r19 = (0 : Int)) → (170 = 170 ∧ (∀ (r20 : Int), en_isWord (7168376) (zup st 194 ((st 170 42) - 1 : Int).toNat 0) r20 → ((¬ r20 = (0 : Int) → _) ∧ (¬ (¬ r20 = (0 : Int)) → (170 = 170 ∧ (∀ (r21 : Int), en_isWord (26982) (zup st 194 ((st 170 42) - 1 : Int).toNat 0) r21 → ((r21 = (0 : Int) → ((¬ st 170 3 = (2 : Int) → (170 = 170 ∧ (∀ (r22 : Int), en_isWord (1751474548) (zup st 194 ((st 170 42) - 1 : Int).toNat 0) r22 → ((r22 = (0 : Int) → (170 = 170 ∧ (∀ (r23 : Int), en_isWord (2036687218) (zup st 194 ((st 170 42) - 1 : Int).toNat 0) r23 → ((r23 = (0 : Int) → (170 = 170 ∧ (∀ (r24 : Int), en_isWord (1953459300) (zup st 194 ((st 170 42) - 1 : Int).toNat 0) r24 → ((r24 = (0 : Int) → (170 = 170 ∧ (∀ (r25 : Int), en_isWord (1886743660) (zup st 194 ((st 170 42) - 1 : Int).toNat 0) r25 → ((r25 = (0 : Int) → (170 = 170 ∧ (∀ (r26 : Int), en_isWord (1937007984) (zup st 194 ((st 170 42) - 1 : Int).toNat 0) r26 → ((r26 = (0 : Int) → (170 = 170 ∧ (∀ (r27 : Int), en_isWord (1650812270) (zup st 194 ((st 170 42) - 1 : Int).toNat 0) r27 → ((r27 = (0 : Int) → (170 = 170 ∧ (∀ (r28 : Int), en_isWord (495874044019) (zup st 194 ((st 170 42) - 1 : Int).toNat 0) r28 → ((r28 = (0 : Int) → (170 = 170 ∧ (∀ (r29 : Int), en_isWord (1953066341) (zup st 194 ((st 170 42) - 1 : Int).toNat 0) r29 → ((r29 = (0 : Int) → _) ∧ (¬ (r29 = (0 : Int)) → (((8 : Int) < (3 : Int) → _) ∧ (¬ ((8 : Int) < (3 : Int)) → (((8 : Int) ≤ (6 : Int) → _) ∧ (¬ ((8 : Int) ≤ (6 : Int)) → (((1 : Int) = st 170 36 → ((¬ (8 : Int) = ((-1) : Int) → ((st 170 8 ≤ (0 : Int) → (170 = 170 ∧ (rq_add (8) (st 170 6) (zup st 194 ((st 170 42) - 1 : Int).toNat 0) ∧ ((170 = 170 ∧ (rq_rNext t n  (zup (zup (zup (zup st 194 ((st 170 42) - 1 : Int).toNat 0) 188 ((1600 : Int) * (st 170 35) + (st 170 34) : Int).toNat (8)) 189 ((1600 : Int) * (st 170 35) + (st 170 34) : Int).toNat (st 170 6)) 170 34 ((st 170 34) + 1)) ∧ (∀ (s31 : zS), en_rNext t n  (zup (zup (zup (zup st 194 ((st 170 42) - 1 : Int).toNat 0) 188 ((1600 : Int) * (st 170 35) + (st 170 34) : Int).toNat (8)) 189 ((1600 : Int) * (st 170 35) + (st 170 34) : Int).toNat (st 170 6)) 170 34 ((st 170 34) + 1)) s31 → ((1 = (0 : Int) ∨ 1 = (1 : Int)) ∧ Q (some (.inl 1)) s31)))))))) ∧ (¬ (st 170 8 ≤ (0 : Int)) → _))) ∧ (¬ (¬ (8 : Int) = ((-1) : Int)) → _))) ∧ (¬ ((1 : Int) = st 170 36) → _))))))))))) ∧ (¬ (r28 = (0 : Int)) → _))))) ∧ (¬ (r27 = (0 : Int)) → _))))) ∧ (¬ (r26 = (0 : Int)) → _))))) ∧ (¬ (r25 = (0 : Int)) → _))))) ∧ (¬ (r24 = (0 : Int)) → _))))) ∧ (¬ (r23 = (0 : Int)) → _))))) ∧ (¬ (r22 = (0 : Int)) → _))))) ∧ (¬ (¬ st 170 3 = (2 : Int)) → _))) ∧ (¬ (r21 = (0 : Int)) → _))))))))))))) ∧ (¬ (r18 = (0 : Int)) → _))))) ∧ (¬ ((0 : Int) = (0 : Int)) → _))) ∧ (¬ ((0 : Int) = (0 : Int)) → _))))) ∧ (¬ ((0 : Int) = (0 : Int)) → _))) ∧ (¬ (r17 = (0 : Int)) → ((0 ≤ (st 170 42) - 1 ∧ (st 170 42) - 1 < 20) ∧ ((st 194 ((st 170 42) - 1 : Int).toNat = (0 : Int) → (((0 : Int) = (0 : Int) → ((0 ≤ (st 170 42) - 1 ∧ (st 170 42) - 1 < 20) ∧ ((0 = (0 : Int) ∨ 0 = (1 : Int)) ∧ (((0 : Int) = (0 : Int) → (((0 : Int) = (0 : Int) → (170 = 170 ∧ (∀ (r32 : Int), en_isSign (40) (zup st 194 ((st 170 42) - 1 : Int).toNat 0) r32 → ((r32 = (0 : Int) → (170 = 170 ∧ (∀ (r33 : Int), en_isWord (7170414) (zup st 194 ((st 170 42) - 1 : Int).toNat 0) r33 → ((¬ r33 = (0 : Int) → _) ∧ (¬ (¬ r33 = (0 : Int)) → (170 = 170 ∧ (∀ (r34 : Int), en_isWord (7168376) (zup st 194 ((st 170 42) - 1 : Int).toNat 0) r34 → ((¬ r34 = (0 : Int) → _) ∧ (¬ (¬ r34 = (0 : Int)) → (170 = 170 ∧ (∀ (r35 : Int), en_isWord (26982) (zup st 194 ((st 170 42) - 1 : Int).toNat 0) r35 → ((r35 = (0 : Int) → ((¬ st 170 3 = (2 : Int) → (170 = 170 ∧ (∀ (r36 : Int), en_isWord (1751474548) (zup st 194 ((st 170 42) - 1 : Int).toNat 0) r36 → ((r36 = (0 : Int) → (170 = 170 ∧ (∀ (r37 : Int), en_isWord (2036687218) (zup st 194 ((st 170 42) - 1 : Int).toNat 0) r37 → ((r37 = (0 : Int) → (170 = 170 ∧ (∀ (r38 : Int), en_isWord (1953459300) (zup st 194 ((st 170 42) - 1 : Int).toNat 0) r38 → ((r38 = (0 : Int) → (170 = 170 ∧ (∀ (r39 : Int), en_isWord (1886743660) (zup st 194 ((st 170 42) - 1 : Int).toNat 0) r39 → ((r39 = (0 : Int) → (170 = 170 ∧ (∀ (r40 : Int), en_isWord (1937007984) (zup st 194 ((st 170 42) - 1 : Int).toNat 0) r40 → ((r40 = (0 : Int) → (170 = 170 ∧ (∀ (r41 : Int), en_isWord (1650812270) (zup st 194 ((st 170 42) - 1 : Int).toNat 0) r41 → ((r41 = (0 : Int) → (170 = 170 ∧ (∀ (r42 : Int), en_isWord (495874044019) (zup st 194 ((st 170 42) - 1 : Int).toNat 0) r42 → ((r42 = (0 : Int) → (170 = 170 ∧ (∀ (r43 : Int), en_isWord (1953066341) (zup st 194 ((st 170 42) - 1 : Int).toNat 0) r43 → ((r43 = (0 : Int) → _) ∧ (¬ (r43 = (0 : Int)) → (((8 : Int) < (3 : Int) → _) ∧ (¬ ((8 : Int) < (3 : Int)) → (((8 : Int) ≤ (6 : Int) → _) ∧ (¬ ((8 : Int) ≤ (6 : Int)) → (((1 : Int) = st 170 36 → ((¬ (8 : Int) = ((-1) : Int) → ((st 170 8 ≤ (0 : Int) → (170 = 170 ∧ (rq_add (8) (st 170 6) (zup st 194 ((st 170 42) - 1 : Int).toNat 0) ∧ ((170 = 170 ∧ (rq_rNext t n  (zup (zup (zup (zup st 194 ((st 170 42) - 1 : Int).toNat 0) 188 ((1600 : Int) * (st 170 35) + (st 170 34) : Int).toNat (8)) 189 ((1600 : Int) * (st 170 35) + (st 170 34) : Int).toNat (st 170 6)) 170 34 ((st 170 34) + 1)) ∧ (∀ (s45 : zS), en_rNext t n  (zup (zup (zup (zup st 194 ((st 170 42) - 1 : Int).toNat 0) 188 ((1600 : Int) * (st 170 35) + (st 170 34) : Int).toNat (8)) 189 ((1600 : Int) * (st 170 35) + (st 170 34) : Int).toNat (st 170 6)) 170 34 ((st 170 34) + 1)) s45 → ((1 = (0 : Int) ∨ 1 = (1 : Int)) ∧ Q (some (.inl 1)) s45)))))))) ∧ (¬ (st 170 8 ≤ (0 : Int)) → _))) ∧ (¬ (¬ (8 : Int) = ((-1) : Int)) → _))) ∧ (¬ ((1 : Int) = st 170 36) → _))))))))))) ∧ (¬ (r42 = (0 : Int)) → _))))) ∧ (¬ (r41 = (0 : Int)) → _))))) ∧ (¬ (r40 = (0 : Int)) → _))))) ∧ (¬ (r39 = (0 : Int)) → _))))) ∧ (¬ (r38 = (0 : Int)) → _))))) ∧ (¬ (r37 = (0 : Int)) → _))))) ∧ (¬ (r36 = (0 : Int)) → _))))) ∧ (¬ (¬ st 170 3 = (2 : Int)) → _))) ∧ (¬ (r35 = (0 : Int)) → _))))))))))))) ∧ (¬ (r32 = (0 : Int)) → _))))) ∧ (¬ ((0 : Int) = (0 : Int)) → _))) ∧ (¬ ((0 : Int) = (0 : Int)) → _))))) ∧ (¬ ((0 : Int) = (0 : Int)) → _))) ∧ (¬ (st 194 ((st 170 42) - 1 : Int).toNat = (0 : Int)) → (((1 : Int) = (0 : Int) → _) ∧ (¬ ((1 : Int) = (0 : Int)) → (170 = 170 ∧ (∀ (r46 : Int), en_isWord (7237492) st r46 → ((r46 = (0 : Int) → ((0 ≤ (st 170 42) - 1 ∧ (st 170 42) - 1 < 20) ∧ ((0 = (0 : Int) ∨ 0 = (1 : Int)) ∧ (((1 : Int) = (0 : Int) → _) ∧ (¬ ((1 : Int) = (0 : Int)) → (170 = 170 ∧ (∀ (r47 : Int), en_isSign (91) (zup st 194 ((st 170 42) - 1 : Int).toNat 0) r47 → ((r47 = (0 : Int) → (((1 : Int) = (0 : Int) → _) ∧ (¬ ((1 : Int) = (0 : Int)) → (170 = 170 ∧ (∀ (r48 : Int), en_isWord (6384748) (zup st 194 ((st 170 42) - 1 : Int).toNat 0) r48 → ((r48 = (0 : Int) → (170 = 170 ∧ (∀ (r49 : Int), en_isSign (40) (zup st 194 ((st 170 42) - 1 : Int).toNat 0) r49 → ((r49 = (0 : Int) → (170 = 170 ∧ (∀ (r50 : Int), en_isWord (7170414) (zup st 194 ((st 170 42) - 1 : Int).toNat 0) r50 → ((¬ r50 = (0 : Int) → _) ∧ (¬ (¬ r50 = (0 : Int)) → (170 = 170 ∧ (∀ (r51 : Int), en_isWord (7168376) (zup st 194 ((st 170 42) - 1 : Int).toNat 0) r51 → ((¬ r51 = (0 : Int) → _) ∧ (¬ (¬ r51 = (0 : Int)) → (170 = 170 ∧ (∀ (r52 : Int), en_isWord (26982) (zup st 194 ((st 170 42) - 1 : Int).toNat 0) r52 → ((r52 = (0 : Int) → ((¬ st 170 3 = (2 : Int) → (170 = 170 ∧ (∀ (r53 : Int), en_isWord (1751474548) (zup st 194 ((st 170 42) - 1 : Int).toNat 0) r53 → ((r53 = (0 : Int) → (170 = 170 ∧ (∀ (r54 : Int), en_isWord (2036687218) (zup st 194 ((st 170 42) - 1 : Int).toNat 0) r54 → ((r54 = (0 : Int) → (170 = 170 ∧ (∀ (r55 : Int), en_isWord (1953459300) (zup st 194 ((st 170 42) - 1 : Int).toNat 0) r55 → ((r55 = (0 : Int) → (170 = 170 ∧ (∀ (r56 : Int), en_isWord (1886743660) (zup st 194 ((st 170 42) - 1 : Int).toNat 0) r56 → ((r56 = (0 : Int) → (170 = 170 ∧ (∀ (r57 : Int), en_isWord (1937007984) (zup st 194 ((st 170 42) - 1 : Int).toNat 0) r57 → ((r57 = (0 : Int) → (170 = 170 ∧ (∀ (r58 : Int), en_isWord (1650812270) (zup st 194 ((st 170 42) - 1 : Int).toNat 0) r58 → ((r58 = (0 : Int) → (170 = 170 ∧ (∀ (r59 : Int), en_isWord (495874044019) (zup st 194 ((st 170 42) - 1 : Int).toNat 0) r59 → ((r59 = (0 : Int) → (170 = 170 ∧ (∀ (r60 : Int), en_isWord (1953066341) (zup st 194 ((st 170 42) - 1 : Int).toNat 0) r60 → ((r60 = (0 : Int) → _) ∧ (¬ (r60 = (0 : Int)) → (((8 : Int) < (3 : Int) → _) ∧ (¬ ((8 : Int) < (3 : Int)) → (((8 : Int) ≤ (6 : Int) → _) ∧ (¬ ((8 : Int) ≤ (6 : Int)) → (((1 : Int) = st 170 36 → ((¬ (8 : Int) = ((-1) : Int) → ((st 170 8 ≤ (0 : Int) → (170 = 170 ∧ (rq_add (8) (st 170 6) (zup st 194 ((st 170 42) - 1 : Int).toNat 0) ∧ ((170 = 170 ∧ (rq_rNext t n  (zup (zup (zup (zup st 194 ((st 170 42) - 1 : Int).toNat 0) 188 ((1600 : Int) * (st 170 35) + (st 170 34) : Int).toNat (8)) 189 ((1600 : Int) * (st 170 35) + (st 170 34) : Int).toNat (st 170 6)) 170 34 ((st 170 34) + 1)) ∧ (∀ (s62 : zS), en_rNext t n  (zup (zup (zup (zup st 194 ((st 170 42) - 1 : Int).toNat 0) 188 ((1600 : Int) * (st 170 35) + (st 170 34) : Int).toNat (8)) 189 ((1600 : Int) * (st 170 35) + (st 170 34) : Int).toNat (st 170 6)) 170 34 ((st 170 34) + 1)) s62 → ((1 = (0 : Int) ∨ 1 = (1 : Int)) ∧ Q (some (.inl 1)) s62)))))))) ∧ (¬ (st 170 8 ≤ (0 : Int)) → _))) ∧ (¬ (¬ (8 : Int) = ((-1) : Int)) → _))) ∧ (¬ ((1 : Int) = st 170 36) → _))))))))))) ∧ (¬ (r59 = (0 : Int)) → _))))) ∧ (¬ (r58 = (0 : Int)) → _))))) ∧ (¬ (r57 = (0 : Int)) → _))))) ∧ (¬ (r56 = (0 : Int)) → _))))) ∧ (¬ (r55 = (0 : Int)) → _))))) ∧ (¬ (r54 = (0 : Int)) → _))))) ∧ (¬ (r53 = (0 : Int)) → _))))) ∧ (¬ (¬ st 170 3 = (2 : Int)) → _))) ∧ (¬ (r52 = (0 : Int)) → _))))))))))))) ∧ (¬ (r49 = (0 : Int)) → _))))) ∧ (¬ (r48 = (0 : Int)) → _))))))) ∧ (¬ (r47 = (0 : Int)) → _))))))))) ∧ (¬ (r46 = (0 : Int)) → _))))))))))))))) ∧ (¬ (st 170 8 ≤ (0 : Int)) → _)))))
  refine ⟨rfl, ⟨hG, (show st 170 12 = -1 from by omega)⟩, ?_⟩
  refine ⟨fun h63 => ?_, fun h63 => (by exfalso; omega)⟩
  refine ⟨by omega, ?_⟩
  have g64 := g_frame hG ((st 170 42) - 1 : Int).toNat
  refine ⟨by omega, ?_⟩
  refine fun r17 q17 => ?_
  have b17 := q17
  change (r17 = 0 ∨ r17 = 1) ∧ (r17 = 1 ↔ (st 192 ((st 170 42) - 1 : Int).toNat) = 1 ∨ (st 192 ((st 170 42) - 1 : Int).toNat) = 5 ∨ (st 192 ((st 170 42) - 1 : Int).toNat) = 6) at b17
  refine ⟨fun h65 => ?_, fun h65 => ?_⟩
  · refine ⟨fun h66 => ?_, fun h66 => absurd (by decide) h66⟩
    refine ⟨by omega, ?_⟩
    refine ⟨by omega, ?_⟩
    refine ⟨fun h67 => ?_, fun h67 => absurd (by decide) h67⟩
    refine ⟨fun h68 => ?_, fun h68 => absurd (by decide) h68⟩
    refine ⟨rfl, fun r18 q18 => ?_⟩
    have b18 := q18
    change (r18 = 0 ∨ r18 = 1) ∧ (r18 = 1 ↔ st 170 3 = 3 ∧ st 170 6 = (40)) at b18
    refine ⟨fun h69 => ?_, fun h69 => (by exfalso; clear hQ; omega)⟩
    clear h69 b18
    refine ⟨rfl, fun r19 q19 => ?_⟩
    have b19 := q19
    change (r19 = 0 ∨ r19 = 1) ∧ (r19 = 1 ↔ st 170 3 = 1 ∧ st 170 7 = (7170414)) at b19
    refine ⟨fun h70 => (by exfalso; clear hQ; omega), fun h70 => ?_⟩
    clear h70 b19
    refine ⟨rfl, fun r20 q20 => ?_⟩
    have b20 := q20
    change (r20 = 0 ∨ r20 = 1) ∧ (r20 = 1 ↔ st 170 3 = 1 ∧ st 170 7 = (7168376)) at b20
    refine ⟨fun h71 => (by exfalso; clear hQ; omega), fun h71 => ?_⟩
    clear h71 b20
    refine ⟨rfl, fun r21 q21 => ?_⟩
    have b21 := q21
    change (r21 = 0 ∨ r21 = 1) ∧ (r21 = 1 ↔ st 170 3 = 1 ∧ st 170 7 = (26982)) at b21
    refine ⟨fun h72 => ?_, fun h72 => (by exfalso; clear hQ; omega)⟩
    clear h72 b21
    refine ⟨fun h73 => ?_, fun h73 => (by exfalso; omega)⟩
    refine ⟨rfl, fun r22 q22 => ?_⟩
    have b22 := q22
    change (r22 = 0 ∨ r22 = 1) ∧ (r22 = 1 ↔ st 170 3 = 1 ∧ st 170 7 = (1751474548)) at b22
    refine ⟨fun h74 => ?_, fun h74 => (by exfalso; clear hQ; omega)⟩
    clear h74 b22
    refine ⟨rfl, fun r23 q23 => ?_⟩
    have b23 := q23
    change (r23 = 0 ∨ r23 = 1) ∧ (r23 = 1 ↔ st 170 3 = 1 ∧ st 170 7 = (2036687218)) at b23
    refine ⟨fun h75 => ?_, fun h75 => (by exfalso; clear hQ; omega)⟩
    clear h75 b23
    refine ⟨rfl, fun r24 q24 => ?_⟩
    have b24 := q24
    change (r24 = 0 ∨ r24 = 1) ∧ (r24 = 1 ↔ st 170 3 = 1 ∧ st 170 7 = (1953459300)) at b24
    refine ⟨fun h76 => ?_, fun h76 => (by exfalso; clear hQ; omega)⟩
    clear h76 b24
    refine ⟨rfl, fun r25 q25 => ?_⟩
    have b25 := q25
    change (r25 = 0 ∨ r25 = 1) ∧ (r25 = 1 ↔ st 170 3 = 1 ∧ st 170 7 = (1886743660)) at b25
    refine ⟨fun h77 => ?_, fun h77 => (by exfalso; clear hQ; omega)⟩
    clear h77 b25
    refine ⟨rfl, fun r26 q26 => ?_⟩
    have b26 := q26
    change (r26 = 0 ∨ r26 = 1) ∧ (r26 = 1 ↔ st 170 3 = 1 ∧ st 170 7 = (1937007984)) at b26
    refine ⟨fun h78 => ?_, fun h78 => (by exfalso; clear hQ; omega)⟩
    clear h78 b26
    refine ⟨rfl, fun r27 q27 => ?_⟩
    have b27 := q27
    change (r27 = 0 ∨ r27 = 1) ∧ (r27 = 1 ↔ st 170 3 = 1 ∧ st 170 7 = (1650812270)) at b27
    refine ⟨fun h79 => ?_, fun h79 => (by exfalso; clear hQ; omega)⟩
    clear h79 b27
    refine ⟨rfl, fun r28 q28 => ?_⟩
    have b28 := q28
    change (r28 = 0 ∨ r28 = 1) ∧ (r28 = 1 ↔ st 170 3 = 1 ∧ st 170 7 = (495874044019)) at b28
    refine ⟨fun h80 => ?_, fun h80 => (by exfalso; clear hQ; omega)⟩
    clear h80 b28
    refine ⟨rfl, fun r29 q29 => ?_⟩
    have b29 := q29
    change (r29 = 0 ∨ r29 = 1) ∧ (r29 = 1 ↔ st 170 3 = 1 ∧ st 170 7 = (1953066341)) at b29
    refine ⟨fun h81 => (by exfalso; clear hQ; omega), fun h81 => ?_⟩
    clear h81 b29
    refine ⟨fun h82 => absurd h82 (by decide), fun h82 => ?_⟩
    refine ⟨fun h83 => absurd h83 (by decide), fun h83 => ?_⟩
    refine ⟨fun h84 => ?_, fun h84 => (by exfalso; omega)⟩
    refine ⟨fun h85 => ?_, fun h85 => absurd (by decide) h85⟩
    refine ⟨fun h86 => ?_, fun h86 => (by exfalso; omega)⟩
    refine ⟨rfl, ⟨(gInv_up hG (p_begins (by omega))), (show st 170 34 ≤ 1599 from by omega)⟩, ?_⟩
    refine ⟨rfl, ⟨(gInv_up (gInv_up (gInv_up (gInv_up hG (p_begins (by omega))) (p_codeSort (by omega))) (p_codeValue (by omega))) (p_codes (by omega))), (show RDr (zup (zup (zup (zup st 194 ((st 170 42) - 1 : Int).toNat 0) 188 ((1600 : Int) * (st 170 35) + (st 170 34) : Int).toNat (8)) 189 ((1600 : Int) * (st 170 35) + (st 170 34) : Int).toNat (st 170 6)) 170 34 ((st 170 34) + 1)) t n from (show RDr (zup (zup (zup (zup st 194 ((st 170 42) - 1 : Int).toNat 0) 188 ((1600 : Int) * (st 170 35) + (st 170 34) : Int).toNat (8)) 189 ((1600 : Int) * (st 170 35) + (st 170 34) : Int).toNat (st 170 6)) 170 34 ((st 170 34) + 1)) t n from mrd)), (show st 170 12 = -1 from by omega)⟩, fun s31 q31 => ?_⟩
    obtain ⟨gs31, fs31, rd31, nx31⟩ := q31
    change RDr s31 t n at rd31
    change NXr (zup (zup (zup (zup st 194 ((st 170 42) - 1 : Int).toNat 0) 188 ((1600 : Int) * (st 170 35) + (st 170 34) : Int).toNat (8)) 189 ((1600 : Int) * (st 170 35) + (st 170 34) : Int).toNat (st 170 6)) 170 34 ((st 170 34) + 1)) s31 t n at nx31
    refine ⟨by omega, ?_⟩
    have e87 : s31 170 8 = st 170 8 := fs31 170 8 rfl rfl
    have e88 : s31 170 46 = st 170 46 := fs31 170 46 rfl rfl
    have e89 : s31 170 43 = st 170 43 := fs31 170 43 rfl rfl
    have e90 : s31 170 34 = ((st 170 34) + 1) := fs31 170 34 rfl rfl
    have e91 : s31 170 45 = st 170 45 := fs31 170 45 rfl rfl
    have e92 : s31 170 42 = st 170 42 := fs31 170 42 rfl rfl
    exact hQ _ _ ⟨gs31, (fr_tr (fr_f (fr_a (fr_a (fr_a (fr_rf _ _) rfl) rfl) rfl) rfl) fs31 rfl), (Z9_tr (Z9_up (Z9_st (Z9_up (Z9_up (Z9_rf _) (by decide)) (by decide)) (b := st 170 35) rfl (by omega)) (by decide)) ((show aFr m_rOp78 st (zup (zup (zup (zup st 194 ((st 170 42) - 1 : Int).toNat 0) 188 ((1600 : Int) * (st 170 35) + (st 170 34) : Int).toNat (8)) 189 ((1600 : Int) * (st 170 35) + (st 170 34) : Int).toNat (st 170 6)) 170 34 ((st 170 34) + 1)) from (fr_f (fr_a (fr_a (fr_a (fr_rf _ _) rfl) rfl) rfl) rfl)) 170 35 rfl rfl) (Z9_fr fs31 (fun _ => rfl) rfl)), (show (1 : Int) = 1 ∧ mcP t n s31 ((k, ph, 0, pr, w) :: fs) 0 (o) (c ++ [8]) (e) from (by
            have hp : s31 170 4 = e := NXr_e (st := (zup (zup (zup (zup st 194 ((st 170 42) - 1 : Int).toNat 0) 188 ((1600 : Int) * (st 170 35) + (st 170 34) : Int).toNat (8)) 189 ((1600 : Int) * (st 170 35) + (st 170 34) : Int).toNat (st 170 6)) 170 34 ((st 170 34) + 1))) (show NXr (zup (zup (zup (zup st 194 ((st 170 42) - 1 : Int).toNat 0) 188 ((1600 : Int) * (st 170 35) + (st 170 34) : Int).toNat (8)) 189 ((1600 : Int) * (st 170 35) + (st 170 34) : Int).toNat (st 170 6)) 170 34 ((st 170 34) + 1)) s31 t n from nx31) (show tk t n ((zup (zup (zup (zup st 194 ((st 170 42) - 1 : Int).toNat 0) 188 ((1600 : Int) * (st 170 35) + (st 170 34) : Int).toNat (8)) 189 ((1600 : Int) * (st 170 35) + (st 170 34) : Int).toNat (st 170 6)) 170 34 ((st 170 34) + 1)) 170 4) _ _ e from by rw [show (zup (zup (zup (zup st 194 ((st 170 42) - 1 : Int).toNat 0) 188 ((1600 : Int) * (st 170 35) + (st 170 34) : Int).toNat (8)) 189 ((1600 : Int) * (st 170 35) + (st 170 34) : Int).toNat (st 170 6)) 170 34 ((st 170 34) + 1)) 170 4 = p from mpp]; exact ht.1) (by omega)
            have hl := tk_lt ht.1 (show 0 ≤ p from by rw [← mpp]; exact mrd.2.1.1) (by omega)
            exact ⟨rfl, ⟨by omega, by omega, by omega, hp, rd31, mcQ_of (fun i => fs31 192 i rfl rfl) (fun i => fs31 193 i rfl rfl) (fun i => fs31 194 i rfl rfl) (fun i => fs31 195 i rfl rfl) (fun i => fs31 196 i rfl rfl) (fun i => fs31 197 i rfl rfl) (fs31 170 42 rfl rfl) (fs31 170 45 rfl rfl) (fs31 170 35 rfl rfl) (fs31 170 34 rfl rfl) (fun i => fs31 188 i rfl rfl) (fun i => fs31 189 i rfl rfl) (show mcQ (zup (zup (zup (zup st 194 ((st 170 42) - 1 : Int).toNat 0) 188 ((1600 : Int) * (st 170 35) + (st 170 34) : Int).toNat (8)) 189 ((1600 : Int) * (st 170 35) + (st 170 34) : Int).toNat (st 170 6)) 170 34 ((st 170 34) + 1)) ((k, ph, 0, pr, w) :: fs) (c ++ [8]) from ⟨FR_bg 0 mb.2.1 mfr, WB_c ml (WB_el mwb) (WB_tl mwb), CDr_add (b := st 170 35) (n := st 170 34) (by omega) mcd (by omega) (fun h => by omega)⟩), by omega, by omega, by omega, by rw [List.length_cons]; omega⟩⟩))⟩
  · have g93 := g_begins hG ((st 170 42) - 1 : Int).toNat
    refine ⟨by omega, ?_⟩
    refine ⟨fun h94 => ?_, fun h94 => ?_⟩
    · refine ⟨fun h95 => ?_, fun h95 => absurd (by decide) h95⟩
      refine ⟨by omega, ?_⟩
      refine ⟨by omega, ?_⟩
      refine ⟨fun h96 => ?_, fun h96 => absurd (by decide) h96⟩
      refine ⟨fun h97 => ?_, fun h97 => absurd (by decide) h97⟩
      refine ⟨rfl, fun r32 q32 => ?_⟩
      have b32 := q32
      change (r32 = 0 ∨ r32 = 1) ∧ (r32 = 1 ↔ st 170 3 = 3 ∧ st 170 6 = (40)) at b32
      refine ⟨fun h98 => ?_, fun h98 => (by exfalso; clear hQ; omega)⟩
      clear h98 b32
      refine ⟨rfl, fun r33 q33 => ?_⟩
      have b33 := q33
      change (r33 = 0 ∨ r33 = 1) ∧ (r33 = 1 ↔ st 170 3 = 1 ∧ st 170 7 = (7170414)) at b33
      refine ⟨fun h99 => (by exfalso; clear hQ; omega), fun h99 => ?_⟩
      clear h99 b33
      refine ⟨rfl, fun r34 q34 => ?_⟩
      have b34 := q34
      change (r34 = 0 ∨ r34 = 1) ∧ (r34 = 1 ↔ st 170 3 = 1 ∧ st 170 7 = (7168376)) at b34
      refine ⟨fun h100 => (by exfalso; clear hQ; omega), fun h100 => ?_⟩
      clear h100 b34
      refine ⟨rfl, fun r35 q35 => ?_⟩
      have b35 := q35
      change (r35 = 0 ∨ r35 = 1) ∧ (r35 = 1 ↔ st 170 3 = 1 ∧ st 170 7 = (26982)) at b35
      refine ⟨fun h101 => ?_, fun h101 => (by exfalso; clear hQ; omega)⟩
      clear h101 b35
      refine ⟨fun h102 => ?_, fun h102 => (by exfalso; omega)⟩
      refine ⟨rfl, fun r36 q36 => ?_⟩
      have b36 := q36
      change (r36 = 0 ∨ r36 = 1) ∧ (r36 = 1 ↔ st 170 3 = 1 ∧ st 170 7 = (1751474548)) at b36
      refine ⟨fun h103 => ?_, fun h103 => (by exfalso; clear hQ; omega)⟩
      clear h103 b36
      refine ⟨rfl, fun r37 q37 => ?_⟩
      have b37 := q37
      change (r37 = 0 ∨ r37 = 1) ∧ (r37 = 1 ↔ st 170 3 = 1 ∧ st 170 7 = (2036687218)) at b37
      refine ⟨fun h104 => ?_, fun h104 => (by exfalso; clear hQ; omega)⟩
      clear h104 b37
      refine ⟨rfl, fun r38 q38 => ?_⟩
      have b38 := q38
      change (r38 = 0 ∨ r38 = 1) ∧ (r38 = 1 ↔ st 170 3 = 1 ∧ st 170 7 = (1953459300)) at b38
      refine ⟨fun h105 => ?_, fun h105 => (by exfalso; clear hQ; omega)⟩
      clear h105 b38
      refine ⟨rfl, fun r39 q39 => ?_⟩
      have b39 := q39
      change (r39 = 0 ∨ r39 = 1) ∧ (r39 = 1 ↔ st 170 3 = 1 ∧ st 170 7 = (1886743660)) at b39
      refine ⟨fun h106 => ?_, fun h106 => (by exfalso; clear hQ; omega)⟩
      clear h106 b39
      refine ⟨rfl, fun r40 q40 => ?_⟩
      have b40 := q40
      change (r40 = 0 ∨ r40 = 1) ∧ (r40 = 1 ↔ st 170 3 = 1 ∧ st 170 7 = (1937007984)) at b40
      refine ⟨fun h107 => ?_, fun h107 => (by exfalso; clear hQ; omega)⟩
      clear h107 b40
      refine ⟨rfl, fun r41 q41 => ?_⟩
      have b41 := q41
      change (r41 = 0 ∨ r41 = 1) ∧ (r41 = 1 ↔ st 170 3 = 1 ∧ st 170 7 = (1650812270)) at b41
      refine ⟨fun h108 => ?_, fun h108 => (by exfalso; clear hQ; omega)⟩
      clear h108 b41
      refine ⟨rfl, fun r42 q42 => ?_⟩
      have b42 := q42
      change (r42 = 0 ∨ r42 = 1) ∧ (r42 = 1 ↔ st 170 3 = 1 ∧ st 170 7 = (495874044019)) at b42
      refine ⟨fun h109 => ?_, fun h109 => (by exfalso; clear hQ; omega)⟩
      clear h109 b42
      refine ⟨rfl, fun r43 q43 => ?_⟩
      have b43 := q43
      change (r43 = 0 ∨ r43 = 1) ∧ (r43 = 1 ↔ st 170 3 = 1 ∧ st 170 7 = (1953066341)) at b43
      refine ⟨fun h110 => (by exfalso; clear hQ; omega), fun h110 => ?_⟩
      clear h110 b43
      refine ⟨fun h111 => absurd h111 (by decide), fun h111 => ?_⟩
      refine ⟨fun h112 => absurd h112 (by decide), fun h112 => ?_⟩
      refine ⟨fun h113 => ?_, fun h113 => (by exfalso; omega)⟩
      refine ⟨fun h114 => ?_, fun h114 => absurd (by decide) h114⟩
      refine ⟨fun h115 => ?_, fun h115 => (by exfalso; omega)⟩
      refine ⟨rfl, ⟨(gInv_up hG (p_begins (by omega))), (show st 170 34 ≤ 1599 from by omega)⟩, ?_⟩
      refine ⟨rfl, ⟨(gInv_up (gInv_up (gInv_up (gInv_up hG (p_begins (by omega))) (p_codeSort (by omega))) (p_codeValue (by omega))) (p_codes (by omega))), (show RDr (zup (zup (zup (zup st 194 ((st 170 42) - 1 : Int).toNat 0) 188 ((1600 : Int) * (st 170 35) + (st 170 34) : Int).toNat (8)) 189 ((1600 : Int) * (st 170 35) + (st 170 34) : Int).toNat (st 170 6)) 170 34 ((st 170 34) + 1)) t n from (show RDr (zup (zup (zup (zup st 194 ((st 170 42) - 1 : Int).toNat 0) 188 ((1600 : Int) * (st 170 35) + (st 170 34) : Int).toNat (8)) 189 ((1600 : Int) * (st 170 35) + (st 170 34) : Int).toNat (st 170 6)) 170 34 ((st 170 34) + 1)) t n from mrd)), (show st 170 12 = -1 from by omega)⟩, fun s45 q45 => ?_⟩
      obtain ⟨gs45, fs45, rd45, nx45⟩ := q45
      change RDr s45 t n at rd45
      change NXr (zup (zup (zup (zup st 194 ((st 170 42) - 1 : Int).toNat 0) 188 ((1600 : Int) * (st 170 35) + (st 170 34) : Int).toNat (8)) 189 ((1600 : Int) * (st 170 35) + (st 170 34) : Int).toNat (st 170 6)) 170 34 ((st 170 34) + 1)) s45 t n at nx45
      refine ⟨by omega, ?_⟩
      have e116 : s45 170 8 = st 170 8 := fs45 170 8 rfl rfl
      have e117 : s45 170 46 = st 170 46 := fs45 170 46 rfl rfl
      have e118 : s45 170 43 = st 170 43 := fs45 170 43 rfl rfl
      have e119 : s45 170 34 = ((st 170 34) + 1) := fs45 170 34 rfl rfl
      have e120 : s45 170 45 = st 170 45 := fs45 170 45 rfl rfl
      have e121 : s45 170 42 = st 170 42 := fs45 170 42 rfl rfl
      exact hQ _ _ ⟨gs45, (fr_tr (fr_f (fr_a (fr_a (fr_a (fr_rf _ _) rfl) rfl) rfl) rfl) fs45 rfl), (Z9_tr (Z9_up (Z9_st (Z9_up (Z9_up (Z9_rf _) (by decide)) (by decide)) (b := st 170 35) rfl (by omega)) (by decide)) ((show aFr m_rOp78 st (zup (zup (zup (zup st 194 ((st 170 42) - 1 : Int).toNat 0) 188 ((1600 : Int) * (st 170 35) + (st 170 34) : Int).toNat (8)) 189 ((1600 : Int) * (st 170 35) + (st 170 34) : Int).toNat (st 170 6)) 170 34 ((st 170 34) + 1)) from (fr_f (fr_a (fr_a (fr_a (fr_rf _ _) rfl) rfl) rfl) rfl)) 170 35 rfl rfl) (Z9_fr fs45 (fun _ => rfl) rfl)), (show (1 : Int) = 1 ∧ mcP t n s45 ((k, ph, 0, pr, w) :: fs) 0 (o) (c ++ [8]) (e) from (by
            have hp : s45 170 4 = e := NXr_e (st := (zup (zup (zup (zup st 194 ((st 170 42) - 1 : Int).toNat 0) 188 ((1600 : Int) * (st 170 35) + (st 170 34) : Int).toNat (8)) 189 ((1600 : Int) * (st 170 35) + (st 170 34) : Int).toNat (st 170 6)) 170 34 ((st 170 34) + 1))) (show NXr (zup (zup (zup (zup st 194 ((st 170 42) - 1 : Int).toNat 0) 188 ((1600 : Int) * (st 170 35) + (st 170 34) : Int).toNat (8)) 189 ((1600 : Int) * (st 170 35) + (st 170 34) : Int).toNat (st 170 6)) 170 34 ((st 170 34) + 1)) s45 t n from nx45) (show tk t n ((zup (zup (zup (zup st 194 ((st 170 42) - 1 : Int).toNat 0) 188 ((1600 : Int) * (st 170 35) + (st 170 34) : Int).toNat (8)) 189 ((1600 : Int) * (st 170 35) + (st 170 34) : Int).toNat (st 170 6)) 170 34 ((st 170 34) + 1)) 170 4) _ _ e from by rw [show (zup (zup (zup (zup st 194 ((st 170 42) - 1 : Int).toNat 0) 188 ((1600 : Int) * (st 170 35) + (st 170 34) : Int).toNat (8)) 189 ((1600 : Int) * (st 170 35) + (st 170 34) : Int).toNat (st 170 6)) 170 34 ((st 170 34) + 1)) 170 4 = p from mpp]; exact ht.1) (by omega)
            have hl := tk_lt ht.1 (show 0 ≤ p from by rw [← mpp]; exact mrd.2.1.1) (by omega)
            exact ⟨rfl, ⟨by omega, by omega, by omega, hp, rd45, mcQ_of (fun i => fs45 192 i rfl rfl) (fun i => fs45 193 i rfl rfl) (fun i => fs45 194 i rfl rfl) (fun i => fs45 195 i rfl rfl) (fun i => fs45 196 i rfl rfl) (fun i => fs45 197 i rfl rfl) (fs45 170 42 rfl rfl) (fs45 170 45 rfl rfl) (fs45 170 35 rfl rfl) (fs45 170 34 rfl rfl) (fun i => fs45 188 i rfl rfl) (fun i => fs45 189 i rfl rfl) (show mcQ (zup (zup (zup (zup st 194 ((st 170 42) - 1 : Int).toNat 0) 188 ((1600 : Int) * (st 170 35) + (st 170 34) : Int).toNat (8)) 189 ((1600 : Int) * (st 170 35) + (st 170 34) : Int).toNat (st 170 6)) 170 34 ((st 170 34) + 1)) ((k, ph, 0, pr, w) :: fs) (c ++ [8]) from ⟨FR_bg 0 mb.2.1 mfr, WB_c ml (WB_el mwb) (WB_tl mwb), CDr_add (b := st 170 35) (n := st 170 34) (by omega) mcd (by omega) (fun h => by omega)⟩), by omega, by omega, by omega, by rw [List.length_cons]; omega⟩⟩))⟩
    · refine ⟨fun h122 => absurd h122 (by decide), fun h122 => ?_⟩
      refine ⟨rfl, fun r46 q46 => ?_⟩
      have b46 := q46
      change (r46 = 0 ∨ r46 = 1) ∧ (r46 = 1 ↔ st 170 3 = 1 ∧ st 170 7 = (7237492)) at b46
      refine ⟨fun h123 => ?_, fun h123 => (by exfalso; clear hQ; omega)⟩
      clear h123 b46
      refine ⟨by omega, ?_⟩
      refine ⟨by omega, ?_⟩
      refine ⟨fun h124 => absurd h124 (by decide), fun h124 => ?_⟩
      refine ⟨rfl, fun r47 q47 => ?_⟩
      have b47 := q47
      change (r47 = 0 ∨ r47 = 1) ∧ (r47 = 1 ↔ st 170 3 = 3 ∧ st 170 6 = (91)) at b47
      refine ⟨fun h125 => ?_, fun h125 => (by exfalso; clear hQ; omega)⟩
      clear h125 b47
      refine ⟨fun h126 => absurd h126 (by decide), fun h126 => ?_⟩
      refine ⟨rfl, fun r48 q48 => ?_⟩
      have b48 := q48
      change (r48 = 0 ∨ r48 = 1) ∧ (r48 = 1 ↔ st 170 3 = 1 ∧ st 170 7 = (6384748)) at b48
      refine ⟨fun h127 => ?_, fun h127 => (by exfalso; clear hQ; omega)⟩
      clear h127 b48
      refine ⟨rfl, fun r49 q49 => ?_⟩
      have b49 := q49
      change (r49 = 0 ∨ r49 = 1) ∧ (r49 = 1 ↔ st 170 3 = 3 ∧ st 170 6 = (40)) at b49
      refine ⟨fun h128 => ?_, fun h128 => (by exfalso; clear hQ; omega)⟩
      clear h128 b49
      refine ⟨rfl, fun r50 q50 => ?_⟩
      have b50 := q50
      change (r50 = 0 ∨ r50 = 1) ∧ (r50 = 1 ↔ st 170 3 = 1 ∧ st 170 7 = (7170414)) at b50
      refine ⟨fun h129 => (by exfalso; clear hQ; omega), fun h129 => ?_⟩
      clear h129 b50
      refine ⟨rfl, fun r51 q51 => ?_⟩
      have b51 := q51
      change (r51 = 0 ∨ r51 = 1) ∧ (r51 = 1 ↔ st 170 3 = 1 ∧ st 170 7 = (7168376)) at b51
      refine ⟨fun h130 => (by exfalso; clear hQ; omega), fun h130 => ?_⟩
      clear h130 b51
      refine ⟨rfl, fun r52 q52 => ?_⟩
      have b52 := q52
      change (r52 = 0 ∨ r52 = 1) ∧ (r52 = 1 ↔ st 170 3 = 1 ∧ st 170 7 = (26982)) at b52
      refine ⟨fun h131 => ?_, fun h131 => (by exfalso; clear hQ; omega)⟩
      clear h131 b52
      refine ⟨fun h132 => ?_, fun h132 => (by exfalso; omega)⟩
      refine ⟨rfl, fun r53 q53 => ?_⟩
      have b53 := q53
      change (r53 = 0 ∨ r53 = 1) ∧ (r53 = 1 ↔ st 170 3 = 1 ∧ st 170 7 = (1751474548)) at b53
      refine ⟨fun h133 => ?_, fun h133 => (by exfalso; clear hQ; omega)⟩
      clear h133 b53
      refine ⟨rfl, fun r54 q54 => ?_⟩
      have b54 := q54
      change (r54 = 0 ∨ r54 = 1) ∧ (r54 = 1 ↔ st 170 3 = 1 ∧ st 170 7 = (2036687218)) at b54
      refine ⟨fun h134 => ?_, fun h134 => (by exfalso; clear hQ; omega)⟩
      clear h134 b54
      refine ⟨rfl, fun r55 q55 => ?_⟩
      have b55 := q55
      change (r55 = 0 ∨ r55 = 1) ∧ (r55 = 1 ↔ st 170 3 = 1 ∧ st 170 7 = (1953459300)) at b55
      refine ⟨fun h135 => ?_, fun h135 => (by exfalso; clear hQ; omega)⟩
      clear h135 b55
      refine ⟨rfl, fun r56 q56 => ?_⟩
      have b56 := q56
      change (r56 = 0 ∨ r56 = 1) ∧ (r56 = 1 ↔ st 170 3 = 1 ∧ st 170 7 = (1886743660)) at b56
      refine ⟨fun h136 => ?_, fun h136 => (by exfalso; clear hQ; omega)⟩
      clear h136 b56
      refine ⟨rfl, fun r57 q57 => ?_⟩
      have b57 := q57
      change (r57 = 0 ∨ r57 = 1) ∧ (r57 = 1 ↔ st 170 3 = 1 ∧ st 170 7 = (1937007984)) at b57
      refine ⟨fun h137 => ?_, fun h137 => (by exfalso; clear hQ; omega)⟩
      clear h137 b57
      refine ⟨rfl, fun r58 q58 => ?_⟩
      have b58 := q58
      change (r58 = 0 ∨ r58 = 1) ∧ (r58 = 1 ↔ st 170 3 = 1 ∧ st 170 7 = (1650812270)) at b58
      refine ⟨fun h138 => ?_, fun h138 => (by exfalso; clear hQ; omega)⟩
      clear h138 b58
      refine ⟨rfl, fun r59 q59 => ?_⟩
      have b59 := q59
      change (r59 = 0 ∨ r59 = 1) ∧ (r59 = 1 ↔ st 170 3 = 1 ∧ st 170 7 = (495874044019)) at b59
      refine ⟨fun h139 => ?_, fun h139 => (by exfalso; clear hQ; omega)⟩
      clear h139 b59
      refine ⟨rfl, fun r60 q60 => ?_⟩
      have b60 := q60
      change (r60 = 0 ∨ r60 = 1) ∧ (r60 = 1 ↔ st 170 3 = 1 ∧ st 170 7 = (1953066341)) at b60
      refine ⟨fun h140 => (by exfalso; clear hQ; omega), fun h140 => ?_⟩
      clear h140 b60
      refine ⟨fun h141 => absurd h141 (by decide), fun h141 => ?_⟩
      refine ⟨fun h142 => absurd h142 (by decide), fun h142 => ?_⟩
      refine ⟨fun h143 => ?_, fun h143 => (by exfalso; omega)⟩
      refine ⟨fun h144 => ?_, fun h144 => absurd (by decide) h144⟩
      refine ⟨fun h145 => ?_, fun h145 => (by exfalso; omega)⟩
      refine ⟨rfl, ⟨(gInv_up hG (p_begins (by omega))), (show st 170 34 ≤ 1599 from by omega)⟩, ?_⟩
      refine ⟨rfl, ⟨(gInv_up (gInv_up (gInv_up (gInv_up hG (p_begins (by omega))) (p_codeSort (by omega))) (p_codeValue (by omega))) (p_codes (by omega))), (show RDr (zup (zup (zup (zup st 194 ((st 170 42) - 1 : Int).toNat 0) 188 ((1600 : Int) * (st 170 35) + (st 170 34) : Int).toNat (8)) 189 ((1600 : Int) * (st 170 35) + (st 170 34) : Int).toNat (st 170 6)) 170 34 ((st 170 34) + 1)) t n from (show RDr (zup (zup (zup (zup st 194 ((st 170 42) - 1 : Int).toNat 0) 188 ((1600 : Int) * (st 170 35) + (st 170 34) : Int).toNat (8)) 189 ((1600 : Int) * (st 170 35) + (st 170 34) : Int).toNat (st 170 6)) 170 34 ((st 170 34) + 1)) t n from mrd)), (show st 170 12 = -1 from by omega)⟩, fun s62 q62 => ?_⟩
      obtain ⟨gs62, fs62, rd62, nx62⟩ := q62
      change RDr s62 t n at rd62
      change NXr (zup (zup (zup (zup st 194 ((st 170 42) - 1 : Int).toNat 0) 188 ((1600 : Int) * (st 170 35) + (st 170 34) : Int).toNat (8)) 189 ((1600 : Int) * (st 170 35) + (st 170 34) : Int).toNat (st 170 6)) 170 34 ((st 170 34) + 1)) s62 t n at nx62
      refine ⟨by omega, ?_⟩
      have e146 : s62 170 8 = st 170 8 := fs62 170 8 rfl rfl
      have e147 : s62 170 46 = st 170 46 := fs62 170 46 rfl rfl
      have e148 : s62 170 43 = st 170 43 := fs62 170 43 rfl rfl
      have e149 : s62 170 34 = ((st 170 34) + 1) := fs62 170 34 rfl rfl
      have e150 : s62 170 45 = st 170 45 := fs62 170 45 rfl rfl
      have e151 : s62 170 42 = st 170 42 := fs62 170 42 rfl rfl
      exact hQ _ _ ⟨gs62, (fr_tr (fr_f (fr_a (fr_a (fr_a (fr_rf _ _) rfl) rfl) rfl) rfl) fs62 rfl), (Z9_tr (Z9_up (Z9_st (Z9_up (Z9_up (Z9_rf _) (by decide)) (by decide)) (b := st 170 35) rfl (by omega)) (by decide)) ((show aFr m_rOp78 st (zup (zup (zup (zup st 194 ((st 170 42) - 1 : Int).toNat 0) 188 ((1600 : Int) * (st 170 35) + (st 170 34) : Int).toNat (8)) 189 ((1600 : Int) * (st 170 35) + (st 170 34) : Int).toNat (st 170 6)) 170 34 ((st 170 34) + 1)) from (fr_f (fr_a (fr_a (fr_a (fr_rf _ _) rfl) rfl) rfl) rfl)) 170 35 rfl rfl) (Z9_fr fs62 (fun _ => rfl) rfl)), (show (1 : Int) = 1 ∧ mcP t n s62 ((k, ph, 0, pr, w) :: fs) 0 (o) (c ++ [8]) (e) from (by
            have hp : s62 170 4 = e := NXr_e (st := (zup (zup (zup (zup st 194 ((st 170 42) - 1 : Int).toNat 0) 188 ((1600 : Int) * (st 170 35) + (st 170 34) : Int).toNat (8)) 189 ((1600 : Int) * (st 170 35) + (st 170 34) : Int).toNat (st 170 6)) 170 34 ((st 170 34) + 1))) (show NXr (zup (zup (zup (zup st 194 ((st 170 42) - 1 : Int).toNat 0) 188 ((1600 : Int) * (st 170 35) + (st 170 34) : Int).toNat (8)) 189 ((1600 : Int) * (st 170 35) + (st 170 34) : Int).toNat (st 170 6)) 170 34 ((st 170 34) + 1)) s62 t n from nx62) (show tk t n ((zup (zup (zup (zup st 194 ((st 170 42) - 1 : Int).toNat 0) 188 ((1600 : Int) * (st 170 35) + (st 170 34) : Int).toNat (8)) 189 ((1600 : Int) * (st 170 35) + (st 170 34) : Int).toNat (st 170 6)) 170 34 ((st 170 34) + 1)) 170 4) _ _ e from by rw [show (zup (zup (zup (zup st 194 ((st 170 42) - 1 : Int).toNat 0) 188 ((1600 : Int) * (st 170 35) + (st 170 34) : Int).toNat (8)) 189 ((1600 : Int) * (st 170 35) + (st 170 34) : Int).toNat (st 170 6)) 170 34 ((st 170 34) + 1)) 170 4 = p from mpp]; exact ht.1) (by omega)
            have hl := tk_lt ht.1 (show 0 ≤ p from by rw [← mpp]; exact mrd.2.1.1) (by omega)
            exact ⟨rfl, ⟨by omega, by omega, by omega, hp, rd62, mcQ_of (fun i => fs62 192 i rfl rfl) (fun i => fs62 193 i rfl rfl) (fun i => fs62 194 i rfl rfl) (fun i => fs62 195 i rfl rfl) (fun i => fs62 196 i rfl rfl) (fun i => fs62 197 i rfl rfl) (fs62 170 42 rfl rfl) (fs62 170 45 rfl rfl) (fs62 170 35 rfl rfl) (fs62 170 34 rfl rfl) (fun i => fs62 188 i rfl rfl) (fun i => fs62 189 i rfl rfl) (show mcQ (zup (zup (zup (zup st 194 ((st 170 42) - 1 : Int).toNat 0) 188 ((1600 : Int) * (st 170 35) + (st 170 34) : Int).toNat (8)) 189 ((1600 : Int) * (st 170 35) + (st 170 34) : Int).toNat (st 170 6)) 170 34 ((st 170 34) + 1)) ((k, ph, 0, pr, w) :: fs) (c ++ [8]) from ⟨FR_bg 0 mb.2.1 mfr, WB_c ml (WB_el mwb) (WB_tl mwb), CDr_add (b := st 170 35) (n := st 170 34) (by omega) mcd (by omega) (fun h => by omega)⟩), by omega, by omega, by omega, by rw [List.length_cons]; omega⟩⟩))⟩
theorem k_rOp78_m (hTb : aTb zSh rx_tb cl) {t : Int → Int} {n k ph bg pr o p e : Int} {w c : List Int} {fs : List mFr} {D : Nat} (hD : 4 ≤ D) : ∀ as st (Q Q' : zQ), (∀ r st', Q r st' → Q' r st') → (k_rOp78 t n k ph bg pr o p e w c fs) 196 as st Q → cl D 196 as st Q' := by
  intro as st Q Q' hQ h
  unfold k_rOp78 at h
  split at h
  · obtain ⟨rfl, h⟩ := h
    exact c_rOp78 hTb hD (ct_rOp78_m hQ h)
  · exact h.elim
set_option maxHeartbeats 4000000 in
set_option maxRecDepth 100000 in
theorem c_rOp79 (hTb : aTb zSh rx_tb cl) {t : Int → Int} {n k ph bg pr o p e : Int} {w c : List Int} {fs : List mFr} {D : Nat} (hD : 4 ≤ D) {st : zS} {Q : zQ} (h : ct_rOp79 t n k ph bg pr o p e w c fs st Q) : cl D 196 [.inr (.inr (.inl 170))] st Q := by
  obtain ⟨d, rfl⟩ : ∃ d, D = d + 1 := ⟨D - 1, by omega⟩
  refine hTb d 196 (rx_m196, 4, 0, 0, 2) rfl _ _ _ (Nat.le_of_ble_eq_true rfl) (fun K hcl hsf hsl => ?_)
  have hcm : zmo (wcL [(181, k_rLex), (195, k_isTest), (183, k_isWord), (182, k_isSign), (149, k_rNext t n), (189, k_add), (192, k_holdsBack), (194, k_rOpens t n)]) (cl d) := (wcL_m (wm_cons (k_rLex_m hTb (by omega)) (wm_cons (k_isTest_m hTb (by omega)) (wm_cons (k_isWord_m hTb (by omega)) (wm_cons (k_isSign_m hTb (by omega)) (wm_cons (k_rNext_m hTb (by omega)) (wm_cons (k_add_m hTb (by omega)) (wm_cons (k_holdsBack_m hTb (by omega)) (wm_cons (k_rOpens_m hTb (by omega)) wm_nil)))))))))
  obtain ⟨hR, hQ⟩ := h
  obtain ⟨hG, mp, ht⟩ := hR
  change mcP t n st ((k, ph, bg, pr, w) :: fs) 0 (o) (c) (p) at mp
  change tk t n p 1 465726042227 e ∧ st 170 36 = 1 at ht
  have g1 := g_isClever hG
  obtain ⟨mf, mo, mn, mpp, mrd, mq, mbd, mz1, mz2, mz3⟩ := mp
  rw [List.length_cons] at mz3
  have mq0 := mq
  obtain ⟨mfr, mwb, mcd⟩ := mq
  have mt := FR_top mfr
  have mb := FR_bnd _ _ _ mwb mfr
  rw [List.length_cons] at mb
  have ml := WB_hd mwb
  have mcl := mcd.1
  have mlw := FR_len mb.2.1 mfr
  have tf := r_wrd mrd (by rw [mpp]; exact ht.1)
  have g2 := g_codes hG
  have g3 := g_in hG
  have g4 := g_deep hG
  have g5 := g_open hG
  have g6 := g_opMany hG
  have g7 := g_signAt hG
  have g8 := g_signEnd hG
  have g9 := g_faultKind hG
  have g10 := g_size hG
  have g11 := g_sign hG
  have g12 := g_lexAt hG
  have g13 := g_value hG
  have g14 := g_word hG
  have g15 := g_operand hG
  refine yr1_ok (Rt := Q) (wc := (wcL [(181, k_rLex), (195, k_isTest), (183, k_isWord), (182, k_isSign), (149, k_rNext t n), (189, k_add), (192, k_holdsBack), (194, k_rOpens t n)])) (stp := []) hcm hcl [] 400 ?_
  show (170 = 170 ∧ (rq_rLex  st ∧ (((st 170 8 ≤ (0 : Int) → ((-2147483648 ≤ (st 170 42) - 1 ∧ (st 170 42) - 1 ≤ 2147483647) ∧ ((0 ≤ (st 170 42) - 1 ∧ (st 170 42) - 1 < 20) ∧ (∀ (r17 : Int), en_isTest (st 192 ((st 170 42) - 1 : Int).toNat) st r17 → ((r17 = (0 : Int) → (((0 : Int) = (0 : Int) → ((0 ≤ (st 170 42) - 1 ∧ (st 170 42) - 1 < 20) ∧ ((0 = (0 : Int) ∨ 0 = (1 : Int)) ∧ (((0 : Int) = (0 : Int) → (((0 : Int) = (0 : Int) → (170 = 170 ∧ (∀ (r18 : Int), en_isSign (40) (zup st 194 ((st 170 42) - 1 : Int).toNat 0) r18 → ((r18 = (0 : Int) → (170 = 170 ∧ (∀ (r19 : Int), en_isWord (7170414) (zup st 194 ((st 170 42) - 1 : Int).toNat 0) r19 → ((¬ r19 = (0 : Int) → _) ∧ (¬ (¬ r19 = (0 : Int)) → (170 = 170 ∧ (∀ (r20 : Int), en_isWord (7168376) (zup st 194 ((st 170 42) - 1 : Int).toNat 0) r20 → ((¬ r20 = (0 : Int) → _) ∧ (¬ (¬ r20 = (0 : Int)) → (170 = 170 ∧ (∀ (r21 : Int), en_isWord (26982) (zup st 194 ((st 170 42) - 1 : Int).toNat 0) r21 → ((r21 = (0 : Int) → ((¬ st 170 3 = (2 : Int) → (170 = 170 ∧ (∀ (r22 : Int), en_isWord (1751474548) (zup st 194 ((st 170 42) - 1 : Int).toNat 0) r22 → ((r22 = (0 : Int) → (170 = 170 ∧ (∀ (r23 : Int), en_isWord (2036687218) (zup st 194 ((st 170 42) - 1 : Int).toNat 0) r23 → ((r23 = (0 : Int) → (170 = 170 ∧ (∀ (r24 : Int), en_isWord (1953459300) (zup st 194 ((st 170 42) - 1 : Int).toNat 0) r24 → ((r24 = (0 : Int) → (170 = 170 ∧ (∀ (r25 : Int), en_isWord (1886743660) (zup st 194 ((st 170 42) - 1 : Int).toNat 0) r25 → ((r25 = (0 : Int) → (170 = 170 ∧ (∀ (r26 : Int), en_isWord (1937007984) (zup st 194 ((st 170 42) - 1 : Int).toNat 0) r26 → ((r26 = (0 : Int) → (170 = 170 ∧ (∀ (r27 : Int), en_isWord (1650812270) (zup st 194 ((st 170 42) - 1 : Int).toNat 0) r27 → ((r27 = (0 : Int) → (170 = 170 ∧ (∀ (r28 : Int), en_isWord (495874044019) (zup st 194 ((st 170 42) - 1 : Int).toNat 0) r28 → ((r28 = (0 : Int) → (170 = 170 ∧ (∀ (r29 : Int), en_isWord (1953066341) (zup st 194 ((st 170 42) - 1 : Int).toNat 0) r29 → ((r29 = (0 : Int) → (170 = 170 ∧ (∀ (r30 : Int), en_isWord (465726042227) (zup st 194 ((st 170 42) - 1 : Int).toNat 0) r30 → ((r30 = (0 : Int) → _) ∧ (¬ (r30 = (0 : Int)) → (((9 : Int) < (3 : Int) → _) ∧ (¬ ((9 : Int) < (3 : Int)) → (((9 : Int) ≤ (6 : Int) → _) ∧ (¬ ((9 : Int) ≤ (6 : Int)) → (((1 : Int) = st 170 36 → ((¬ (9 : Int) = ((-1) : Int) → ((st 170 8 ≤ (0 : Int) → (170 = 170 ∧ (rq_add (9) (st 170 6) (zup st 194 ((st 170 42) - 1 : Int).toNat 0) ∧ ((170 = 170 ∧ (rq_rNext t n  (zup (zup (zup (zup st 194 ((st 170 42) - 1 : Int).toNat 0) 188 ((1600 : Int) * (st 170 35) + (st 170 34) : Int).toNat (9)) 189 ((1600 : Int) * (st 170 35) + (st 170 34) : Int).toNat (st 170 6)) 170 34 ((st 170 34) + 1)) ∧ (∀ (s32 : zS), en_rNext t n  (zup (zup (zup (zup st 194 ((st 170 42) - 1 : Int).toNat 0) 188 ((1600 : Int) * (st 170 35) + (st 170 34) : Int).toNat (9)) 189 ((1600 : Int) * (st 170 35) + (st 170 34) : Int).toNat (st 170 6)) 170 34 ((st 170 34) + 1)) s32 → ((1 = (0 : Int) ∨ 1 = (1 : Int)) ∧ Q (some (.inl 1)) s32)))))))) ∧ (¬ (st 170 8 ≤ (0 : Int)) → _))) ∧ (¬ (¬ (9 : Int) = ((-1) : Int)) → _))) ∧ (¬ ((1 : Int) = st 170 36) → _))))))))))) ∧ (¬ (r29 = (0 : Int)) → _))))) ∧ (¬ (r28 = (0 : Int)) → _))))) ∧ (¬ (r27 = (0 : Int)) → _))))) ∧ (¬ (r26 = (0 : Int)) → _))))) ∧ (¬ (r25 = (0 : Int)) → _))))) ∧ (¬ (r24 = (0 : Int)) → _))))) ∧ (¬ (r23 = (0 : Int)) → _))))) ∧ (¬ (r22 = (0 : Int)) → _))))) ∧ (¬ (¬ st 170 3 = (2 : Int)) → _))) ∧ (¬ (r21 = (0 : Int)) → _))))))))))))) ∧ (¬ (r18 = (0 : Int)) → _))))) ∧ (¬ ((0 : Int) = (0 : Int)) → _))) ∧ (¬ ((0 : Int) = (0 : Int)) → _))))) ∧ (¬ ((0 : Int) = (0 : Int)) → _))) ∧ (¬ (r17 = (0 : Int)) → ((0 ≤ (st 170 42) - 1 ∧ (st 170 42) - 1 < 20) ∧ ((st 194 ((st 170 42) - 1 : Int).toNat = (0 : Int) → (((0 : Int) = (0 : Int) → ((0 ≤ (st 170 42) - 1 ∧ (st 170 42) - 1 < 20) ∧ ((0 = (0 : Int) ∨ 0 = (1 : Int)) ∧ (((0 : Int) = (0 : Int) → (((0 : Int) = (0 : Int) → (170 = 170 ∧ (∀ (r33 : Int), en_isSign (40) (zup st 194 ((st 170 42) - 1 : Int).toNat 0) r33 → ((r33 = (0 : Int) → (170 = 170 ∧ (∀ (r34 : Int), en_isWord (7170414) (zup st 194 ((st 170 42) - 1 : Int).toNat 0) r34 → ((¬ r34 = (0 : Int) → _) ∧ (¬ (¬ r34 = (0 : Int)) → (170 = 170 ∧ (∀ (r35 : Int), en_isWord (7168376) (zup st 194 ((st 170 42) - 1 : Int).toNat 0) r35 → ((¬ r35 = (0 : Int) → _) ∧ (¬ (¬ r35 = (0 : Int)) → (170 = 170 ∧ (∀ (r36 : Int), en_isWord (26982) (zup st 194 ((st 170 42) - 1 : Int).toNat 0) r36 → ((r36 = (0 : Int) → ((¬ st 170 3 = (2 : Int) → (170 = 170 ∧ (∀ (r37 : Int), en_isWord (1751474548) (zup st 194 ((st 170 42) - 1 : Int).toNat 0) r37 → ((r37 = (0 : Int) → (170 = 170 ∧ (∀ (r38 : Int), en_isWord (2036687218) (zup st 194 ((st 170 42) - 1 : Int).toNat 0) r38 → ((r38 = (0 : Int) → (170 = 170 ∧ (∀ (r39 : Int), en_isWord (1953459300) (zup st 194 ((st 170 42) - 1 : Int).toNat 0) r39 → ((r39 = (0 : Int) → (170 = 170 ∧ (∀ (r40 : Int), en_isWord (1886743660) (zup st 194 ((st 170 42) - 1 : Int).toNat 0) r40 → ((r40 = (0 : Int) → (170 = 170 ∧ (∀ (r41 : Int), en_isWord (1937007984) (zup st 194 ((st 170 42) - 1 : Int).toNat 0) r41 → ((r41 = (0 : Int) → (170 = 170 ∧ (∀ (r42 : Int), en_isWord (1650812270) (zup st 194 ((st 170 42) - 1 : Int).toNat 0) r42 → ((r42 = (0 : Int) → (170 = 170 ∧ (∀ (r43 : Int), en_isWord (495874044019) (zup st 194 ((st 170 42) - 1 : Int).toNat 0) r43 → ((r43 = (0 : Int) → (170 = 170 ∧ (∀ (r44 : Int), en_isWord (1953066341) (zup st 194 ((st 170 42) - 1 : Int).toNat 0) r44 → ((r44 = (0 : Int) → (170 = 170 ∧ (∀ (r45 : Int), en_isWord (465726042227) (zup st 194 ((st 170 42) - 1 : Int).toNat 0) r45 → ((r45 = (0 : Int) → _) ∧ (¬ (r45 = (0 : Int)) → (((9 : Int) < (3 : Int) → _) ∧ (¬ ((9 : Int) < (3 : Int)) → (((9 : Int) ≤ (6 : Int) → _) ∧ (¬ ((9 : Int) ≤ (6 : Int)) → (((1 : Int) = st 170 36 → ((¬ (9 : Int) = ((-1) : Int) → ((st 170 8 ≤ (0 : Int) → (170 = 170 ∧ (rq_add (9) (st 170 6) (zup st 194 ((st 170 42) - 1 : Int).toNat 0) ∧ ((170 = 170 ∧ (rq_rNext t n  (zup (zup (zup (zup st 194 ((st 170 42) - 1 : Int).toNat 0) 188 ((1600 : Int) * (st 170 35) + (st 170 34) : Int).toNat (9)) 189 ((1600 : Int) * (st 170 35) + (st 170 34) : Int).toNat (st 170 6)) 170 34 ((st 170 34) + 1)) ∧ (∀ (s47 : zS), en_rNext t n  (zup (zup (zup (zup st 194 ((st 170 42) - 1 : Int).toNat 0) 188 ((1600 : Int) * (st 170 35) + (st 170 34) : Int).toNat (9)) 189 ((1600 : Int) * (st 170 35) + (st 170 34) : Int).toNat (st 170 6)) 170 34 ((st 170 34) + 1)) s47 → ((1 = (0 : Int) ∨ 1 = (1 : Int)) ∧ Q (some (.inl 1)) s47)))))))) ∧ (¬ (st 170 8 ≤ (0 : Int)) → _))) ∧ (¬ (¬ (9 : Int) = ((-1) : Int)) → _))) ∧ (¬ ((1 : Int) = st 170 36) → _))))))))))) ∧ (¬ (r44 = (0 : Int)) → _))))) ∧ (¬ (r43 = (0 : Int)) → _))))) ∧ (¬ (r42 = (0 : Int)) → _))))) ∧ (¬ (r41 = (0 : Int)) → _))))) ∧ (¬ (r40 = (0 : Int)) → _))))) ∧ (¬ (r39 = (0 : Int)) → _))))) ∧ (¬ (r38 = (0 : Int)) → _))))) ∧ (¬ (r37 = (0 : Int)) → _))))) ∧ (¬ (¬ st 170 3 = (2 : Int)) → _))) ∧ (¬ (r36 = (0 : Int)) → _))))))))))))) ∧ (¬ (r33 = (0 : Int)) → _))))) ∧ (¬ ((0 : Int) = (0 : Int)) → _))) ∧ (¬ ((0 : Int) = (0 : Int)) → _))))) ∧ (¬ ((0 : Int) = (0 : Int)) → _))) ∧ (¬ (st 194 ((st 170 42) - 1 : Int).toNat = (0 : Int)) → (((1 : Int) = (0 : Int) → _) ∧ (¬ ((1 : Int) = (0 : Int)) → (170 = 170 ∧ (∀ (r48 : Int), en_isWord (7237492) st r48 → ((r48 = (0 : Int) → ((0 ≤ (st 170 42) - 1 ∧ (st 170 42) - 1 < 20) ∧ ((0 = (0 : Int) ∨ 0 = (1 : Int)) ∧ (((1 : Int) = (0 : Int) → _) ∧ (¬ ((1 : Int) = (0 : Int)) → (170 = 170 ∧ (∀ (r49 : Int), en_isSign (91) (zup st 194 ((st 170 42) - 1 : Int).toNat 0) r49 → ((r49 = (0 : Int) → (((1 : Int) = (0 : Int) → _) ∧ (¬ ((1 : Int) = (0 : Int)) → (170 = 170 ∧ (∀ (r50 : Int), en_isWord (6384748) (zup st 194 ((st 170 42) - 1 : Int).toNat 0) r50 → ((r50 = (0 : Int) → (170 = 170 ∧ (∀ (r51 : Int), en_isSign (40) (zup st 194 ((st 170 42) - 1 : Int).toNat 0) r51 → ((r51 = (0 : Int) → (170 = 170 ∧ (∀ (r52 : Int), en_isWord (7170414) (zup st 194 ((st 170 42) - 1 : Int).toNat 0) r52 → ((¬ r52 = (0 : Int) → _) ∧ (¬ (¬ r52 = (0 : Int)) → (170 = 170 ∧ (∀ (r53 : Int), en_isWord (7168376) (zup st 194 ((st 170 42) - 1 : Int).toNat 0) r53 → ((¬ r53 = (0 : Int) → _) ∧ (¬ (¬ r53 = (0 : Int)) → (170 = 170 ∧ (∀ (r54 : Int), en_isWord (26982) (zup st 194 ((st 170 42) - 1 : Int).toNat 0) r54 → ((r54 = (0 : Int) → ((¬ st 170 3 = (2 : Int) → (170 = 170 ∧ (∀ (r55 : Int), en_isWord (1751474548) (zup st 194 ((st 170 42) - 1 : Int).toNat 0) r55 → ((r55 = (0 : Int) → (170 = 170 ∧ (∀ (r56 : Int), en_isWord (2036687218) (zup st 194 ((st 170 42) - 1 : Int).toNat 0) r56 → ((r56 = (0 : Int) → (170 = 170 ∧ (∀ (r57 : Int), en_isWord (1953459300) (zup st 194 ((st 170 42) - 1 : Int).toNat 0) r57 → ((r57 = (0 : Int) → (170 = 170 ∧ (∀ (r58 : Int), en_isWord (1886743660) (zup st 194 ((st 170 42) - 1 : Int).toNat 0) r58 → ((r58 = (0 : Int) → (170 = 170 ∧ (∀ (r59 : Int), en_isWord (1937007984) (zup st 194 ((st 170 42) - 1 : Int).toNat 0) r59 → ((r59 = (0 : Int) → (170 = 170 ∧ (∀ (r60 : Int), en_isWord (1650812270) (zup st 194 ((st 170 42) - 1 : Int).toNat 0) r60 → ((r60 = (0 : Int) → (170 = 170 ∧ (∀ (r61 : Int), en_isWord (495874044019) (zup st 194 ((st 170 42) - 1 : Int).toNat 0) r61 → ((r61 = (0 : Int) → (170 = 170 ∧ (∀ (r62 : Int), en_isWord (1953066341) (zup st 194 ((st 170 42) - 1 : Int).toNat 0) r62 → ((r62 = (0 : Int) → (170 = 170 ∧ (∀ (r63 : Int), en_isWord (465726042227) (zup st 194 ((st 170 42) - 1 : Int).toNat 0) r63 → ((r63 = (0 : Int) → _) ∧ (¬ (r63 = (0 : Int)) → (((9 : Int) < (3 : Int) → _) ∧ (¬ ((9 : Int) < (3 : Int)) → (((9 : Int) ≤ (6 : Int) → _) ∧ (¬ ((9 : Int) ≤ (6 : Int)) → (((1 : Int) = st 170 36 → ((¬ (9 : Int) = ((-1) : Int) → ((st 170 8 ≤ (0 : Int) → (170 = 170 ∧ (rq_add (9) (st 170 6) (zup st 194 ((st 170 42) - 1 : Int).toNat 0) ∧ ((170 = 170 ∧ (rq_rNext t n  (zup (zup (zup (zup st 194 ((st 170 42) - 1 : Int).toNat 0) 188 ((1600 : Int) * (st 170 35) + (st 170 34) : Int).toNat (9)) 189 ((1600 : Int) * (st 170 35) + (st 170 34) : Int).toNat (st 170 6)) 170 34 ((st 170 34) + 1)) ∧ (∀ (s65 : zS), en_rNext t n  (zup (zup (zup (zup st 194 ((st 170 42) - 1 : Int).toNat 0) 188 ((1600 : Int) * (st 170 35) + (st 170 34) : Int).toNat (9)) 189 ((1600 : Int) * (st 170 35) + (st 170 34) : Int).toNat (st 170 6)) 170 34 ((st 170 34) + 1)) s65 → ((1 = (0 : Int) ∨ 1 = (1 : Int)) ∧ Q (some (.inl 1)) s65)))))))) ∧ (¬ (st 170 8 ≤ (0 : Int)) → _))) ∧ (¬ (¬ (9 : Int) = ((-1) : Int)) → _))) ∧ (¬ ((1 : Int) = st 170 36) → _))))))))))) ∧ (¬ (r62 = (0 : Int)) → _))))) ∧ (¬ (r61 = (0 : Int)) → _))))) ∧ (¬ (r60 = (0 : Int)) → _))))) ∧ (¬ (r59 = (0 : Int)) → _))))) ∧ (¬ (r58 = (0 : Int)) → _))))) ∧ (¬ (r57 = (0 : Int)) → _))))) ∧ (¬ (r56 = (0 : Int)) → _))))) ∧ (¬ (r55 = (0 : Int)) → _))))) ∧ (¬ (¬ st 170 3 = (2 : Int)) → _))) ∧ (¬ (r54 = (0 : Int)) → _))))))))))))) ∧ (¬ (r51 = (0 : Int)) → _))))) ∧ (¬ (r50 = (0 : Int)) → _))))))) ∧ (¬ (r49 = (0 : Int)) → _))))))))) ∧ (¬ (r48 = (0 : Int)) → _))))))))))))))) ∧ (¬ (st 170 8 ≤ (0 : Int)) → _)))))
  refine ⟨rfl, ⟨hG, (show st 170 12 = -1 from by omega)⟩, ?_⟩
  refine ⟨fun h66 => ?_, fun h66 => (by exfalso; omega)⟩
  refine ⟨by omega, ?_⟩
  have g67 := g_frame hG ((st 170 42) - 1 : Int).toNat
  refine ⟨by omega, ?_⟩
  refine fun r17 q17 => ?_
  have b17 := q17
  change (r17 = 0 ∨ r17 = 1) ∧ (r17 = 1 ↔ (st 192 ((st 170 42) - 1 : Int).toNat) = 1 ∨ (st 192 ((st 170 42) - 1 : Int).toNat) = 5 ∨ (st 192 ((st 170 42) - 1 : Int).toNat) = 6) at b17
  refine ⟨fun h68 => ?_, fun h68 => ?_⟩
  · refine ⟨fun h69 => ?_, fun h69 => absurd (by decide) h69⟩
    refine ⟨by omega, ?_⟩
    refine ⟨by omega, ?_⟩
    refine ⟨fun h70 => ?_, fun h70 => absurd (by decide) h70⟩
    refine ⟨fun h71 => ?_, fun h71 => absurd (by decide) h71⟩
    refine ⟨rfl, fun r18 q18 => ?_⟩
    have b18 := q18
    change (r18 = 0 ∨ r18 = 1) ∧ (r18 = 1 ↔ st 170 3 = 3 ∧ st 170 6 = (40)) at b18
    refine ⟨fun h72 => ?_, fun h72 => (by exfalso; clear hQ; omega)⟩
    clear h72 b18
    refine ⟨rfl, fun r19 q19 => ?_⟩
    have b19 := q19
    change (r19 = 0 ∨ r19 = 1) ∧ (r19 = 1 ↔ st 170 3 = 1 ∧ st 170 7 = (7170414)) at b19
    refine ⟨fun h73 => (by exfalso; clear hQ; omega), fun h73 => ?_⟩
    clear h73 b19
    refine ⟨rfl, fun r20 q20 => ?_⟩
    have b20 := q20
    change (r20 = 0 ∨ r20 = 1) ∧ (r20 = 1 ↔ st 170 3 = 1 ∧ st 170 7 = (7168376)) at b20
    refine ⟨fun h74 => (by exfalso; clear hQ; omega), fun h74 => ?_⟩
    clear h74 b20
    refine ⟨rfl, fun r21 q21 => ?_⟩
    have b21 := q21
    change (r21 = 0 ∨ r21 = 1) ∧ (r21 = 1 ↔ st 170 3 = 1 ∧ st 170 7 = (26982)) at b21
    refine ⟨fun h75 => ?_, fun h75 => (by exfalso; clear hQ; omega)⟩
    clear h75 b21
    refine ⟨fun h76 => ?_, fun h76 => (by exfalso; omega)⟩
    refine ⟨rfl, fun r22 q22 => ?_⟩
    have b22 := q22
    change (r22 = 0 ∨ r22 = 1) ∧ (r22 = 1 ↔ st 170 3 = 1 ∧ st 170 7 = (1751474548)) at b22
    refine ⟨fun h77 => ?_, fun h77 => (by exfalso; clear hQ; omega)⟩
    clear h77 b22
    refine ⟨rfl, fun r23 q23 => ?_⟩
    have b23 := q23
    change (r23 = 0 ∨ r23 = 1) ∧ (r23 = 1 ↔ st 170 3 = 1 ∧ st 170 7 = (2036687218)) at b23
    refine ⟨fun h78 => ?_, fun h78 => (by exfalso; clear hQ; omega)⟩
    clear h78 b23
    refine ⟨rfl, fun r24 q24 => ?_⟩
    have b24 := q24
    change (r24 = 0 ∨ r24 = 1) ∧ (r24 = 1 ↔ st 170 3 = 1 ∧ st 170 7 = (1953459300)) at b24
    refine ⟨fun h79 => ?_, fun h79 => (by exfalso; clear hQ; omega)⟩
    clear h79 b24
    refine ⟨rfl, fun r25 q25 => ?_⟩
    have b25 := q25
    change (r25 = 0 ∨ r25 = 1) ∧ (r25 = 1 ↔ st 170 3 = 1 ∧ st 170 7 = (1886743660)) at b25
    refine ⟨fun h80 => ?_, fun h80 => (by exfalso; clear hQ; omega)⟩
    clear h80 b25
    refine ⟨rfl, fun r26 q26 => ?_⟩
    have b26 := q26
    change (r26 = 0 ∨ r26 = 1) ∧ (r26 = 1 ↔ st 170 3 = 1 ∧ st 170 7 = (1937007984)) at b26
    refine ⟨fun h81 => ?_, fun h81 => (by exfalso; clear hQ; omega)⟩
    clear h81 b26
    refine ⟨rfl, fun r27 q27 => ?_⟩
    have b27 := q27
    change (r27 = 0 ∨ r27 = 1) ∧ (r27 = 1 ↔ st 170 3 = 1 ∧ st 170 7 = (1650812270)) at b27
    refine ⟨fun h82 => ?_, fun h82 => (by exfalso; clear hQ; omega)⟩
    clear h82 b27
    refine ⟨rfl, fun r28 q28 => ?_⟩
    have b28 := q28
    change (r28 = 0 ∨ r28 = 1) ∧ (r28 = 1 ↔ st 170 3 = 1 ∧ st 170 7 = (495874044019)) at b28
    refine ⟨fun h83 => ?_, fun h83 => (by exfalso; clear hQ; omega)⟩
    clear h83 b28
    refine ⟨rfl, fun r29 q29 => ?_⟩
    have b29 := q29
    change (r29 = 0 ∨ r29 = 1) ∧ (r29 = 1 ↔ st 170 3 = 1 ∧ st 170 7 = (1953066341)) at b29
    refine ⟨fun h84 => ?_, fun h84 => (by exfalso; clear hQ; omega)⟩
    clear h84 b29
    refine ⟨rfl, fun r30 q30 => ?_⟩
    have b30 := q30
    change (r30 = 0 ∨ r30 = 1) ∧ (r30 = 1 ↔ st 170 3 = 1 ∧ st 170 7 = (465726042227)) at b30
    refine ⟨fun h85 => (by exfalso; clear hQ; omega), fun h85 => ?_⟩
    clear h85 b30
    refine ⟨fun h86 => absurd h86 (by decide), fun h86 => ?_⟩
    refine ⟨fun h87 => absurd h87 (by decide), fun h87 => ?_⟩
    refine ⟨fun h88 => ?_, fun h88 => (by exfalso; omega)⟩
    refine ⟨fun h89 => ?_, fun h89 => absurd (by decide) h89⟩
    refine ⟨fun h90 => ?_, fun h90 => (by exfalso; omega)⟩
    refine ⟨rfl, ⟨(gInv_up hG (p_begins (by omega))), (show st 170 34 ≤ 1599 from by omega)⟩, ?_⟩
    refine ⟨rfl, ⟨(gInv_up (gInv_up (gInv_up (gInv_up hG (p_begins (by omega))) (p_codeSort (by omega))) (p_codeValue (by omega))) (p_codes (by omega))), (show RDr (zup (zup (zup (zup st 194 ((st 170 42) - 1 : Int).toNat 0) 188 ((1600 : Int) * (st 170 35) + (st 170 34) : Int).toNat (9)) 189 ((1600 : Int) * (st 170 35) + (st 170 34) : Int).toNat (st 170 6)) 170 34 ((st 170 34) + 1)) t n from (show RDr (zup (zup (zup (zup st 194 ((st 170 42) - 1 : Int).toNat 0) 188 ((1600 : Int) * (st 170 35) + (st 170 34) : Int).toNat (9)) 189 ((1600 : Int) * (st 170 35) + (st 170 34) : Int).toNat (st 170 6)) 170 34 ((st 170 34) + 1)) t n from mrd)), (show st 170 12 = -1 from by omega)⟩, fun s32 q32 => ?_⟩
    obtain ⟨gs32, fs32, rd32, nx32⟩ := q32
    change RDr s32 t n at rd32
    change NXr (zup (zup (zup (zup st 194 ((st 170 42) - 1 : Int).toNat 0) 188 ((1600 : Int) * (st 170 35) + (st 170 34) : Int).toNat (9)) 189 ((1600 : Int) * (st 170 35) + (st 170 34) : Int).toNat (st 170 6)) 170 34 ((st 170 34) + 1)) s32 t n at nx32
    refine ⟨by omega, ?_⟩
    have e91 : s32 170 8 = st 170 8 := fs32 170 8 rfl rfl
    have e92 : s32 170 46 = st 170 46 := fs32 170 46 rfl rfl
    have e93 : s32 170 43 = st 170 43 := fs32 170 43 rfl rfl
    have e94 : s32 170 34 = ((st 170 34) + 1) := fs32 170 34 rfl rfl
    have e95 : s32 170 45 = st 170 45 := fs32 170 45 rfl rfl
    have e96 : s32 170 42 = st 170 42 := fs32 170 42 rfl rfl
    exact hQ _ _ ⟨gs32, (fr_tr (fr_f (fr_a (fr_a (fr_a (fr_rf _ _) rfl) rfl) rfl) rfl) fs32 rfl), (Z9_tr (Z9_up (Z9_st (Z9_up (Z9_up (Z9_rf _) (by decide)) (by decide)) (b := st 170 35) rfl (by omega)) (by decide)) ((show aFr m_rOp79 st (zup (zup (zup (zup st 194 ((st 170 42) - 1 : Int).toNat 0) 188 ((1600 : Int) * (st 170 35) + (st 170 34) : Int).toNat (9)) 189 ((1600 : Int) * (st 170 35) + (st 170 34) : Int).toNat (st 170 6)) 170 34 ((st 170 34) + 1)) from (fr_f (fr_a (fr_a (fr_a (fr_rf _ _) rfl) rfl) rfl) rfl)) 170 35 rfl rfl) (Z9_fr fs32 (fun _ => rfl) rfl)), (show (1 : Int) = 1 ∧ mcP t n s32 ((k, ph, 0, pr, w) :: fs) 0 (o) (c ++ [9]) (e) from (by
            have hp : s32 170 4 = e := NXr_e (st := (zup (zup (zup (zup st 194 ((st 170 42) - 1 : Int).toNat 0) 188 ((1600 : Int) * (st 170 35) + (st 170 34) : Int).toNat (9)) 189 ((1600 : Int) * (st 170 35) + (st 170 34) : Int).toNat (st 170 6)) 170 34 ((st 170 34) + 1))) (show NXr (zup (zup (zup (zup st 194 ((st 170 42) - 1 : Int).toNat 0) 188 ((1600 : Int) * (st 170 35) + (st 170 34) : Int).toNat (9)) 189 ((1600 : Int) * (st 170 35) + (st 170 34) : Int).toNat (st 170 6)) 170 34 ((st 170 34) + 1)) s32 t n from nx32) (show tk t n ((zup (zup (zup (zup st 194 ((st 170 42) - 1 : Int).toNat 0) 188 ((1600 : Int) * (st 170 35) + (st 170 34) : Int).toNat (9)) 189 ((1600 : Int) * (st 170 35) + (st 170 34) : Int).toNat (st 170 6)) 170 34 ((st 170 34) + 1)) 170 4) _ _ e from by rw [show (zup (zup (zup (zup st 194 ((st 170 42) - 1 : Int).toNat 0) 188 ((1600 : Int) * (st 170 35) + (st 170 34) : Int).toNat (9)) 189 ((1600 : Int) * (st 170 35) + (st 170 34) : Int).toNat (st 170 6)) 170 34 ((st 170 34) + 1)) 170 4 = p from mpp]; exact ht.1) (by omega)
            have hl := tk_lt ht.1 (show 0 ≤ p from by rw [← mpp]; exact mrd.2.1.1) (by omega)
            exact ⟨rfl, ⟨by omega, by omega, by omega, hp, rd32, mcQ_of (fun i => fs32 192 i rfl rfl) (fun i => fs32 193 i rfl rfl) (fun i => fs32 194 i rfl rfl) (fun i => fs32 195 i rfl rfl) (fun i => fs32 196 i rfl rfl) (fun i => fs32 197 i rfl rfl) (fs32 170 42 rfl rfl) (fs32 170 45 rfl rfl) (fs32 170 35 rfl rfl) (fs32 170 34 rfl rfl) (fun i => fs32 188 i rfl rfl) (fun i => fs32 189 i rfl rfl) (show mcQ (zup (zup (zup (zup st 194 ((st 170 42) - 1 : Int).toNat 0) 188 ((1600 : Int) * (st 170 35) + (st 170 34) : Int).toNat (9)) 189 ((1600 : Int) * (st 170 35) + (st 170 34) : Int).toNat (st 170 6)) 170 34 ((st 170 34) + 1)) ((k, ph, 0, pr, w) :: fs) (c ++ [9]) from ⟨FR_bg 0 mb.2.1 mfr, WB_c ml (WB_el mwb) (WB_tl mwb), CDr_add (b := st 170 35) (n := st 170 34) (by omega) mcd (by omega) (fun h => by omega)⟩), by omega, by omega, by omega, by rw [List.length_cons]; omega⟩⟩))⟩
  · have g97 := g_begins hG ((st 170 42) - 1 : Int).toNat
    refine ⟨by omega, ?_⟩
    refine ⟨fun h98 => ?_, fun h98 => ?_⟩
    · refine ⟨fun h99 => ?_, fun h99 => absurd (by decide) h99⟩
      refine ⟨by omega, ?_⟩
      refine ⟨by omega, ?_⟩
      refine ⟨fun h100 => ?_, fun h100 => absurd (by decide) h100⟩
      refine ⟨fun h101 => ?_, fun h101 => absurd (by decide) h101⟩
      refine ⟨rfl, fun r33 q33 => ?_⟩
      have b33 := q33
      change (r33 = 0 ∨ r33 = 1) ∧ (r33 = 1 ↔ st 170 3 = 3 ∧ st 170 6 = (40)) at b33
      refine ⟨fun h102 => ?_, fun h102 => (by exfalso; clear hQ; omega)⟩
      clear h102 b33
      refine ⟨rfl, fun r34 q34 => ?_⟩
      have b34 := q34
      change (r34 = 0 ∨ r34 = 1) ∧ (r34 = 1 ↔ st 170 3 = 1 ∧ st 170 7 = (7170414)) at b34
      refine ⟨fun h103 => (by exfalso; clear hQ; omega), fun h103 => ?_⟩
      clear h103 b34
      refine ⟨rfl, fun r35 q35 => ?_⟩
      have b35 := q35
      change (r35 = 0 ∨ r35 = 1) ∧ (r35 = 1 ↔ st 170 3 = 1 ∧ st 170 7 = (7168376)) at b35
      refine ⟨fun h104 => (by exfalso; clear hQ; omega), fun h104 => ?_⟩
      clear h104 b35
      refine ⟨rfl, fun r36 q36 => ?_⟩
      have b36 := q36
      change (r36 = 0 ∨ r36 = 1) ∧ (r36 = 1 ↔ st 170 3 = 1 ∧ st 170 7 = (26982)) at b36
      refine ⟨fun h105 => ?_, fun h105 => (by exfalso; clear hQ; omega)⟩
      clear h105 b36
      refine ⟨fun h106 => ?_, fun h106 => (by exfalso; omega)⟩
      refine ⟨rfl, fun r37 q37 => ?_⟩
      have b37 := q37
      change (r37 = 0 ∨ r37 = 1) ∧ (r37 = 1 ↔ st 170 3 = 1 ∧ st 170 7 = (1751474548)) at b37
      refine ⟨fun h107 => ?_, fun h107 => (by exfalso; clear hQ; omega)⟩
      clear h107 b37
      refine ⟨rfl, fun r38 q38 => ?_⟩
      have b38 := q38
      change (r38 = 0 ∨ r38 = 1) ∧ (r38 = 1 ↔ st 170 3 = 1 ∧ st 170 7 = (2036687218)) at b38
      refine ⟨fun h108 => ?_, fun h108 => (by exfalso; clear hQ; omega)⟩
      clear h108 b38
      refine ⟨rfl, fun r39 q39 => ?_⟩
      have b39 := q39
      change (r39 = 0 ∨ r39 = 1) ∧ (r39 = 1 ↔ st 170 3 = 1 ∧ st 170 7 = (1953459300)) at b39
      refine ⟨fun h109 => ?_, fun h109 => (by exfalso; clear hQ; omega)⟩
      clear h109 b39
      refine ⟨rfl, fun r40 q40 => ?_⟩
      have b40 := q40
      change (r40 = 0 ∨ r40 = 1) ∧ (r40 = 1 ↔ st 170 3 = 1 ∧ st 170 7 = (1886743660)) at b40
      refine ⟨fun h110 => ?_, fun h110 => (by exfalso; clear hQ; omega)⟩
      clear h110 b40
      refine ⟨rfl, fun r41 q41 => ?_⟩
      have b41 := q41
      change (r41 = 0 ∨ r41 = 1) ∧ (r41 = 1 ↔ st 170 3 = 1 ∧ st 170 7 = (1937007984)) at b41
      refine ⟨fun h111 => ?_, fun h111 => (by exfalso; clear hQ; omega)⟩
      clear h111 b41
      refine ⟨rfl, fun r42 q42 => ?_⟩
      have b42 := q42
      change (r42 = 0 ∨ r42 = 1) ∧ (r42 = 1 ↔ st 170 3 = 1 ∧ st 170 7 = (1650812270)) at b42
      refine ⟨fun h112 => ?_, fun h112 => (by exfalso; clear hQ; omega)⟩
      clear h112 b42
      refine ⟨rfl, fun r43 q43 => ?_⟩
      have b43 := q43
      change (r43 = 0 ∨ r43 = 1) ∧ (r43 = 1 ↔ st 170 3 = 1 ∧ st 170 7 = (495874044019)) at b43
      refine ⟨fun h113 => ?_, fun h113 => (by exfalso; clear hQ; omega)⟩
      clear h113 b43
      refine ⟨rfl, fun r44 q44 => ?_⟩
      have b44 := q44
      change (r44 = 0 ∨ r44 = 1) ∧ (r44 = 1 ↔ st 170 3 = 1 ∧ st 170 7 = (1953066341)) at b44
      refine ⟨fun h114 => ?_, fun h114 => (by exfalso; clear hQ; omega)⟩
      clear h114 b44
      refine ⟨rfl, fun r45 q45 => ?_⟩
      have b45 := q45
      change (r45 = 0 ∨ r45 = 1) ∧ (r45 = 1 ↔ st 170 3 = 1 ∧ st 170 7 = (465726042227)) at b45
      refine ⟨fun h115 => (by exfalso; clear hQ; omega), fun h115 => ?_⟩
      clear h115 b45
      refine ⟨fun h116 => absurd h116 (by decide), fun h116 => ?_⟩
      refine ⟨fun h117 => absurd h117 (by decide), fun h117 => ?_⟩
      refine ⟨fun h118 => ?_, fun h118 => (by exfalso; omega)⟩
      refine ⟨fun h119 => ?_, fun h119 => absurd (by decide) h119⟩
      refine ⟨fun h120 => ?_, fun h120 => (by exfalso; omega)⟩
      refine ⟨rfl, ⟨(gInv_up hG (p_begins (by omega))), (show st 170 34 ≤ 1599 from by omega)⟩, ?_⟩
      refine ⟨rfl, ⟨(gInv_up (gInv_up (gInv_up (gInv_up hG (p_begins (by omega))) (p_codeSort (by omega))) (p_codeValue (by omega))) (p_codes (by omega))), (show RDr (zup (zup (zup (zup st 194 ((st 170 42) - 1 : Int).toNat 0) 188 ((1600 : Int) * (st 170 35) + (st 170 34) : Int).toNat (9)) 189 ((1600 : Int) * (st 170 35) + (st 170 34) : Int).toNat (st 170 6)) 170 34 ((st 170 34) + 1)) t n from (show RDr (zup (zup (zup (zup st 194 ((st 170 42) - 1 : Int).toNat 0) 188 ((1600 : Int) * (st 170 35) + (st 170 34) : Int).toNat (9)) 189 ((1600 : Int) * (st 170 35) + (st 170 34) : Int).toNat (st 170 6)) 170 34 ((st 170 34) + 1)) t n from mrd)), (show st 170 12 = -1 from by omega)⟩, fun s47 q47 => ?_⟩
      obtain ⟨gs47, fs47, rd47, nx47⟩ := q47
      change RDr s47 t n at rd47
      change NXr (zup (zup (zup (zup st 194 ((st 170 42) - 1 : Int).toNat 0) 188 ((1600 : Int) * (st 170 35) + (st 170 34) : Int).toNat (9)) 189 ((1600 : Int) * (st 170 35) + (st 170 34) : Int).toNat (st 170 6)) 170 34 ((st 170 34) + 1)) s47 t n at nx47
      refine ⟨by omega, ?_⟩
      have e121 : s47 170 8 = st 170 8 := fs47 170 8 rfl rfl
      have e122 : s47 170 46 = st 170 46 := fs47 170 46 rfl rfl
      have e123 : s47 170 43 = st 170 43 := fs47 170 43 rfl rfl
      have e124 : s47 170 34 = ((st 170 34) + 1) := fs47 170 34 rfl rfl
      have e125 : s47 170 45 = st 170 45 := fs47 170 45 rfl rfl
      have e126 : s47 170 42 = st 170 42 := fs47 170 42 rfl rfl
      exact hQ _ _ ⟨gs47, (fr_tr (fr_f (fr_a (fr_a (fr_a (fr_rf _ _) rfl) rfl) rfl) rfl) fs47 rfl), (Z9_tr (Z9_up (Z9_st (Z9_up (Z9_up (Z9_rf _) (by decide)) (by decide)) (b := st 170 35) rfl (by omega)) (by decide)) ((show aFr m_rOp79 st (zup (zup (zup (zup st 194 ((st 170 42) - 1 : Int).toNat 0) 188 ((1600 : Int) * (st 170 35) + (st 170 34) : Int).toNat (9)) 189 ((1600 : Int) * (st 170 35) + (st 170 34) : Int).toNat (st 170 6)) 170 34 ((st 170 34) + 1)) from (fr_f (fr_a (fr_a (fr_a (fr_rf _ _) rfl) rfl) rfl) rfl)) 170 35 rfl rfl) (Z9_fr fs47 (fun _ => rfl) rfl)), (show (1 : Int) = 1 ∧ mcP t n s47 ((k, ph, 0, pr, w) :: fs) 0 (o) (c ++ [9]) (e) from (by
            have hp : s47 170 4 = e := NXr_e (st := (zup (zup (zup (zup st 194 ((st 170 42) - 1 : Int).toNat 0) 188 ((1600 : Int) * (st 170 35) + (st 170 34) : Int).toNat (9)) 189 ((1600 : Int) * (st 170 35) + (st 170 34) : Int).toNat (st 170 6)) 170 34 ((st 170 34) + 1))) (show NXr (zup (zup (zup (zup st 194 ((st 170 42) - 1 : Int).toNat 0) 188 ((1600 : Int) * (st 170 35) + (st 170 34) : Int).toNat (9)) 189 ((1600 : Int) * (st 170 35) + (st 170 34) : Int).toNat (st 170 6)) 170 34 ((st 170 34) + 1)) s47 t n from nx47) (show tk t n ((zup (zup (zup (zup st 194 ((st 170 42) - 1 : Int).toNat 0) 188 ((1600 : Int) * (st 170 35) + (st 170 34) : Int).toNat (9)) 189 ((1600 : Int) * (st 170 35) + (st 170 34) : Int).toNat (st 170 6)) 170 34 ((st 170 34) + 1)) 170 4) _ _ e from by rw [show (zup (zup (zup (zup st 194 ((st 170 42) - 1 : Int).toNat 0) 188 ((1600 : Int) * (st 170 35) + (st 170 34) : Int).toNat (9)) 189 ((1600 : Int) * (st 170 35) + (st 170 34) : Int).toNat (st 170 6)) 170 34 ((st 170 34) + 1)) 170 4 = p from mpp]; exact ht.1) (by omega)
            have hl := tk_lt ht.1 (show 0 ≤ p from by rw [← mpp]; exact mrd.2.1.1) (by omega)
            exact ⟨rfl, ⟨by omega, by omega, by omega, hp, rd47, mcQ_of (fun i => fs47 192 i rfl rfl) (fun i => fs47 193 i rfl rfl) (fun i => fs47 194 i rfl rfl) (fun i => fs47 195 i rfl rfl) (fun i => fs47 196 i rfl rfl) (fun i => fs47 197 i rfl rfl) (fs47 170 42 rfl rfl) (fs47 170 45 rfl rfl) (fs47 170 35 rfl rfl) (fs47 170 34 rfl rfl) (fun i => fs47 188 i rfl rfl) (fun i => fs47 189 i rfl rfl) (show mcQ (zup (zup (zup (zup st 194 ((st 170 42) - 1 : Int).toNat 0) 188 ((1600 : Int) * (st 170 35) + (st 170 34) : Int).toNat (9)) 189 ((1600 : Int) * (st 170 35) + (st 170 34) : Int).toNat (st 170 6)) 170 34 ((st 170 34) + 1)) ((k, ph, 0, pr, w) :: fs) (c ++ [9]) from ⟨FR_bg 0 mb.2.1 mfr, WB_c ml (WB_el mwb) (WB_tl mwb), CDr_add (b := st 170 35) (n := st 170 34) (by omega) mcd (by omega) (fun h => by omega)⟩), by omega, by omega, by omega, by rw [List.length_cons]; omega⟩⟩))⟩
    · refine ⟨fun h127 => absurd h127 (by decide), fun h127 => ?_⟩
      refine ⟨rfl, fun r48 q48 => ?_⟩
      have b48 := q48
      change (r48 = 0 ∨ r48 = 1) ∧ (r48 = 1 ↔ st 170 3 = 1 ∧ st 170 7 = (7237492)) at b48
      refine ⟨fun h128 => ?_, fun h128 => (by exfalso; clear hQ; omega)⟩
      clear h128 b48
      refine ⟨by omega, ?_⟩
      refine ⟨by omega, ?_⟩
      refine ⟨fun h129 => absurd h129 (by decide), fun h129 => ?_⟩
      refine ⟨rfl, fun r49 q49 => ?_⟩
      have b49 := q49
      change (r49 = 0 ∨ r49 = 1) ∧ (r49 = 1 ↔ st 170 3 = 3 ∧ st 170 6 = (91)) at b49
      refine ⟨fun h130 => ?_, fun h130 => (by exfalso; clear hQ; omega)⟩
      clear h130 b49
      refine ⟨fun h131 => absurd h131 (by decide), fun h131 => ?_⟩
      refine ⟨rfl, fun r50 q50 => ?_⟩
      have b50 := q50
      change (r50 = 0 ∨ r50 = 1) ∧ (r50 = 1 ↔ st 170 3 = 1 ∧ st 170 7 = (6384748)) at b50
      refine ⟨fun h132 => ?_, fun h132 => (by exfalso; clear hQ; omega)⟩
      clear h132 b50
      refine ⟨rfl, fun r51 q51 => ?_⟩
      have b51 := q51
      change (r51 = 0 ∨ r51 = 1) ∧ (r51 = 1 ↔ st 170 3 = 3 ∧ st 170 6 = (40)) at b51
      refine ⟨fun h133 => ?_, fun h133 => (by exfalso; clear hQ; omega)⟩
      clear h133 b51
      refine ⟨rfl, fun r52 q52 => ?_⟩
      have b52 := q52
      change (r52 = 0 ∨ r52 = 1) ∧ (r52 = 1 ↔ st 170 3 = 1 ∧ st 170 7 = (7170414)) at b52
      refine ⟨fun h134 => (by exfalso; clear hQ; omega), fun h134 => ?_⟩
      clear h134 b52
      refine ⟨rfl, fun r53 q53 => ?_⟩
      have b53 := q53
      change (r53 = 0 ∨ r53 = 1) ∧ (r53 = 1 ↔ st 170 3 = 1 ∧ st 170 7 = (7168376)) at b53
      refine ⟨fun h135 => (by exfalso; clear hQ; omega), fun h135 => ?_⟩
      clear h135 b53
      refine ⟨rfl, fun r54 q54 => ?_⟩
      have b54 := q54
      change (r54 = 0 ∨ r54 = 1) ∧ (r54 = 1 ↔ st 170 3 = 1 ∧ st 170 7 = (26982)) at b54
      refine ⟨fun h136 => ?_, fun h136 => (by exfalso; clear hQ; omega)⟩
      clear h136 b54
      refine ⟨fun h137 => ?_, fun h137 => (by exfalso; omega)⟩
      refine ⟨rfl, fun r55 q55 => ?_⟩
      have b55 := q55
      change (r55 = 0 ∨ r55 = 1) ∧ (r55 = 1 ↔ st 170 3 = 1 ∧ st 170 7 = (1751474548)) at b55
      refine ⟨fun h138 => ?_, fun h138 => (by exfalso; clear hQ; omega)⟩
      clear h138 b55
      refine ⟨rfl, fun r56 q56 => ?_⟩
      have b56 := q56
      change (r56 = 0 ∨ r56 = 1) ∧ (r56 = 1 ↔ st 170 3 = 1 ∧ st 170 7 = (2036687218)) at b56
      refine ⟨fun h139 => ?_, fun h139 => (by exfalso; clear hQ; omega)⟩
      clear h139 b56
      refine ⟨rfl, fun r57 q57 => ?_⟩
      have b57 := q57
      change (r57 = 0 ∨ r57 = 1) ∧ (r57 = 1 ↔ st 170 3 = 1 ∧ st 170 7 = (1953459300)) at b57
      refine ⟨fun h140 => ?_, fun h140 => (by exfalso; clear hQ; omega)⟩
      clear h140 b57
      refine ⟨rfl, fun r58 q58 => ?_⟩
      have b58 := q58
      change (r58 = 0 ∨ r58 = 1) ∧ (r58 = 1 ↔ st 170 3 = 1 ∧ st 170 7 = (1886743660)) at b58
      refine ⟨fun h141 => ?_, fun h141 => (by exfalso; clear hQ; omega)⟩
      clear h141 b58
      refine ⟨rfl, fun r59 q59 => ?_⟩
      have b59 := q59
      change (r59 = 0 ∨ r59 = 1) ∧ (r59 = 1 ↔ st 170 3 = 1 ∧ st 170 7 = (1937007984)) at b59
      refine ⟨fun h142 => ?_, fun h142 => (by exfalso; clear hQ; omega)⟩
      clear h142 b59
      refine ⟨rfl, fun r60 q60 => ?_⟩
      have b60 := q60
      change (r60 = 0 ∨ r60 = 1) ∧ (r60 = 1 ↔ st 170 3 = 1 ∧ st 170 7 = (1650812270)) at b60
      refine ⟨fun h143 => ?_, fun h143 => (by exfalso; clear hQ; omega)⟩
      clear h143 b60
      refine ⟨rfl, fun r61 q61 => ?_⟩
      have b61 := q61
      change (r61 = 0 ∨ r61 = 1) ∧ (r61 = 1 ↔ st 170 3 = 1 ∧ st 170 7 = (495874044019)) at b61
      refine ⟨fun h144 => ?_, fun h144 => (by exfalso; clear hQ; omega)⟩
      clear h144 b61
      refine ⟨rfl, fun r62 q62 => ?_⟩
      have b62 := q62
      change (r62 = 0 ∨ r62 = 1) ∧ (r62 = 1 ↔ st 170 3 = 1 ∧ st 170 7 = (1953066341)) at b62
      refine ⟨fun h145 => ?_, fun h145 => (by exfalso; clear hQ; omega)⟩
      clear h145 b62
      refine ⟨rfl, fun r63 q63 => ?_⟩
      have b63 := q63
      change (r63 = 0 ∨ r63 = 1) ∧ (r63 = 1 ↔ st 170 3 = 1 ∧ st 170 7 = (465726042227)) at b63
      refine ⟨fun h146 => (by exfalso; clear hQ; omega), fun h146 => ?_⟩
      clear h146 b63
      refine ⟨fun h147 => absurd h147 (by decide), fun h147 => ?_⟩
      refine ⟨fun h148 => absurd h148 (by decide), fun h148 => ?_⟩
      refine ⟨fun h149 => ?_, fun h149 => (by exfalso; omega)⟩
      refine ⟨fun h150 => ?_, fun h150 => absurd (by decide) h150⟩
      refine ⟨fun h151 => ?_, fun h151 => (by exfalso; omega)⟩
      refine ⟨rfl, ⟨(gInv_up hG (p_begins (by omega))), (show st 170 34 ≤ 1599 from by omega)⟩, ?_⟩
      refine ⟨rfl, ⟨(gInv_up (gInv_up (gInv_up (gInv_up hG (p_begins (by omega))) (p_codeSort (by omega))) (p_codeValue (by omega))) (p_codes (by omega))), (show RDr (zup (zup (zup (zup st 194 ((st 170 42) - 1 : Int).toNat 0) 188 ((1600 : Int) * (st 170 35) + (st 170 34) : Int).toNat (9)) 189 ((1600 : Int) * (st 170 35) + (st 170 34) : Int).toNat (st 170 6)) 170 34 ((st 170 34) + 1)) t n from (show RDr (zup (zup (zup (zup st 194 ((st 170 42) - 1 : Int).toNat 0) 188 ((1600 : Int) * (st 170 35) + (st 170 34) : Int).toNat (9)) 189 ((1600 : Int) * (st 170 35) + (st 170 34) : Int).toNat (st 170 6)) 170 34 ((st 170 34) + 1)) t n from mrd)), (show st 170 12 = -1 from by omega)⟩, fun s65 q65 => ?_⟩
      obtain ⟨gs65, fs65, rd65, nx65⟩ := q65
      change RDr s65 t n at rd65
      change NXr (zup (zup (zup (zup st 194 ((st 170 42) - 1 : Int).toNat 0) 188 ((1600 : Int) * (st 170 35) + (st 170 34) : Int).toNat (9)) 189 ((1600 : Int) * (st 170 35) + (st 170 34) : Int).toNat (st 170 6)) 170 34 ((st 170 34) + 1)) s65 t n at nx65
      refine ⟨by omega, ?_⟩
      have e152 : s65 170 8 = st 170 8 := fs65 170 8 rfl rfl
      have e153 : s65 170 46 = st 170 46 := fs65 170 46 rfl rfl
      have e154 : s65 170 43 = st 170 43 := fs65 170 43 rfl rfl
      have e155 : s65 170 34 = ((st 170 34) + 1) := fs65 170 34 rfl rfl
      have e156 : s65 170 45 = st 170 45 := fs65 170 45 rfl rfl
      have e157 : s65 170 42 = st 170 42 := fs65 170 42 rfl rfl
      exact hQ _ _ ⟨gs65, (fr_tr (fr_f (fr_a (fr_a (fr_a (fr_rf _ _) rfl) rfl) rfl) rfl) fs65 rfl), (Z9_tr (Z9_up (Z9_st (Z9_up (Z9_up (Z9_rf _) (by decide)) (by decide)) (b := st 170 35) rfl (by omega)) (by decide)) ((show aFr m_rOp79 st (zup (zup (zup (zup st 194 ((st 170 42) - 1 : Int).toNat 0) 188 ((1600 : Int) * (st 170 35) + (st 170 34) : Int).toNat (9)) 189 ((1600 : Int) * (st 170 35) + (st 170 34) : Int).toNat (st 170 6)) 170 34 ((st 170 34) + 1)) from (fr_f (fr_a (fr_a (fr_a (fr_rf _ _) rfl) rfl) rfl) rfl)) 170 35 rfl rfl) (Z9_fr fs65 (fun _ => rfl) rfl)), (show (1 : Int) = 1 ∧ mcP t n s65 ((k, ph, 0, pr, w) :: fs) 0 (o) (c ++ [9]) (e) from (by
            have hp : s65 170 4 = e := NXr_e (st := (zup (zup (zup (zup st 194 ((st 170 42) - 1 : Int).toNat 0) 188 ((1600 : Int) * (st 170 35) + (st 170 34) : Int).toNat (9)) 189 ((1600 : Int) * (st 170 35) + (st 170 34) : Int).toNat (st 170 6)) 170 34 ((st 170 34) + 1))) (show NXr (zup (zup (zup (zup st 194 ((st 170 42) - 1 : Int).toNat 0) 188 ((1600 : Int) * (st 170 35) + (st 170 34) : Int).toNat (9)) 189 ((1600 : Int) * (st 170 35) + (st 170 34) : Int).toNat (st 170 6)) 170 34 ((st 170 34) + 1)) s65 t n from nx65) (show tk t n ((zup (zup (zup (zup st 194 ((st 170 42) - 1 : Int).toNat 0) 188 ((1600 : Int) * (st 170 35) + (st 170 34) : Int).toNat (9)) 189 ((1600 : Int) * (st 170 35) + (st 170 34) : Int).toNat (st 170 6)) 170 34 ((st 170 34) + 1)) 170 4) _ _ e from by rw [show (zup (zup (zup (zup st 194 ((st 170 42) - 1 : Int).toNat 0) 188 ((1600 : Int) * (st 170 35) + (st 170 34) : Int).toNat (9)) 189 ((1600 : Int) * (st 170 35) + (st 170 34) : Int).toNat (st 170 6)) 170 34 ((st 170 34) + 1)) 170 4 = p from mpp]; exact ht.1) (by omega)
            have hl := tk_lt ht.1 (show 0 ≤ p from by rw [← mpp]; exact mrd.2.1.1) (by omega)
            exact ⟨rfl, ⟨by omega, by omega, by omega, hp, rd65, mcQ_of (fun i => fs65 192 i rfl rfl) (fun i => fs65 193 i rfl rfl) (fun i => fs65 194 i rfl rfl) (fun i => fs65 195 i rfl rfl) (fun i => fs65 196 i rfl rfl) (fun i => fs65 197 i rfl rfl) (fs65 170 42 rfl rfl) (fs65 170 45 rfl rfl) (fs65 170 35 rfl rfl) (fs65 170 34 rfl rfl) (fun i => fs65 188 i rfl rfl) (fun i => fs65 189 i rfl rfl) (show mcQ (zup (zup (zup (zup st 194 ((st 170 42) - 1 : Int).toNat 0) 188 ((1600 : Int) * (st 170 35) + (st 170 34) : Int).toNat (9)) 189 ((1600 : Int) * (st 170 35) + (st 170 34) : Int).toNat (st 170 6)) 170 34 ((st 170 34) + 1)) ((k, ph, 0, pr, w) :: fs) (c ++ [9]) from ⟨FR_bg 0 mb.2.1 mfr, WB_c ml (WB_el mwb) (WB_tl mwb), CDr_add (b := st 170 35) (n := st 170 34) (by omega) mcd (by omega) (fun h => by omega)⟩), by omega, by omega, by omega, by rw [List.length_cons]; omega⟩⟩))⟩
theorem k_rOp79_m (hTb : aTb zSh rx_tb cl) {t : Int → Int} {n k ph bg pr o p e : Int} {w c : List Int} {fs : List mFr} {D : Nat} (hD : 4 ≤ D) : ∀ as st (Q Q' : zQ), (∀ r st', Q r st' → Q' r st') → (k_rOp79 t n k ph bg pr o p e w c fs) 196 as st Q → cl D 196 as st Q' := by
  intro as st Q Q' hQ h
  unfold k_rOp79 at h
  split at h
  · obtain ⟨rfl, h⟩ := h
    exact c_rOp79 hTb hD (ct_rOp79_m hQ h)
  · exact h.elim
set_option maxHeartbeats 4000000 in
set_option maxRecDepth 100000 in
theorem c_rOp2 (hTb : aTb zSh rx_tb cl) {t : Int → Int} {n k ph bg pr o p e : Int} {w c : List Int} {fs : List mFr} {D : Nat} (hD : 4 ≤ D) {st : zS} {Q : zQ} (h : ct_rOp2 t n k ph bg pr o p e w c fs st Q) : cl D 196 [.inr (.inr (.inl 170))] st Q := by
  obtain ⟨d, rfl⟩ : ∃ d, D = d + 1 := ⟨D - 1, by omega⟩
  refine hTb d 196 (rx_m196, 4, 0, 0, 2) rfl _ _ _ (Nat.le_of_ble_eq_true rfl) (fun K hcl hsf hsl => ?_)
  have hcm : zmo (wcL [(181, k_rLex), (195, k_isTest), (183, k_isWord), (182, k_isSign), (149, k_rNext t n), (189, k_add), (192, k_holdsBack), (194, k_rOpens t n)]) (cl d) := (wcL_m (wm_cons (k_rLex_m hTb (by omega)) (wm_cons (k_isTest_m hTb (by omega)) (wm_cons (k_isWord_m hTb (by omega)) (wm_cons (k_isSign_m hTb (by omega)) (wm_cons (k_rNext_m hTb (by omega)) (wm_cons (k_add_m hTb (by omega)) (wm_cons (k_holdsBack_m hTb (by omega)) (wm_cons (k_rOpens_m hTb (by omega)) wm_nil)))))))))
  obtain ⟨hR, hQ⟩ := h
  obtain ⟨hG, mp, ht⟩ := hR
  change mcP t n st ((k, ph, bg, pr, w) :: fs) 0 (o) (c) (p) at mp
  change isT k ∧ bg = 1 ∧ tk t n p 3 91 e ∧ o < 7 ∧ fs.length ≤ 7 at ht
  obtain ⟨mf, mo, mn, mpp, mrd, mq, mbd, mz1, mz2, mz3⟩ := mp
  rw [List.length_cons] at mz3
  have mq0 := mq
  obtain ⟨mfr, mwb, mcd⟩ := mq
  have mt := FR_top mfr
  have mb := FR_bnd _ _ _ mwb mfr
  rw [List.length_cons] at mb
  have ml := WB_hd mwb
  have mcl := mcd.1
  have mlw := FR_len mb.2.1 mfr
  have tf := r_sig mrd (by rw [mpp]; exact ht.2.2.1)
  have tkT : k = 1 ∨ k = 5 ∨ k = 6 := ht.1
  have g1 := g_codes hG
  have g2 := g_in hG
  have g3 := g_isClever hG
  have g4 := g_deep hG
  have g5 := g_open hG
  have g6 := g_opMany hG
  have g7 := g_signAt hG
  have g8 := g_signEnd hG
  have g9 := g_faultKind hG
  have g10 := g_size hG
  have g11 := g_sign hG
  have g12 := g_lexAt hG
  have g13 := g_value hG
  have g14 := g_word hG
  have g15 := g_operand hG
  refine yr1_ok (Rt := Q) (wc := (wcL [(181, k_rLex), (195, k_isTest), (183, k_isWord), (182, k_isSign), (149, k_rNext t n), (189, k_add), (192, k_holdsBack), (194, k_rOpens t n)])) (stp := []) hcm hcl [] 400 ?_
  show (170 = 170 ∧ (rq_rLex  st ∧ (((st 170 8 ≤ (0 : Int) → ((-2147483648 ≤ (st 170 42) - 1 ∧ (st 170 42) - 1 ≤ 2147483647) ∧ ((0 ≤ (st 170 42) - 1 ∧ (st 170 42) - 1 < 20) ∧ (∀ (r17 : Int), en_isTest (st 192 ((st 170 42) - 1 : Int).toNat) st r17 → ((r17 = (0 : Int) → _) ∧ (¬ (r17 = (0 : Int)) → ((0 ≤ (st 170 42) - 1 ∧ (st 170 42) - 1 < 20) ∧ ((st 194 ((st 170 42) - 1 : Int).toNat = (0 : Int) → _) ∧ (¬ (st 194 ((st 170 42) - 1 : Int).toNat = (0 : Int)) → (((1 : Int) = (0 : Int) → _) ∧ (¬ ((1 : Int) = (0 : Int)) → (170 = 170 ∧ (∀ (r18 : Int), en_isWord (7237492) st r18 → ((r18 = (0 : Int) → ((0 ≤ (st 170 42) - 1 ∧ (st 170 42) - 1 < 20) ∧ ((0 = (0 : Int) ∨ 0 = (1 : Int)) ∧ (((1 : Int) = (0 : Int) → _) ∧ (¬ ((1 : Int) = (0 : Int)) → (170 = 170 ∧ (∀ (r19 : Int), en_isSign (91) (zup st 194 ((st 170 42) - 1 : Int).toNat 0) r19 → ((r19 = (0 : Int) → _) ∧ (¬ (r19 = (0 : Int)) → (170 = 170 ∧ (rq_rOpens t n (5) (zup st 194 ((st 170 42) - 1 : Int).toNat 0) ∧ (∀ (s20 : zS), en_rOpens t n (5) (zup st 194 ((st 170 42) - 1 : Int).toNat 0) s20 → ((0 = (0 : Int) ∨ 0 = (1 : Int)) ∧ Q (some (.inl 0)) s20))))))))))))) ∧ (¬ (r18 = (0 : Int)) → _))))))))))))))) ∧ (¬ (st 170 8 ≤ (0 : Int)) → _)))))
  refine ⟨rfl, ⟨hG, (show st 170 12 = -1 from by omega)⟩, ?_⟩
  refine ⟨fun h21 => ?_, fun h21 => (by exfalso; omega)⟩
  refine ⟨by omega, ?_⟩
  have g22 := g_frame hG ((st 170 42) - 1 : Int).toNat
  refine ⟨by omega, ?_⟩
  refine fun r17 q17 => ?_
  have b17 := q17
  change (r17 = 0 ∨ r17 = 1) ∧ (r17 = 1 ↔ (st 192 ((st 170 42) - 1 : Int).toNat) = 1 ∨ (st 192 ((st 170 42) - 1 : Int).toNat) = 5 ∨ (st 192 ((st 170 42) - 1 : Int).toNat) = 6) at b17
  refine ⟨fun h23 => (by exfalso; clear hQ; omega), fun h23 => ?_⟩
  clear h23 b17
  have g24 := g_begins hG ((st 170 42) - 1 : Int).toNat
  refine ⟨by omega, ?_⟩
  refine ⟨fun h25 => (by exfalso; omega), fun h25 => ?_⟩
  refine ⟨fun h26 => absurd h26 (by decide), fun h26 => ?_⟩
  refine ⟨rfl, fun r18 q18 => ?_⟩
  have b18 := q18
  change (r18 = 0 ∨ r18 = 1) ∧ (r18 = 1 ↔ st 170 3 = 1 ∧ st 170 7 = (7237492)) at b18
  refine ⟨fun h27 => ?_, fun h27 => (by exfalso; clear hQ; omega)⟩
  clear h27 b18
  refine ⟨by omega, ?_⟩
  refine ⟨by omega, ?_⟩
  refine ⟨fun h28 => absurd h28 (by decide), fun h28 => ?_⟩
  refine ⟨rfl, fun r19 q19 => ?_⟩
  have b19 := q19
  change (r19 = 0 ∨ r19 = 1) ∧ (r19 = 1 ↔ st 170 3 = 3 ∧ st 170 6 = (91)) at b19
  refine ⟨fun h29 => (by exfalso; clear hQ; omega), fun h29 => ?_⟩
  clear h29 b19
  refine ⟨rfl, ⟨(gInv_up hG (p_begins (by omega))), (show RDr (zup st 194 ((st 170 42) - 1 : Int).toNat 0) t n from (show RDr (zup st 194 ((st 170 42) - 1 : Int).toNat 0) t n from mrd)), (show st 170 12 = -1 ∧ st 170 8 = 0 ∧ 0 ≤ st 170 43 ∧ st 170 43 < 7 ∧ 0 ≤ st 170 42 ∧ st 170 42 ≤ 18 ∧ 0 ≤ st 170 45 ∧ st 170 45 ≤ 499 ∧ 0 ≤ (5) ∧ (5) ≤ 6 from by omega)⟩, fun s20 q20 => ?_⟩
  obtain ⟨gs20, fs20, rd20, nx20, d20, u19220, u19320, u19420, u19620⟩ := q20
  change RDr s20 t n at rd20
  change NXr (zup st 194 ((st 170 42) - 1 : Int).toNat 0) s20 t n at nx20
  change s20 170 42 = st 170 42 + 1 ∧ s20 170 43 = st 170 43 + 1 at d20
  have g30 := g_deep gs20
  have g31 := g_open gs20
  change (s20 192) = up1 (st 192) (st 170 42).toNat (5) at u19220
  change (s20 193) = up1 (st 193) (st 170 42).toNat 0 at u19320
  change (s20 194) = up1 (up1 (st 194) ((st 170 42) - 1 : Int).toNat 0) (st 170 42).toNat 1 at u19420
  change (s20 196) = up1 (st 196) (st 170 42).toNat (st 170 45) at u19620
  refine ⟨by omega, ?_⟩
  have e32 : s20 170 8 = st 170 8 := fs20 170 8 rfl rfl
  have e33 : s20 170 46 = st 170 46 := fs20 170 46 rfl rfl
  have e34 : s20 170 34 = st 170 34 := fs20 170 34 rfl rfl
  have e35 : s20 170 45 = st 170 45 := fs20 170 45 rfl rfl
  exact hQ _ _ ⟨gs20, (fr_tr (fr_a (fr_rf _ _) rfl) fs20 rfl), (Z9_tr (Z9_up (Z9_rf _) (by decide)) ((show aFr m_rOp2 st (zup st 194 ((st 170 42) - 1 : Int).toNat 0) from (fr_a (fr_rf _ _) rfl)) 170 35 rfl rfl) (Z9_fr fs20 (fun _ => rfl) rfl)), (show (0 : Int) = 0 ∧ ∃ rr : Int, mcP t n s20 ((5, 0, 1, rr, []) :: (k, ph, 0, pr, w) :: fs) 0 (o + 1) (c) (e) from (by
            have hp : s20 170 4 = e := NXr_e (st := (zup st 194 ((st 170 42) - 1 : Int).toNat 0)) (show NXr (zup st 194 ((st 170 42) - 1 : Int).toNat 0) s20 t n from nx20) (show tk t n ((zup st 194 ((st 170 42) - 1 : Int).toNat 0) 170 4) _ _ e from by rw [show (zup st 194 ((st 170 42) - 1 : Int).toNat 0) 170 4 = p from mpp]; exact ht.2.2.1) (by omega)
            have hl := tk_lt ht.2.2.1 (show 0 ≤ p from by rw [← mpp]; exact mrd.2.1.1) (by omega)
            refine ⟨rfl, st 195 (st 170 42).toNat, by omega, by omega, by omega, hp, rd20, ⟨?_, WB_c (by rw [List.length_nil]; omega) (fun x hx => by cases hx) (WB_c ml (WB_el mwb) (WB_tl mwb)), ?_⟩, by omega, by omega, by omega, by rw [List.length_cons, List.length_cons]; omega⟩
            · exact (by
                have q := FR_push (fs := (k, ph, 0, pr, w) :: fs) 5 mb.2.1 (show 0 ≤ st 170 42 from by omega) (FR_bg 0 mb.2.1 mfr)
                rw [u19220, u19320, u19420, u19620, d20.1, show s20 170 45 = st 170 45 from fs20 170 45 rfl rfl, show s20 195 = st 195 from funext (fun i => fs20 195 i rfl rfl), show s20 197 = st 197 from funext (fun i => fs20 197 i rfl rfl)]
                exact q)
            · rw [show s20 170 35 = st 170 35 from fs20 170 35 rfl rfl, show s20 170 34 = st 170 34 from fs20 170 34 rfl rfl, show s20 188 = st 188 from funext (fun i => fs20 188 i rfl rfl), show s20 189 = st 189 from funext (fun i => fs20 189 i rfl rfl)]
              exact mcd))⟩
theorem k_rOp2_m (hTb : aTb zSh rx_tb cl) {t : Int → Int} {n k ph bg pr o p e : Int} {w c : List Int} {fs : List mFr} {D : Nat} (hD : 4 ≤ D) : ∀ as st (Q Q' : zQ), (∀ r st', Q r st' → Q' r st') → (k_rOp2 t n k ph bg pr o p e w c fs) 196 as st Q → cl D 196 as st Q' := by
  intro as st Q Q' hQ h
  unfold k_rOp2 at h
  split at h
  · obtain ⟨rfl, h⟩ := h
    exact c_rOp2 hTb hD (ct_rOp2_m hQ h)
  · exact h.elim
set_option maxHeartbeats 4000000 in
set_option maxRecDepth 100000 in
theorem c_rOp4 (hTb : aTb zSh rx_tb cl) {t : Int → Int} {n k ph bg pr o p e : Int} {w c : List Int} {fs : List mFr} {D : Nat} (hD : 4 ≤ D) {st : zS} {Q : zQ} (h : ct_rOp4 t n k ph bg pr o p e w c fs st Q) : cl D 196 [.inr (.inr (.inl 170))] st Q := by
  obtain ⟨d, rfl⟩ : ∃ d, D = d + 1 := ⟨D - 1, by omega⟩
  refine hTb d 196 (rx_m196, 4, 0, 0, 2) rfl _ _ _ (Nat.le_of_ble_eq_true rfl) (fun K hcl hsf hsl => ?_)
  have hcm : zmo (wcL [(181, k_rLex), (195, k_isTest), (183, k_isWord), (182, k_isSign), (149, k_rNext t n), (189, k_add), (192, k_holdsBack), (194, k_rOpens t n)]) (cl d) := (wcL_m (wm_cons (k_rLex_m hTb (by omega)) (wm_cons (k_isTest_m hTb (by omega)) (wm_cons (k_isWord_m hTb (by omega)) (wm_cons (k_isSign_m hTb (by omega)) (wm_cons (k_rNext_m hTb (by omega)) (wm_cons (k_add_m hTb (by omega)) (wm_cons (k_holdsBack_m hTb (by omega)) (wm_cons (k_rOpens_m hTb (by omega)) wm_nil)))))))))
  obtain ⟨hR, hQ⟩ := h
  obtain ⟨hG, mp, ht⟩ := hR
  change mcP t n st ((k, ph, bg, pr, w) :: fs) 0 (o) (c) (p) at mp
  change tk t n p 3 40 e ∧ o < 7 ∧ fs.length ≤ 7 at ht
  obtain ⟨mf, mo, mn, mpp, mrd, mq, mbd, mz1, mz2, mz3⟩ := mp
  rw [List.length_cons] at mz3
  have mq0 := mq
  obtain ⟨mfr, mwb, mcd⟩ := mq
  have mt := FR_top mfr
  have mb := FR_bnd _ _ _ mwb mfr
  rw [List.length_cons] at mb
  have ml := WB_hd mwb
  have mcl := mcd.1
  have mlw := FR_len mb.2.1 mfr
  have tf := r_sig mrd (by rw [mpp]; exact ht.1)
  have g1 := g_codes hG
  have g2 := g_in hG
  have g3 := g_isClever hG
  have g4 := g_deep hG
  have g5 := g_open hG
  have g6 := g_opMany hG
  have g7 := g_signAt hG
  have g8 := g_signEnd hG
  have g9 := g_faultKind hG
  have g10 := g_size hG
  have g11 := g_sign hG
  have g12 := g_lexAt hG
  have g13 := g_value hG
  have g14 := g_word hG
  have g15 := g_operand hG
  refine yr1_ok (Rt := Q) (wc := (wcL [(181, k_rLex), (195, k_isTest), (183, k_isWord), (182, k_isSign), (149, k_rNext t n), (189, k_add), (192, k_holdsBack), (194, k_rOpens t n)])) (stp := []) hcm hcl [] 400 ?_
  show (170 = 170 ∧ (rq_rLex  st ∧ (((st 170 8 ≤ (0 : Int) → ((-2147483648 ≤ (st 170 42) - 1 ∧ (st 170 42) - 1 ≤ 2147483647) ∧ ((0 ≤ (st 170 42) - 1 ∧ (st 170 42) - 1 < 20) ∧ (∀ (r17 : Int), en_isTest (st 192 ((st 170 42) - 1 : Int).toNat) st r17 → ((r17 = (0 : Int) → (((0 : Int) = (0 : Int) → ((0 ≤ (st 170 42) - 1 ∧ (st 170 42) - 1 < 20) ∧ ((0 = (0 : Int) ∨ 0 = (1 : Int)) ∧ (((0 : Int) = (0 : Int) → (((0 : Int) = (0 : Int) → (170 = 170 ∧ (∀ (r18 : Int), en_isSign (40) (zup st 194 ((st 170 42) - 1 : Int).toNat 0) r18 → ((r18 = (0 : Int) → _) ∧ (¬ (r18 = (0 : Int)) → (170 = 170 ∧ (rq_rOpens t n (2) (zup st 194 ((st 170 42) - 1 : Int).toNat 0) ∧ (∀ (s19 : zS), en_rOpens t n (2) (zup st 194 ((st 170 42) - 1 : Int).toNat 0) s19 → ((0 = (0 : Int) ∨ 0 = (1 : Int)) ∧ Q (some (.inl 0)) s19))))))))) ∧ (¬ ((0 : Int) = (0 : Int)) → _))) ∧ (¬ ((0 : Int) = (0 : Int)) → _))))) ∧ (¬ ((0 : Int) = (0 : Int)) → _))) ∧ (¬ (r17 = (0 : Int)) → ((0 ≤ (st 170 42) - 1 ∧ (st 170 42) - 1 < 20) ∧ ((st 194 ((st 170 42) - 1 : Int).toNat = (0 : Int) → (((0 : Int) = (0 : Int) → ((0 ≤ (st 170 42) - 1 ∧ (st 170 42) - 1 < 20) ∧ ((0 = (0 : Int) ∨ 0 = (1 : Int)) ∧ (((0 : Int) = (0 : Int) → (((0 : Int) = (0 : Int) → (170 = 170 ∧ (∀ (r20 : Int), en_isSign (40) (zup st 194 ((st 170 42) - 1 : Int).toNat 0) r20 → ((r20 = (0 : Int) → _) ∧ (¬ (r20 = (0 : Int)) → (170 = 170 ∧ (rq_rOpens t n (2) (zup st 194 ((st 170 42) - 1 : Int).toNat 0) ∧ (∀ (s21 : zS), en_rOpens t n (2) (zup st 194 ((st 170 42) - 1 : Int).toNat 0) s21 → ((0 = (0 : Int) ∨ 0 = (1 : Int)) ∧ Q (some (.inl 0)) s21))))))))) ∧ (¬ ((0 : Int) = (0 : Int)) → _))) ∧ (¬ ((0 : Int) = (0 : Int)) → _))))) ∧ (¬ ((0 : Int) = (0 : Int)) → _))) ∧ (¬ (st 194 ((st 170 42) - 1 : Int).toNat = (0 : Int)) → (((1 : Int) = (0 : Int) → _) ∧ (¬ ((1 : Int) = (0 : Int)) → (170 = 170 ∧ (∀ (r22 : Int), en_isWord (7237492) st r22 → ((r22 = (0 : Int) → ((0 ≤ (st 170 42) - 1 ∧ (st 170 42) - 1 < 20) ∧ ((0 = (0 : Int) ∨ 0 = (1 : Int)) ∧ (((1 : Int) = (0 : Int) → _) ∧ (¬ ((1 : Int) = (0 : Int)) → (170 = 170 ∧ (∀ (r23 : Int), en_isSign (91) (zup st 194 ((st 170 42) - 1 : Int).toNat 0) r23 → ((r23 = (0 : Int) → (((1 : Int) = (0 : Int) → _) ∧ (¬ ((1 : Int) = (0 : Int)) → (170 = 170 ∧ (∀ (r24 : Int), en_isWord (6384748) (zup st 194 ((st 170 42) - 1 : Int).toNat 0) r24 → ((r24 = (0 : Int) → (170 = 170 ∧ (∀ (r25 : Int), en_isSign (40) (zup st 194 ((st 170 42) - 1 : Int).toNat 0) r25 → ((r25 = (0 : Int) → _) ∧ (¬ (r25 = (0 : Int)) → (170 = 170 ∧ (rq_rOpens t n (2) (zup st 194 ((st 170 42) - 1 : Int).toNat 0) ∧ (∀ (s26 : zS), en_rOpens t n (2) (zup st 194 ((st 170 42) - 1 : Int).toNat 0) s26 → ((0 = (0 : Int) ∨ 0 = (1 : Int)) ∧ Q (some (.inl 0)) s26))))))))) ∧ (¬ (r24 = (0 : Int)) → _))))))) ∧ (¬ (r23 = (0 : Int)) → _))))))))) ∧ (¬ (r22 = (0 : Int)) → _))))))))))))))) ∧ (¬ (st 170 8 ≤ (0 : Int)) → _)))))
  refine ⟨rfl, ⟨hG, (show st 170 12 = -1 from by omega)⟩, ?_⟩
  refine ⟨fun h27 => ?_, fun h27 => (by exfalso; omega)⟩
  refine ⟨by omega, ?_⟩
  have g28 := g_frame hG ((st 170 42) - 1 : Int).toNat
  refine ⟨by omega, ?_⟩
  refine fun r17 q17 => ?_
  have b17 := q17
  change (r17 = 0 ∨ r17 = 1) ∧ (r17 = 1 ↔ (st 192 ((st 170 42) - 1 : Int).toNat) = 1 ∨ (st 192 ((st 170 42) - 1 : Int).toNat) = 5 ∨ (st 192 ((st 170 42) - 1 : Int).toNat) = 6) at b17
  refine ⟨fun h29 => ?_, fun h29 => ?_⟩
  · refine ⟨fun h30 => ?_, fun h30 => absurd (by decide) h30⟩
    refine ⟨by omega, ?_⟩
    refine ⟨by omega, ?_⟩
    refine ⟨fun h31 => ?_, fun h31 => absurd (by decide) h31⟩
    refine ⟨fun h32 => ?_, fun h32 => absurd (by decide) h32⟩
    refine ⟨rfl, fun r18 q18 => ?_⟩
    have b18 := q18
    change (r18 = 0 ∨ r18 = 1) ∧ (r18 = 1 ↔ st 170 3 = 3 ∧ st 170 6 = (40)) at b18
    refine ⟨fun h33 => (by exfalso; clear hQ; omega), fun h33 => ?_⟩
    clear h33 b18
    refine ⟨rfl, ⟨(gInv_up hG (p_begins (by omega))), (show RDr (zup st 194 ((st 170 42) - 1 : Int).toNat 0) t n from (show RDr (zup st 194 ((st 170 42) - 1 : Int).toNat 0) t n from mrd)), (show st 170 12 = -1 ∧ st 170 8 = 0 ∧ 0 ≤ st 170 43 ∧ st 170 43 < 7 ∧ 0 ≤ st 170 42 ∧ st 170 42 ≤ 18 ∧ 0 ≤ st 170 45 ∧ st 170 45 ≤ 499 ∧ 0 ≤ (2) ∧ (2) ≤ 6 from by omega)⟩, fun s19 q19 => ?_⟩
    obtain ⟨gs19, fs19, rd19, nx19, d19, u19219, u19319, u19419, u19619⟩ := q19
    change RDr s19 t n at rd19
    change NXr (zup st 194 ((st 170 42) - 1 : Int).toNat 0) s19 t n at nx19
    change s19 170 42 = st 170 42 + 1 ∧ s19 170 43 = st 170 43 + 1 at d19
    have g34 := g_deep gs19
    have g35 := g_open gs19
    change (s19 192) = up1 (st 192) (st 170 42).toNat (2) at u19219
    change (s19 193) = up1 (st 193) (st 170 42).toNat 0 at u19319
    change (s19 194) = up1 (up1 (st 194) ((st 170 42) - 1 : Int).toNat 0) (st 170 42).toNat 1 at u19419
    change (s19 196) = up1 (st 196) (st 170 42).toNat (st 170 45) at u19619
    refine ⟨by omega, ?_⟩
    have e36 : s19 170 8 = st 170 8 := fs19 170 8 rfl rfl
    have e37 : s19 170 46 = st 170 46 := fs19 170 46 rfl rfl
    have e38 : s19 170 34 = st 170 34 := fs19 170 34 rfl rfl
    have e39 : s19 170 45 = st 170 45 := fs19 170 45 rfl rfl
    exact hQ _ _ ⟨gs19, (fr_tr (fr_a (fr_rf _ _) rfl) fs19 rfl), (Z9_tr (Z9_up (Z9_rf _) (by decide)) ((show aFr m_rOp4 st (zup st 194 ((st 170 42) - 1 : Int).toNat 0) from (fr_a (fr_rf _ _) rfl)) 170 35 rfl rfl) (Z9_fr fs19 (fun _ => rfl) rfl)), (show (0 : Int) = 0 ∧ ∃ rr : Int, mcP t n s19 ((2, 0, 1, rr, []) :: (k, ph, 0, pr, w) :: fs) 0 (o + 1) (c) (e) from (by
            have hp : s19 170 4 = e := NXr_e (st := (zup st 194 ((st 170 42) - 1 : Int).toNat 0)) (show NXr (zup st 194 ((st 170 42) - 1 : Int).toNat 0) s19 t n from nx19) (show tk t n ((zup st 194 ((st 170 42) - 1 : Int).toNat 0) 170 4) _ _ e from by rw [show (zup st 194 ((st 170 42) - 1 : Int).toNat 0) 170 4 = p from mpp]; exact ht.1) (by omega)
            have hl := tk_lt ht.1 (show 0 ≤ p from by rw [← mpp]; exact mrd.2.1.1) (by omega)
            refine ⟨rfl, st 195 (st 170 42).toNat, by omega, by omega, by omega, hp, rd19, ⟨?_, WB_c (by rw [List.length_nil]; omega) (fun x hx => by cases hx) (WB_c ml (WB_el mwb) (WB_tl mwb)), ?_⟩, by omega, by omega, by omega, by rw [List.length_cons, List.length_cons]; omega⟩
            · exact (by
                have q := FR_push (fs := (k, ph, 0, pr, w) :: fs) 2 mb.2.1 (show 0 ≤ st 170 42 from by omega) (FR_bg 0 mb.2.1 mfr)
                rw [u19219, u19319, u19419, u19619, d19.1, show s19 170 45 = st 170 45 from fs19 170 45 rfl rfl, show s19 195 = st 195 from funext (fun i => fs19 195 i rfl rfl), show s19 197 = st 197 from funext (fun i => fs19 197 i rfl rfl)]
                exact q)
            · rw [show s19 170 35 = st 170 35 from fs19 170 35 rfl rfl, show s19 170 34 = st 170 34 from fs19 170 34 rfl rfl, show s19 188 = st 188 from funext (fun i => fs19 188 i rfl rfl), show s19 189 = st 189 from funext (fun i => fs19 189 i rfl rfl)]
              exact mcd))⟩
  · have g40 := g_begins hG ((st 170 42) - 1 : Int).toNat
    refine ⟨by omega, ?_⟩
    refine ⟨fun h41 => ?_, fun h41 => ?_⟩
    · refine ⟨fun h42 => ?_, fun h42 => absurd (by decide) h42⟩
      refine ⟨by omega, ?_⟩
      refine ⟨by omega, ?_⟩
      refine ⟨fun h43 => ?_, fun h43 => absurd (by decide) h43⟩
      refine ⟨fun h44 => ?_, fun h44 => absurd (by decide) h44⟩
      refine ⟨rfl, fun r20 q20 => ?_⟩
      have b20 := q20
      change (r20 = 0 ∨ r20 = 1) ∧ (r20 = 1 ↔ st 170 3 = 3 ∧ st 170 6 = (40)) at b20
      refine ⟨fun h45 => (by exfalso; clear hQ; omega), fun h45 => ?_⟩
      clear h45 b20
      refine ⟨rfl, ⟨(gInv_up hG (p_begins (by omega))), (show RDr (zup st 194 ((st 170 42) - 1 : Int).toNat 0) t n from (show RDr (zup st 194 ((st 170 42) - 1 : Int).toNat 0) t n from mrd)), (show st 170 12 = -1 ∧ st 170 8 = 0 ∧ 0 ≤ st 170 43 ∧ st 170 43 < 7 ∧ 0 ≤ st 170 42 ∧ st 170 42 ≤ 18 ∧ 0 ≤ st 170 45 ∧ st 170 45 ≤ 499 ∧ 0 ≤ (2) ∧ (2) ≤ 6 from by omega)⟩, fun s21 q21 => ?_⟩
      obtain ⟨gs21, fs21, rd21, nx21, d21, u19221, u19321, u19421, u19621⟩ := q21
      change RDr s21 t n at rd21
      change NXr (zup st 194 ((st 170 42) - 1 : Int).toNat 0) s21 t n at nx21
      change s21 170 42 = st 170 42 + 1 ∧ s21 170 43 = st 170 43 + 1 at d21
      have g46 := g_deep gs21
      have g47 := g_open gs21
      change (s21 192) = up1 (st 192) (st 170 42).toNat (2) at u19221
      change (s21 193) = up1 (st 193) (st 170 42).toNat 0 at u19321
      change (s21 194) = up1 (up1 (st 194) ((st 170 42) - 1 : Int).toNat 0) (st 170 42).toNat 1 at u19421
      change (s21 196) = up1 (st 196) (st 170 42).toNat (st 170 45) at u19621
      refine ⟨by omega, ?_⟩
      have e48 : s21 170 8 = st 170 8 := fs21 170 8 rfl rfl
      have e49 : s21 170 46 = st 170 46 := fs21 170 46 rfl rfl
      have e50 : s21 170 34 = st 170 34 := fs21 170 34 rfl rfl
      have e51 : s21 170 45 = st 170 45 := fs21 170 45 rfl rfl
      exact hQ _ _ ⟨gs21, (fr_tr (fr_a (fr_rf _ _) rfl) fs21 rfl), (Z9_tr (Z9_up (Z9_rf _) (by decide)) ((show aFr m_rOp4 st (zup st 194 ((st 170 42) - 1 : Int).toNat 0) from (fr_a (fr_rf _ _) rfl)) 170 35 rfl rfl) (Z9_fr fs21 (fun _ => rfl) rfl)), (show (0 : Int) = 0 ∧ ∃ rr : Int, mcP t n s21 ((2, 0, 1, rr, []) :: (k, ph, 0, pr, w) :: fs) 0 (o + 1) (c) (e) from (by
            have hp : s21 170 4 = e := NXr_e (st := (zup st 194 ((st 170 42) - 1 : Int).toNat 0)) (show NXr (zup st 194 ((st 170 42) - 1 : Int).toNat 0) s21 t n from nx21) (show tk t n ((zup st 194 ((st 170 42) - 1 : Int).toNat 0) 170 4) _ _ e from by rw [show (zup st 194 ((st 170 42) - 1 : Int).toNat 0) 170 4 = p from mpp]; exact ht.1) (by omega)
            have hl := tk_lt ht.1 (show 0 ≤ p from by rw [← mpp]; exact mrd.2.1.1) (by omega)
            refine ⟨rfl, st 195 (st 170 42).toNat, by omega, by omega, by omega, hp, rd21, ⟨?_, WB_c (by rw [List.length_nil]; omega) (fun x hx => by cases hx) (WB_c ml (WB_el mwb) (WB_tl mwb)), ?_⟩, by omega, by omega, by omega, by rw [List.length_cons, List.length_cons]; omega⟩
            · exact (by
                have q := FR_push (fs := (k, ph, 0, pr, w) :: fs) 2 mb.2.1 (show 0 ≤ st 170 42 from by omega) (FR_bg 0 mb.2.1 mfr)
                rw [u19221, u19321, u19421, u19621, d21.1, show s21 170 45 = st 170 45 from fs21 170 45 rfl rfl, show s21 195 = st 195 from funext (fun i => fs21 195 i rfl rfl), show s21 197 = st 197 from funext (fun i => fs21 197 i rfl rfl)]
                exact q)
            · rw [show s21 170 35 = st 170 35 from fs21 170 35 rfl rfl, show s21 170 34 = st 170 34 from fs21 170 34 rfl rfl, show s21 188 = st 188 from funext (fun i => fs21 188 i rfl rfl), show s21 189 = st 189 from funext (fun i => fs21 189 i rfl rfl)]
              exact mcd))⟩
    · refine ⟨fun h52 => absurd h52 (by decide), fun h52 => ?_⟩
      refine ⟨rfl, fun r22 q22 => ?_⟩
      have b22 := q22
      change (r22 = 0 ∨ r22 = 1) ∧ (r22 = 1 ↔ st 170 3 = 1 ∧ st 170 7 = (7237492)) at b22
      refine ⟨fun h53 => ?_, fun h53 => (by exfalso; clear hQ; omega)⟩
      clear h53 b22
      refine ⟨by omega, ?_⟩
      refine ⟨by omega, ?_⟩
      refine ⟨fun h54 => absurd h54 (by decide), fun h54 => ?_⟩
      refine ⟨rfl, fun r23 q23 => ?_⟩
      have b23 := q23
      change (r23 = 0 ∨ r23 = 1) ∧ (r23 = 1 ↔ st 170 3 = 3 ∧ st 170 6 = (91)) at b23
      refine ⟨fun h55 => ?_, fun h55 => (by exfalso; clear hQ; omega)⟩
      clear h55 b23
      refine ⟨fun h56 => absurd h56 (by decide), fun h56 => ?_⟩
      refine ⟨rfl, fun r24 q24 => ?_⟩
      have b24 := q24
      change (r24 = 0 ∨ r24 = 1) ∧ (r24 = 1 ↔ st 170 3 = 1 ∧ st 170 7 = (6384748)) at b24
      refine ⟨fun h57 => ?_, fun h57 => (by exfalso; clear hQ; omega)⟩
      clear h57 b24
      refine ⟨rfl, fun r25 q25 => ?_⟩
      have b25 := q25
      change (r25 = 0 ∨ r25 = 1) ∧ (r25 = 1 ↔ st 170 3 = 3 ∧ st 170 6 = (40)) at b25
      refine ⟨fun h58 => (by exfalso; clear hQ; omega), fun h58 => ?_⟩
      clear h58 b25
      refine ⟨rfl, ⟨(gInv_up hG (p_begins (by omega))), (show RDr (zup st 194 ((st 170 42) - 1 : Int).toNat 0) t n from (show RDr (zup st 194 ((st 170 42) - 1 : Int).toNat 0) t n from mrd)), (show st 170 12 = -1 ∧ st 170 8 = 0 ∧ 0 ≤ st 170 43 ∧ st 170 43 < 7 ∧ 0 ≤ st 170 42 ∧ st 170 42 ≤ 18 ∧ 0 ≤ st 170 45 ∧ st 170 45 ≤ 499 ∧ 0 ≤ (2) ∧ (2) ≤ 6 from by omega)⟩, fun s26 q26 => ?_⟩
      obtain ⟨gs26, fs26, rd26, nx26, d26, u19226, u19326, u19426, u19626⟩ := q26
      change RDr s26 t n at rd26
      change NXr (zup st 194 ((st 170 42) - 1 : Int).toNat 0) s26 t n at nx26
      change s26 170 42 = st 170 42 + 1 ∧ s26 170 43 = st 170 43 + 1 at d26
      have g59 := g_deep gs26
      have g60 := g_open gs26
      change (s26 192) = up1 (st 192) (st 170 42).toNat (2) at u19226
      change (s26 193) = up1 (st 193) (st 170 42).toNat 0 at u19326
      change (s26 194) = up1 (up1 (st 194) ((st 170 42) - 1 : Int).toNat 0) (st 170 42).toNat 1 at u19426
      change (s26 196) = up1 (st 196) (st 170 42).toNat (st 170 45) at u19626
      refine ⟨by omega, ?_⟩
      have e61 : s26 170 8 = st 170 8 := fs26 170 8 rfl rfl
      have e62 : s26 170 46 = st 170 46 := fs26 170 46 rfl rfl
      have e63 : s26 170 34 = st 170 34 := fs26 170 34 rfl rfl
      have e64 : s26 170 45 = st 170 45 := fs26 170 45 rfl rfl
      exact hQ _ _ ⟨gs26, (fr_tr (fr_a (fr_rf _ _) rfl) fs26 rfl), (Z9_tr (Z9_up (Z9_rf _) (by decide)) ((show aFr m_rOp4 st (zup st 194 ((st 170 42) - 1 : Int).toNat 0) from (fr_a (fr_rf _ _) rfl)) 170 35 rfl rfl) (Z9_fr fs26 (fun _ => rfl) rfl)), (show (0 : Int) = 0 ∧ ∃ rr : Int, mcP t n s26 ((2, 0, 1, rr, []) :: (k, ph, 0, pr, w) :: fs) 0 (o + 1) (c) (e) from (by
            have hp : s26 170 4 = e := NXr_e (st := (zup st 194 ((st 170 42) - 1 : Int).toNat 0)) (show NXr (zup st 194 ((st 170 42) - 1 : Int).toNat 0) s26 t n from nx26) (show tk t n ((zup st 194 ((st 170 42) - 1 : Int).toNat 0) 170 4) _ _ e from by rw [show (zup st 194 ((st 170 42) - 1 : Int).toNat 0) 170 4 = p from mpp]; exact ht.1) (by omega)
            have hl := tk_lt ht.1 (show 0 ≤ p from by rw [← mpp]; exact mrd.2.1.1) (by omega)
            refine ⟨rfl, st 195 (st 170 42).toNat, by omega, by omega, by omega, hp, rd26, ⟨?_, WB_c (by rw [List.length_nil]; omega) (fun x hx => by cases hx) (WB_c ml (WB_el mwb) (WB_tl mwb)), ?_⟩, by omega, by omega, by omega, by rw [List.length_cons, List.length_cons]; omega⟩
            · exact (by
                have q := FR_push (fs := (k, ph, 0, pr, w) :: fs) 2 mb.2.1 (show 0 ≤ st 170 42 from by omega) (FR_bg 0 mb.2.1 mfr)
                rw [u19226, u19326, u19426, u19626, d26.1, show s26 170 45 = st 170 45 from fs26 170 45 rfl rfl, show s26 195 = st 195 from funext (fun i => fs26 195 i rfl rfl), show s26 197 = st 197 from funext (fun i => fs26 197 i rfl rfl)]
                exact q)
            · rw [show s26 170 35 = st 170 35 from fs26 170 35 rfl rfl, show s26 170 34 = st 170 34 from fs26 170 34 rfl rfl, show s26 188 = st 188 from funext (fun i => fs26 188 i rfl rfl), show s26 189 = st 189 from funext (fun i => fs26 189 i rfl rfl)]
              exact mcd))⟩
theorem k_rOp4_m (hTb : aTb zSh rx_tb cl) {t : Int → Int} {n k ph bg pr o p e : Int} {w c : List Int} {fs : List mFr} {D : Nat} (hD : 4 ≤ D) : ∀ as st (Q Q' : zQ), (∀ r st', Q r st' → Q' r st') → (k_rOp4 t n k ph bg pr o p e w c fs) 196 as st Q → cl D 196 as st Q' := by
  intro as st Q Q' hQ h
  unfold k_rOp4 at h
  split at h
  · obtain ⟨rfl, h⟩ := h
    exact c_rOp4 hTb hD (ct_rOp4_m hQ h)
  · exact h.elim
end Rz2
