/-! printed by wip/pw/r/q4.py -/
def m_rGo143 : aM := ([(170, 3), (170, 4), (170, 5), (170, 6), (170, 7), (170, 8), (170, 9), (170, 12), (170, 34), (170, 42), (170, 43), (170, 45), (170, 46)], [188, 189, 192, 193, 194, 195, 196, 197])
def rq_rGo143 (t : Int → Int) (n k ph bg pr o p e : Int) (w c : List Int) (fs : List mFr) (uu : List Int) (st : zS) : Prop := gInv zgt st ∧ (mcP t n st ((k, ph, bg, pr, uu ++ w) :: fs) 1 (o) (c) (p)) ∧ (tk t n p 3 43 e ∧ ph < 2 ∧ RG uu 5 ∧ TR w 5 ∧ w.length ≤ 14)
def en_rGo143 (t : Int → Int) (n k ph bg pr o p e : Int) (w c : List Int) (fs : List mFr) (uu : List Int) (st : zS) (r : Int) (s1 : zS) : Prop := gInv zgt s1 ∧ aFr m_rGo143 st s1 ∧ Z9 st s1 ∧ (r = 1 ∧ mcP t n s1 ((k, ph, bg, pr, 31 :: w) :: fs) 0 (o) (c ++ uu) (e))
def ct_rGo143 (t : Int → Int) (n k ph bg pr o p e : Int) (w c : List Int) (fs : List mFr) (uu : List Int) (st : zS) (Q : zQ) : Prop := rq_rGo143 t n k ph bg pr o p e w c fs uu st ∧ (∀ (r : Int) (s1 : zS), en_rGo143 t n k ph bg pr o p e w c fs uu st r s1 → Q (some (.inl r)) s1)
theorem ct_rGo143_m {t : Int → Int} {n k ph bg pr o p e : Int} {w c : List Int} {fs : List mFr} {uu : List Int} {st : zS} {Q Q' : zQ} (hQ : ∀ r st', Q r st' → Q' r st') (h : ct_rGo143 t n k ph bg pr o p e w c fs uu st Q) : ct_rGo143 t n k ph bg pr o p e w c fs uu st Q' := ⟨h.1, fun x0 x1 x2 => hQ _ _ (h.2 x0 x1 x2)⟩
def k_rGo143 (t : Int → Int) (n k ph bg pr o p e : Int) (w c : List Int) (fs : List mFr) (uu : List Int) : zCall := fun _ as st Q => match as with
  | [.inr (.inr (.inl z_o))] => z_o = 170 ∧ ct_rGo143 t n k ph bg pr o p e w c fs uu st Q
  | _ => False
def m_rGo145 : aM := ([(170, 3), (170, 4), (170, 5), (170, 6), (170, 7), (170, 8), (170, 9), (170, 12), (170, 34), (170, 42), (170, 43), (170, 45), (170, 46)], [188, 189, 192, 193, 194, 195, 196, 197])
def rq_rGo145 (t : Int → Int) (n k ph bg pr o p e : Int) (w c : List Int) (fs : List mFr) (uu : List Int) (st : zS) : Prop := gInv zgt st ∧ (mcP t n st ((k, ph, bg, pr, uu ++ w) :: fs) 1 (o) (c) (p)) ∧ (tk t n p 3 45 e ∧ ph < 2 ∧ RG uu 5 ∧ TR w 5 ∧ w.length ≤ 14)
def en_rGo145 (t : Int → Int) (n k ph bg pr o p e : Int) (w c : List Int) (fs : List mFr) (uu : List Int) (st : zS) (r : Int) (s1 : zS) : Prop := gInv zgt s1 ∧ aFr m_rGo145 st s1 ∧ Z9 st s1 ∧ (r = 1 ∧ mcP t n s1 ((k, ph, bg, pr, 32 :: w) :: fs) 0 (o) (c ++ uu) (e))
def ct_rGo145 (t : Int → Int) (n k ph bg pr o p e : Int) (w c : List Int) (fs : List mFr) (uu : List Int) (st : zS) (Q : zQ) : Prop := rq_rGo145 t n k ph bg pr o p e w c fs uu st ∧ (∀ (r : Int) (s1 : zS), en_rGo145 t n k ph bg pr o p e w c fs uu st r s1 → Q (some (.inl r)) s1)
theorem ct_rGo145_m {t : Int → Int} {n k ph bg pr o p e : Int} {w c : List Int} {fs : List mFr} {uu : List Int} {st : zS} {Q Q' : zQ} (hQ : ∀ r st', Q r st' → Q' r st') (h : ct_rGo145 t n k ph bg pr o p e w c fs uu st Q) : ct_rGo145 t n k ph bg pr o p e w c fs uu st Q' := ⟨h.1, fun x0 x1 x2 => hQ _ _ (h.2 x0 x1 x2)⟩
def k_rGo145 (t : Int → Int) (n k ph bg pr o p e : Int) (w c : List Int) (fs : List mFr) (uu : List Int) : zCall := fun _ as st Q => match as with
  | [.inr (.inr (.inl z_o))] => z_o = 170 ∧ ct_rGo145 t n k ph bg pr o p e w c fs uu st Q
  | _ => False
def m_rGo142 : aM := ([(170, 3), (170, 4), (170, 5), (170, 6), (170, 7), (170, 8), (170, 9), (170, 12), (170, 34), (170, 42), (170, 43), (170, 45), (170, 46)], [188, 189, 192, 193, 194, 195, 196, 197])
def rq_rGo142 (t : Int → Int) (n k ph bg pr o p e : Int) (w c : List Int) (fs : List mFr) (uu : List Int) (st : zS) : Prop := gInv zgt st ∧ (mcP t n st ((k, ph, bg, pr, uu ++ w) :: fs) 1 (o) (c) (p)) ∧ (tk t n p 3 42 e ∧ ph < 2 ∧ RG uu 6 ∧ TR w 6 ∧ w.length ≤ 14)
def en_rGo142 (t : Int → Int) (n k ph bg pr o p e : Int) (w c : List Int) (fs : List mFr) (uu : List Int) (st : zS) (r : Int) (s1 : zS) : Prop := gInv zgt s1 ∧ aFr m_rGo142 st s1 ∧ Z9 st s1 ∧ (r = 1 ∧ mcP t n s1 ((k, ph, bg, pr, 33 :: w) :: fs) 0 (o) (c ++ uu) (e))
def ct_rGo142 (t : Int → Int) (n k ph bg pr o p e : Int) (w c : List Int) (fs : List mFr) (uu : List Int) (st : zS) (Q : zQ) : Prop := rq_rGo142 t n k ph bg pr o p e w c fs uu st ∧ (∀ (r : Int) (s1 : zS), en_rGo142 t n k ph bg pr o p e w c fs uu st r s1 → Q (some (.inl r)) s1)
theorem ct_rGo142_m {t : Int → Int} {n k ph bg pr o p e : Int} {w c : List Int} {fs : List mFr} {uu : List Int} {st : zS} {Q Q' : zQ} (hQ : ∀ r st', Q r st' → Q' r st') (h : ct_rGo142 t n k ph bg pr o p e w c fs uu st Q) : ct_rGo142 t n k ph bg pr o p e w c fs uu st Q' := ⟨h.1, fun x0 x1 x2 => hQ _ _ (h.2 x0 x1 x2)⟩
def k_rGo142 (t : Int → Int) (n k ph bg pr o p e : Int) (w c : List Int) (fs : List mFr) (uu : List Int) : zCall := fun _ as st Q => match as with
  | [.inr (.inr (.inl z_o))] => z_o = 170 ∧ ct_rGo142 t n k ph bg pr o p e w c fs uu st Q
  | _ => False
def m_rGo147 : aM := ([(170, 3), (170, 4), (170, 5), (170, 6), (170, 7), (170, 8), (170, 9), (170, 12), (170, 34), (170, 42), (170, 43), (170, 45), (170, 46)], [188, 189, 192, 193, 194, 195, 196, 197])
def rq_rGo147 (t : Int → Int) (n k ph bg pr o p e : Int) (w c : List Int) (fs : List mFr) (uu : List Int) (st : zS) : Prop := gInv zgt st ∧ (mcP t n st ((k, ph, bg, pr, uu ++ w) :: fs) 1 (o) (c) (p)) ∧ (tk t n p 3 47 e ∧ ph < 2 ∧ RG uu 6 ∧ TR w 6 ∧ w.length ≤ 14)
def en_rGo147 (t : Int → Int) (n k ph bg pr o p e : Int) (w c : List Int) (fs : List mFr) (uu : List Int) (st : zS) (r : Int) (s1 : zS) : Prop := gInv zgt s1 ∧ aFr m_rGo147 st s1 ∧ Z9 st s1 ∧ (r = 1 ∧ mcP t n s1 ((k, ph, bg, pr, 34 :: w) :: fs) 0 (o) (c ++ uu) (e))
def ct_rGo147 (t : Int → Int) (n k ph bg pr o p e : Int) (w c : List Int) (fs : List mFr) (uu : List Int) (st : zS) (Q : zQ) : Prop := rq_rGo147 t n k ph bg pr o p e w c fs uu st ∧ (∀ (r : Int) (s1 : zS), en_rGo147 t n k ph bg pr o p e w c fs uu st r s1 → Q (some (.inl r)) s1)
theorem ct_rGo147_m {t : Int → Int} {n k ph bg pr o p e : Int} {w c : List Int} {fs : List mFr} {uu : List Int} {st : zS} {Q Q' : zQ} (hQ : ∀ r st', Q r st' → Q' r st') (h : ct_rGo147 t n k ph bg pr o p e w c fs uu st Q) : ct_rGo147 t n k ph bg pr o p e w c fs uu st Q' := ⟨h.1, fun x0 x1 x2 => hQ _ _ (h.2 x0 x1 x2)⟩
def k_rGo147 (t : Int → Int) (n k ph bg pr o p e : Int) (w c : List Int) (fs : List mFr) (uu : List Int) : zCall := fun _ as st Q => match as with
  | [.inr (.inr (.inl z_o))] => z_o = 170 ∧ ct_rGo147 t n k ph bg pr o p e w c fs uu st Q
  | _ => False
def m_rGo137 : aM := ([(170, 3), (170, 4), (170, 5), (170, 6), (170, 7), (170, 8), (170, 9), (170, 12), (170, 34), (170, 42), (170, 43), (170, 45), (170, 46)], [188, 189, 192, 193, 194, 195, 196, 197])
def rq_rGo137 (t : Int → Int) (n k ph bg pr o p e : Int) (w c : List Int) (fs : List mFr) (uu : List Int) (st : zS) : Prop := gInv zgt st ∧ (mcP t n st ((k, ph, bg, pr, uu ++ w) :: fs) 1 (o) (c) (p)) ∧ (tk t n p 3 37 e ∧ ph < 2 ∧ RG uu 6 ∧ TR w 6 ∧ w.length ≤ 14)
def en_rGo137 (t : Int → Int) (n k ph bg pr o p e : Int) (w c : List Int) (fs : List mFr) (uu : List Int) (st : zS) (r : Int) (s1 : zS) : Prop := gInv zgt s1 ∧ aFr m_rGo137 st s1 ∧ Z9 st s1 ∧ (r = 1 ∧ mcP t n s1 ((k, ph, bg, pr, 35 :: w) :: fs) 0 (o) (c ++ uu) (e))
def ct_rGo137 (t : Int → Int) (n k ph bg pr o p e : Int) (w c : List Int) (fs : List mFr) (uu : List Int) (st : zS) (Q : zQ) : Prop := rq_rGo137 t n k ph bg pr o p e w c fs uu st ∧ (∀ (r : Int) (s1 : zS), en_rGo137 t n k ph bg pr o p e w c fs uu st r s1 → Q (some (.inl r)) s1)
theorem ct_rGo137_m {t : Int → Int} {n k ph bg pr o p e : Int} {w c : List Int} {fs : List mFr} {uu : List Int} {st : zS} {Q Q' : zQ} (hQ : ∀ r st', Q r st' → Q' r st') (h : ct_rGo137 t n k ph bg pr o p e w c fs uu st Q) : ct_rGo137 t n k ph bg pr o p e w c fs uu st Q' := ⟨h.1, fun x0 x1 x2 => hQ _ _ (h.2 x0 x1 x2)⟩
def k_rGo137 (t : Int → Int) (n k ph bg pr o p e : Int) (w c : List Int) (fs : List mFr) (uu : List Int) : zCall := fun _ as st Q => match as with
  | [.inr (.inr (.inl z_o))] => z_o = 170 ∧ ct_rGo137 t n k ph bg pr o p e w c fs uu st Q
  | _ => False
def m_rGo360 : aM := ([(170, 3), (170, 4), (170, 5), (170, 6), (170, 7), (170, 8), (170, 9), (170, 12), (170, 34), (170, 42), (170, 43), (170, 45), (170, 46)], [188, 189, 192, 193, 194, 195, 196, 197])
def rq_rGo360 (t : Int → Int) (n k ph bg pr o p e : Int) (w c : List Int) (fs : List mFr) (uu : List Int) (st : zS) : Prop := gInv zgt st ∧ (mcP t n st ((k, ph, bg, pr, uu ++ w) :: fs) 1 (o) (c) (p)) ∧ (tk t n p 3 60 e ∧ isT k ∧ ph = 0 ∧ RG uu 5 ∧ TR w 5 ∧ w.length ≤ 14)
def en_rGo360 (t : Int → Int) (n k ph bg pr o p e : Int) (w c : List Int) (fs : List mFr) (uu : List Int) (st : zS) (r : Int) (s1 : zS) : Prop := gInv zgt s1 ∧ aFr m_rGo360 st s1 ∧ Z9 st s1 ∧ (r = 1 ∧ mcP t n s1 ((k, 1, bg, pr, 38 :: w) :: fs) 0 (o) (c ++ uu) (e))
def ct_rGo360 (t : Int → Int) (n k ph bg pr o p e : Int) (w c : List Int) (fs : List mFr) (uu : List Int) (st : zS) (Q : zQ) : Prop := rq_rGo360 t n k ph bg pr o p e w c fs uu st ∧ (∀ (r : Int) (s1 : zS), en_rGo360 t n k ph bg pr o p e w c fs uu st r s1 → Q (some (.inl r)) s1)
theorem ct_rGo360_m {t : Int → Int} {n k ph bg pr o p e : Int} {w c : List Int} {fs : List mFr} {uu : List Int} {st : zS} {Q Q' : zQ} (hQ : ∀ r st', Q r st' → Q' r st') (h : ct_rGo360 t n k ph bg pr o p e w c fs uu st Q) : ct_rGo360 t n k ph bg pr o p e w c fs uu st Q' := ⟨h.1, fun x0 x1 x2 => hQ _ _ (h.2 x0 x1 x2)⟩
def k_rGo360 (t : Int → Int) (n k ph bg pr o p e : Int) (w c : List Int) (fs : List mFr) (uu : List Int) : zCall := fun _ as st Q => match as with
  | [.inr (.inr (.inl z_o))] => z_o = 170 ∧ ct_rGo360 t n k ph bg pr o p e w c fs uu st Q
  | _ => False
def m_rGo361 : aM := ([(170, 3), (170, 4), (170, 5), (170, 6), (170, 7), (170, 8), (170, 9), (170, 12), (170, 34), (170, 42), (170, 43), (170, 45), (170, 46)], [188, 189, 192, 193, 194, 195, 196, 197])
def rq_rGo361 (t : Int → Int) (n k ph bg pr o p e : Int) (w c : List Int) (fs : List mFr) (uu : List Int) (st : zS) : Prop := gInv zgt st ∧ (mcP t n st ((k, ph, bg, pr, uu ++ w) :: fs) 1 (o) (c) (p)) ∧ (tk t n p 3 61 e ∧ isT k ∧ ph = 0 ∧ RG uu 5 ∧ TR w 5 ∧ w.length ≤ 14)
def en_rGo361 (t : Int → Int) (n k ph bg pr o p e : Int) (w c : List Int) (fs : List mFr) (uu : List Int) (st : zS) (r : Int) (s1 : zS) : Prop := gInv zgt s1 ∧ aFr m_rGo361 st s1 ∧ Z9 st s1 ∧ (r = 1 ∧ mcP t n s1 ((k, 1, bg, pr, 40 :: w) :: fs) 0 (o) (c ++ uu) (e))
def ct_rGo361 (t : Int → Int) (n k ph bg pr o p e : Int) (w c : List Int) (fs : List mFr) (uu : List Int) (st : zS) (Q : zQ) : Prop := rq_rGo361 t n k ph bg pr o p e w c fs uu st ∧ (∀ (r : Int) (s1 : zS), en_rGo361 t n k ph bg pr o p e w c fs uu st r s1 → Q (some (.inl r)) s1)
theorem ct_rGo361_m {t : Int → Int} {n k ph bg pr o p e : Int} {w c : List Int} {fs : List mFr} {uu : List Int} {st : zS} {Q Q' : zQ} (hQ : ∀ r st', Q r st' → Q' r st') (h : ct_rGo361 t n k ph bg pr o p e w c fs uu st Q) : ct_rGo361 t n k ph bg pr o p e w c fs uu st Q' := ⟨h.1, fun x0 x1 x2 => hQ _ _ (h.2 x0 x1 x2)⟩
def k_rGo361 (t : Int → Int) (n k ph bg pr o p e : Int) (w c : List Int) (fs : List mFr) (uu : List Int) : zCall := fun _ as st Q => match as with
  | [.inr (.inr (.inl z_o))] => z_o = 170 ∧ ct_rGo361 t n k ph bg pr o p e w c fs uu st Q
  | _ => False
def m_rGo362 : aM := ([(170, 3), (170, 4), (170, 5), (170, 6), (170, 7), (170, 8), (170, 9), (170, 12), (170, 34), (170, 42), (170, 43), (170, 45), (170, 46)], [188, 189, 192, 193, 194, 195, 196, 197])
def rq_rGo362 (t : Int → Int) (n k ph bg pr o p e : Int) (w c : List Int) (fs : List mFr) (uu : List Int) (st : zS) : Prop := gInv zgt st ∧ (mcP t n st ((k, ph, bg, pr, uu ++ w) :: fs) 1 (o) (c) (p)) ∧ (tk t n p 3 62 e ∧ isT k ∧ ph = 0 ∧ RG uu 5 ∧ TR w 5 ∧ w.length ≤ 14)
def en_rGo362 (t : Int → Int) (n k ph bg pr o p e : Int) (w c : List Int) (fs : List mFr) (uu : List Int) (st : zS) (r : Int) (s1 : zS) : Prop := gInv zgt s1 ∧ aFr m_rGo362 st s1 ∧ Z9 st s1 ∧ (r = 1 ∧ mcP t n s1 ((k, 1, bg, pr, 39 :: w) :: fs) 0 (o) (c ++ uu) (e))
def ct_rGo362 (t : Int → Int) (n k ph bg pr o p e : Int) (w c : List Int) (fs : List mFr) (uu : List Int) (st : zS) (Q : zQ) : Prop := rq_rGo362 t n k ph bg pr o p e w c fs uu st ∧ (∀ (r : Int) (s1 : zS), en_rGo362 t n k ph bg pr o p e w c fs uu st r s1 → Q (some (.inl r)) s1)
theorem ct_rGo362_m {t : Int → Int} {n k ph bg pr o p e : Int} {w c : List Int} {fs : List mFr} {uu : List Int} {st : zS} {Q Q' : zQ} (hQ : ∀ r st', Q r st' → Q' r st') (h : ct_rGo362 t n k ph bg pr o p e w c fs uu st Q) : ct_rGo362 t n k ph bg pr o p e w c fs uu st Q' := ⟨h.1, fun x0 x1 x2 => hQ _ _ (h.2 x0 x1 x2)⟩
def k_rGo362 (t : Int → Int) (n k ph bg pr o p e : Int) (w c : List Int) (fs : List mFr) (uu : List Int) : zCall := fun _ as st Q => match as with
  | [.inr (.inr (.inl z_o))] => z_o = 170 ∧ ct_rGo362 t n k ph bg pr o p e w c fs uu st Q
  | _ => False
def m_rGo441 : aM := ([(170, 3), (170, 4), (170, 5), (170, 6), (170, 7), (170, 8), (170, 9), (170, 12), (170, 34), (170, 42), (170, 43), (170, 45), (170, 46)], [188, 189, 192, 193, 194, 195, 196, 197])
def rq_rGo441 (t : Int → Int) (n k ph bg pr o p e : Int) (w c : List Int) (fs : List mFr) (uu : List Int) (x : Int) (st : zS) : Prop := gInv zgt st ∧ (mcP t n st ((k, ph, bg, pr, uu ++ w) :: fs) 1 (x) (c) (p)) ∧ (tk t n p 1 6385252 e ∧ isT k ∧ ¬ ph = 0 ∧ RG uu 2 ∧ TR w 2 ∧ w.length ≤ 14 ∧ x = o + nots uu ∧ 0 ≤ o)
def en_rGo441 (t : Int → Int) (n k ph bg pr o p e : Int) (w c : List Int) (fs : List mFr) (uu : List Int) (x : Int) (st : zS) (r : Int) (s1 : zS) : Prop := gInv zgt s1 ∧ aFr m_rGo441 st s1 ∧ Z9 st s1 ∧ (r = 1 ∧ mcP t n s1 ((k, 0, 1, pr, 41 :: w) :: fs) 0 (o) (c ++ uu) (e))
def ct_rGo441 (t : Int → Int) (n k ph bg pr o p e : Int) (w c : List Int) (fs : List mFr) (uu : List Int) (x : Int) (st : zS) (Q : zQ) : Prop := rq_rGo441 t n k ph bg pr o p e w c fs uu x st ∧ (∀ (r : Int) (s1 : zS), en_rGo441 t n k ph bg pr o p e w c fs uu x st r s1 → Q (some (.inl r)) s1)
theorem ct_rGo441_m {t : Int → Int} {n k ph bg pr o p e : Int} {w c : List Int} {fs : List mFr} {uu : List Int} {x : Int} {st : zS} {Q Q' : zQ} (hQ : ∀ r st', Q r st' → Q' r st') (h : ct_rGo441 t n k ph bg pr o p e w c fs uu x st Q) : ct_rGo441 t n k ph bg pr o p e w c fs uu x st Q' := ⟨h.1, fun x0 x1 x2 => hQ _ _ (h.2 x0 x1 x2)⟩
def k_rGo441 (t : Int → Int) (n k ph bg pr o p e : Int) (w c : List Int) (fs : List mFr) (uu : List Int) (x : Int) : zCall := fun _ as st Q => match as with
  | [.inr (.inr (.inl z_o))] => z_o = 170 ∧ ct_rGo441 t n k ph bg pr o p e w c fs uu x st Q
  | _ => False
def m_rGo442 : aM := ([(170, 3), (170, 4), (170, 5), (170, 6), (170, 7), (170, 8), (170, 9), (170, 12), (170, 34), (170, 42), (170, 43), (170, 45), (170, 46)], [188, 189, 192, 193, 194, 195, 196, 197])
def rq_rGo442 (t : Int → Int) (n k ph bg pr o p e : Int) (w c : List Int) (fs : List mFr) (uu : List Int) (x : Int) (st : zS) : Prop := gInv zgt st ∧ (mcP t n st ((k, ph, bg, pr, uu ++ w) :: fs) 1 (x) (c) (p)) ∧ (tk t n p 1 28530 e ∧ isT k ∧ ¬ ph = 0 ∧ RG uu 1 ∧ TR w 1 ∧ w.length ≤ 14 ∧ x = o + nots uu ∧ 0 ≤ o)
def en_rGo442 (t : Int → Int) (n k ph bg pr o p e : Int) (w c : List Int) (fs : List mFr) (uu : List Int) (x : Int) (st : zS) (r : Int) (s1 : zS) : Prop := gInv zgt s1 ∧ aFr m_rGo442 st s1 ∧ Z9 st s1 ∧ (r = 1 ∧ mcP t n s1 ((k, 0, 1, pr, 42 :: w) :: fs) 0 (o) (c ++ uu) (e))
def ct_rGo442 (t : Int → Int) (n k ph bg pr o p e : Int) (w c : List Int) (fs : List mFr) (uu : List Int) (x : Int) (st : zS) (Q : zQ) : Prop := rq_rGo442 t n k ph bg pr o p e w c fs uu x st ∧ (∀ (r : Int) (s1 : zS), en_rGo442 t n k ph bg pr o p e w c fs uu x st r s1 → Q (some (.inl r)) s1)
theorem ct_rGo442_m {t : Int → Int} {n k ph bg pr o p e : Int} {w c : List Int} {fs : List mFr} {uu : List Int} {x : Int} {st : zS} {Q Q' : zQ} (hQ : ∀ r st', Q r st' → Q' r st') (h : ct_rGo442 t n k ph bg pr o p e w c fs uu x st Q) : ct_rGo442 t n k ph bg pr o p e w c fs uu x st Q' := ⟨h.1, fun x0 x1 x2 => hQ _ _ (h.2 x0 x1 x2)⟩
def k_rGo442 (t : Int → Int) (n k ph bg pr o p e : Int) (w c : List Int) (fs : List mFr) (uu : List Int) (x : Int) : zCall := fun _ as st Q => match as with
  | [.inr (.inr (.inl z_o))] => z_o = 170 ∧ ct_rGo442 t n k ph bg pr o p e w c fs uu x st Q
  | _ => False
def m_rGo50 : aM := ([(170, 3), (170, 4), (170, 5), (170, 6), (170, 7), (170, 8), (170, 9), (170, 12), (170, 34), (170, 42), (170, 43), (170, 45), (170, 46)], [188, 189, 192, 193, 194, 195, 196, 197])
def rq_rGo50 (t : Int → Int) (n k ph bg pr o p e : Int) (w c : List Int) (fs : List mFr) (kk v : Int) (st : zS) : Prop := gInv zgt st ∧ (mcP t n st ((k, ph, bg, pr, w) :: fs) 1 (o) (c) (p)) ∧ (tk t n p kk v e ∧ ¬ kk = 5 ∧ k = 0 ∧ (ph < 2 → ¬ arS kk v))
def en_rGo50 (t : Int → Int) (n k ph bg pr o p e : Int) (w c : List Int) (fs : List mFr) (kk v : Int) (st : zS) (r : Int) (s1 : zS) : Prop := gInv zgt s1 ∧ aFr m_rGo50 st s1 ∧ Z9 st s1 ∧ (r = 0 ∧ s1 170 8 = 0 ∧ s1 170 4 = p ∧ RDr s1 t n ∧ CDr (s1 170 35) (s1 170 34) (s1 188) (s1 189) (c ++ w))
def ct_rGo50 (t : Int → Int) (n k ph bg pr o p e : Int) (w c : List Int) (fs : List mFr) (kk v : Int) (st : zS) (Q : zQ) : Prop := rq_rGo50 t n k ph bg pr o p e w c fs kk v st ∧ (∀ (r : Int) (s1 : zS), en_rGo50 t n k ph bg pr o p e w c fs kk v st r s1 → Q (some (.inl r)) s1)
theorem ct_rGo50_m {t : Int → Int} {n k ph bg pr o p e : Int} {w c : List Int} {fs : List mFr} {kk v : Int} {st : zS} {Q Q' : zQ} (hQ : ∀ r st', Q r st' → Q' r st') (h : ct_rGo50 t n k ph bg pr o p e w c fs kk v st Q) : ct_rGo50 t n k ph bg pr o p e w c fs kk v st Q' := ⟨h.1, fun x0 x1 x2 => hQ _ _ (h.2 x0 x1 x2)⟩
def k_rGo50 (t : Int → Int) (n k ph bg pr o p e : Int) (w c : List Int) (fs : List mFr) (kk v : Int) : zCall := fun _ as st Q => match as with
  | [.inr (.inr (.inl z_o))] => z_o = 170 ∧ ct_rGo50 t n k ph bg pr o p e w c fs kk v st Q
  | _ => False
def m_rGo51 : aM := ([(170, 3), (170, 4), (170, 5), (170, 6), (170, 7), (170, 8), (170, 9), (170, 12), (170, 34), (170, 42), (170, 43), (170, 45), (170, 46)], [188, 189, 192, 193, 194, 195, 196, 197])
def rq_rGo51 (t : Int → Int) (n k ph bg pr o p e : Int) (w c : List Int) (fs : List mFr) (kk v : Int) (st : zS) : Prop := gInv zgt st ∧ (mcP t n st ((k, ph, bg, pr, w) :: fs) 1 (o) (c) (p)) ∧ (tk t n p kk v e ∧ ¬ kk = 5 ∧ k = 1 ∧ (ph < 2 → ¬ arS kk v) ∧ ¬ ph = 0 ∧ ¬ aoS kk v)
def en_rGo51 (t : Int → Int) (n k ph bg pr o p e : Int) (w c : List Int) (fs : List mFr) (kk v : Int) (st : zS) (r : Int) (s1 : zS) : Prop := gInv zgt s1 ∧ aFr m_rGo51 st s1 ∧ Z9 st s1 ∧ (r = 0 ∧ s1 170 8 = 0 ∧ s1 170 4 = p ∧ RDr s1 t n ∧ CDr (s1 170 35) (s1 170 34) (s1 188) (s1 189) (c ++ w))
def ct_rGo51 (t : Int → Int) (n k ph bg pr o p e : Int) (w c : List Int) (fs : List mFr) (kk v : Int) (st : zS) (Q : zQ) : Prop := rq_rGo51 t n k ph bg pr o p e w c fs kk v st ∧ (∀ (r : Int) (s1 : zS), en_rGo51 t n k ph bg pr o p e w c fs kk v st r s1 → Q (some (.inl r)) s1)
theorem ct_rGo51_m {t : Int → Int} {n k ph bg pr o p e : Int} {w c : List Int} {fs : List mFr} {kk v : Int} {st : zS} {Q Q' : zQ} (hQ : ∀ r st', Q r st' → Q' r st') (h : ct_rGo51 t n k ph bg pr o p e w c fs kk v st Q) : ct_rGo51 t n k ph bg pr o p e w c fs kk v st Q' := ⟨h.1, fun x0 x1 x2 => hQ _ _ (h.2 x0 x1 x2)⟩
def k_rGo51 (t : Int → Int) (n k ph bg pr o p e : Int) (w c : List Int) (fs : List mFr) (kk v : Int) : zCall := fun _ as st Q => match as with
  | [.inr (.inr (.inl z_o))] => z_o = 170 ∧ ct_rGo51 t n k ph bg pr o p e w c fs kk v st Q
  | _ => False
def m_rGo63 : aM := ([(170, 3), (170, 4), (170, 5), (170, 6), (170, 7), (170, 8), (170, 9), (170, 12), (170, 34), (170, 42), (170, 43), (170, 45), (170, 46)], [188, 189, 192, 193, 194, 195, 196, 197])
def rq_rGo63 (t : Int → Int) (n k ph bg pr o p e : Int) (w c : List Int) (fs : List mFr) (x : Int) (st : zS) : Prop := gInv zgt st ∧ (mcP t n st ((k, ph, bg, pr, w) :: fs) 1 (x) (c) (p)) ∧ (tk t n p 3 44 e ∧ k = 3 ∧ x = o + nots w ∧ 0 ≤ o)
def en_rGo63 (t : Int → Int) (n k ph bg pr o p e : Int) (w c : List Int) (fs : List mFr) (x : Int) (st : zS) (r : Int) (s1 : zS) : Prop := gInv zgt s1 ∧ aFr m_rGo63 st s1 ∧ Z9 st s1 ∧ (r = 1 ∧ mcP t n s1 ((4, 0, bg, pr, []) :: fs) 0 (o) (c ++ w) (e))
def ct_rGo63 (t : Int → Int) (n k ph bg pr o p e : Int) (w c : List Int) (fs : List mFr) (x : Int) (st : zS) (Q : zQ) : Prop := rq_rGo63 t n k ph bg pr o p e w c fs x st ∧ (∀ (r : Int) (s1 : zS), en_rGo63 t n k ph bg pr o p e w c fs x st r s1 → Q (some (.inl r)) s1)
theorem ct_rGo63_m {t : Int → Int} {n k ph bg pr o p e : Int} {w c : List Int} {fs : List mFr} {x : Int} {st : zS} {Q Q' : zQ} (hQ : ∀ r st', Q r st' → Q' r st') (h : ct_rGo63 t n k ph bg pr o p e w c fs x st Q) : ct_rGo63 t n k ph bg pr o p e w c fs x st Q' := ⟨h.1, fun x0 x1 x2 => hQ _ _ (h.2 x0 x1 x2)⟩
def k_rGo63 (t : Int → Int) (n k ph bg pr o p e : Int) (w c : List Int) (fs : List mFr) (x : Int) : zCall := fun _ as st Q => match as with
  | [.inr (.inr (.inl z_o))] => z_o = 170 ∧ ct_rGo63 t n k ph bg pr o p e w c fs x st Q
  | _ => False
def m_rGo66 : aM := ([(170, 3), (170, 4), (170, 5), (170, 6), (170, 7), (170, 8), (170, 9), (170, 12), (170, 34), (170, 42), (170, 43), (170, 45), (170, 46)], [188, 189, 192, 193, 194, 195, 196, 197])
def rq_rGo66 (t : Int → Int) (n k ph bg pr o p e : Int) (w c : List Int) (fs : List mFr) (x : Int) (st : zS) : Prop := gInv zgt st ∧ (mcP t n st ((k, ph, bg, pr, w) :: fs) 1 (x) (c) (p)) ∧ (tk t n p 3 44 e ∧ k = 6 ∧ x = o + nots w ∧ 0 ≤ o ∧ ¬ ph = 0)
def en_rGo66 (t : Int → Int) (n k ph bg pr o p e : Int) (w c : List Int) (fs : List mFr) (x : Int) (st : zS) (r : Int) (s1 : zS) : Prop := gInv zgt s1 ∧ aFr m_rGo66 st s1 ∧ Z9 st s1 ∧ (r = 1 ∧ mcP t n s1 ((3, 0, bg, pr, []) :: fs) 0 (o) (c ++ w) (e))
def ct_rGo66 (t : Int → Int) (n k ph bg pr o p e : Int) (w c : List Int) (fs : List mFr) (x : Int) (st : zS) (Q : zQ) : Prop := rq_rGo66 t n k ph bg pr o p e w c fs x st ∧ (∀ (r : Int) (s1 : zS), en_rGo66 t n k ph bg pr o p e w c fs x st r s1 → Q (some (.inl r)) s1)
theorem ct_rGo66_m {t : Int → Int} {n k ph bg pr o p e : Int} {w c : List Int} {fs : List mFr} {x : Int} {st : zS} {Q Q' : zQ} (hQ : ∀ r st', Q r st' → Q' r st') (h : ct_rGo66 t n k ph bg pr o p e w c fs x st Q) : ct_rGo66 t n k ph bg pr o p e w c fs x st Q' := ⟨h.1, fun x0 x1 x2 => hQ _ _ (h.2 x0 x1 x2)⟩
def k_rGo66 (t : Int → Int) (n k ph bg pr o p e : Int) (w c : List Int) (fs : List mFr) (x : Int) : zCall := fun _ as st Q => match as with
  | [.inr (.inr (.inl z_o))] => z_o = 170 ∧ ct_rGo66 t n k ph bg pr o p e w c fs x st Q
  | _ => False
def m_rGo72 : aM := ([(170, 3), (170, 4), (170, 5), (170, 6), (170, 7), (170, 8), (170, 9), (170, 12), (170, 34), (170, 42), (170, 43), (170, 45), (170, 46)], [188, 189, 192, 193, 194, 195, 196, 197])
def rq_rGo72 (t : Int → Int) (n k ph bg pr o p e : Int) (w c : List Int) (fs : List mFr) (x : Int) (st : zS) : Prop := gInv zgt st ∧ (mcP t n st ((k, ph, bg, pr, w) :: fs) 1 (x) (c) (p)) ∧ (tk t n p 3 41 e ∧ k = 2 ∧ x = o + 1 + nots w ∧ 0 ≤ o)
def en_rGo72 (t : Int → Int) (n k ph bg pr o p e : Int) (w c : List Int) (fs : List mFr) (x : Int) (st : zS) (r : Int) (s1 : zS) : Prop := gInv zgt s1 ∧ aFr m_rGo72 st s1 ∧ Z9 st s1 ∧ (r = 1 ∧ mcP t n s1 (fs) 1 (o) (c ++ w) (e))
def ct_rGo72 (t : Int → Int) (n k ph bg pr o p e : Int) (w c : List Int) (fs : List mFr) (x : Int) (st : zS) (Q : zQ) : Prop := rq_rGo72 t n k ph bg pr o p e w c fs x st ∧ (∀ (r : Int) (s1 : zS), en_rGo72 t n k ph bg pr o p e w c fs x st r s1 → Q (some (.inl r)) s1)
theorem ct_rGo72_m {t : Int → Int} {n k ph bg pr o p e : Int} {w c : List Int} {fs : List mFr} {x : Int} {st : zS} {Q Q' : zQ} (hQ : ∀ r st', Q r st' → Q' r st') (h : ct_rGo72 t n k ph bg pr o p e w c fs x st Q) : ct_rGo72 t n k ph bg pr o p e w c fs x st Q' := ⟨h.1, fun x0 x1 x2 => hQ _ _ (h.2 x0 x1 x2)⟩
def k_rGo72 (t : Int → Int) (n k ph bg pr o p e : Int) (w c : List Int) (fs : List mFr) (x : Int) : zCall := fun _ as st Q => match as with
  | [.inr (.inr (.inl z_o))] => z_o = 170 ∧ ct_rGo72 t n k ph bg pr o p e w c fs x st Q
  | _ => False
def m_rGo74 : aM := ([(170, 3), (170, 4), (170, 5), (170, 6), (170, 7), (170, 8), (170, 9), (170, 12), (170, 34), (170, 42), (170, 43), (170, 45), (170, 46)], [188, 189, 192, 193, 194, 195, 196, 197])
def rq_rGo74 (t : Int → Int) (n k ph bg pr o p e : Int) (w c : List Int) (fs : List mFr) (x : Int) (st : zS) : Prop := gInv zgt st ∧ (mcP t n st ((k, ph, bg, pr, w) :: fs) 1 (x) (c) (p)) ∧ (tk t n p 3 41 e ∧ k = 4 ∧ x = o + 1 + nots w ∧ 0 ≤ o ∧ 31 ≤ pr ∧ pr ≤ 44)
def en_rGo74 (t : Int → Int) (n k ph bg pr o p e : Int) (w c : List Int) (fs : List mFr) (x : Int) (st : zS) (r : Int) (s1 : zS) : Prop := gInv zgt s1 ∧ aFr m_rGo74 st s1 ∧ Z9 st s1 ∧ (r = 1 ∧ mcP t n s1 (fs) 1 (o) (c ++ (w ++ [pr])) (e))
def ct_rGo74 (t : Int → Int) (n k ph bg pr o p e : Int) (w c : List Int) (fs : List mFr) (x : Int) (st : zS) (Q : zQ) : Prop := rq_rGo74 t n k ph bg pr o p e w c fs x st ∧ (∀ (r : Int) (s1 : zS), en_rGo74 t n k ph bg pr o p e w c fs x st r s1 → Q (some (.inl r)) s1)
theorem ct_rGo74_m {t : Int → Int} {n k ph bg pr o p e : Int} {w c : List Int} {fs : List mFr} {x : Int} {st : zS} {Q Q' : zQ} (hQ : ∀ r st', Q r st' → Q' r st') (h : ct_rGo74 t n k ph bg pr o p e w c fs x st Q) : ct_rGo74 t n k ph bg pr o p e w c fs x st Q' := ⟨h.1, fun x0 x1 x2 => hQ _ _ (h.2 x0 x1 x2)⟩
def k_rGo74 (t : Int → Int) (n k ph bg pr o p e : Int) (w c : List Int) (fs : List mFr) (x : Int) : zCall := fun _ as st Q => match as with
  | [.inr (.inr (.inl z_o))] => z_o = 170 ∧ ct_rGo74 t n k ph bg pr o p e w c fs x st Q
  | _ => False
def m_rGo75 : aM := ([(170, 3), (170, 4), (170, 5), (170, 6), (170, 7), (170, 8), (170, 9), (170, 12), (170, 34), (170, 42), (170, 43), (170, 45), (170, 46)], [188, 189, 192, 193, 194, 195, 196, 197])
def rq_rGo75 (t : Int → Int) (n k ph bg pr o p e : Int) (w c : List Int) (fs : List mFr) (k2 ph2 bg2 pr2 x : Int) (w2 : List Int) (st : zS) : Prop := gInv zgt st ∧ (mcP t n st ((5, ph, bg, pr, w) :: (k2, ph2, bg2, pr2, w2) :: fs) 1 (x) (c) (p)) ∧ (tk t n p 3 93 e ∧ k = 5 ∧ ¬ ph = 0 ∧ x = o + 1 + nots w ∧ 0 ≤ o)
def en_rGo75 (t : Int → Int) (n k ph bg pr o p e : Int) (w c : List Int) (fs : List mFr) (k2 ph2 bg2 pr2 x : Int) (w2 : List Int) (st : zS) (r : Int) (s1 : zS) : Prop := gInv zgt s1 ∧ aFr m_rGo75 st s1 ∧ Z9 st s1 ∧ (r = 1 ∧ mcP t n s1 ((k2, 2, bg2, pr2, w2) :: fs) 1 (o) (c ++ w) (e))
def ct_rGo75 (t : Int → Int) (n k ph bg pr o p e : Int) (w c : List Int) (fs : List mFr) (k2 ph2 bg2 pr2 x : Int) (w2 : List Int) (st : zS) (Q : zQ) : Prop := rq_rGo75 t n k ph bg pr o p e w c fs k2 ph2 bg2 pr2 x w2 st ∧ (∀ (r : Int) (s1 : zS), en_rGo75 t n k ph bg pr o p e w c fs k2 ph2 bg2 pr2 x w2 st r s1 → Q (some (.inl r)) s1)
theorem ct_rGo75_m {t : Int → Int} {n k ph bg pr o p e : Int} {w c : List Int} {fs : List mFr} {k2 ph2 bg2 pr2 x : Int} {w2 : List Int} {st : zS} {Q Q' : zQ} (hQ : ∀ r st', Q r st' → Q' r st') (h : ct_rGo75 t n k ph bg pr o p e w c fs k2 ph2 bg2 pr2 x w2 st Q) : ct_rGo75 t n k ph bg pr o p e w c fs k2 ph2 bg2 pr2 x w2 st Q' := ⟨h.1, fun x0 x1 x2 => hQ _ _ (h.2 x0 x1 x2)⟩
def k_rGo75 (t : Int → Int) (n k ph bg pr o p e : Int) (w c : List Int) (fs : List mFr) (k2 ph2 bg2 pr2 x : Int) (w2 : List Int) : zCall := fun _ as st Q => match as with
  | [.inr (.inr (.inl z_o))] => z_o = 170 ∧ ct_rGo75 t n k ph bg pr o p e w c fs k2 ph2 bg2 pr2 x w2 st Q
  | _ => False
def m_rGoF4 : aM := ([(170, 3), (170, 4), (170, 5), (170, 6), (170, 7), (170, 8), (170, 9), (170, 12), (170, 34), (170, 42), (170, 43), (170, 45), (170, 46)], [188, 189, 192, 193, 194, 195, 196, 197])
def rq_rGoF4 (t : Int → Int) (n k ph bg pr o p e : Int) (w c : List Int) (fs : List mFr) (kk v : Int) (st : zS) : Prop := gInv zgt st ∧ (mcP t n st ((k, ph, bg, pr, w) :: fs) 1 (o) (c) (p)) ∧ (tk t n p kk v e ∧ ¬ kk = 5 ∧ isT k ∧ ph = 0 ∧ ¬ arS kk v ∧ ¬ cmS kk v)
def en_rGoF4 (t : Int → Int) (n k ph bg pr o p e : Int) (w c : List Int) (fs : List mFr) (kk v : Int) (st : zS) (r : Int) (s1 : zS) : Prop := gInv zgt s1 ∧ aFr m_rGoF4 st s1 ∧ Z9 st s1 ∧ (0 < s1 170 8 ∧ (r = 0 ∨ r = 1))
def ct_rGoF4 (t : Int → Int) (n k ph bg pr o p e : Int) (w c : List Int) (fs : List mFr) (kk v : Int) (st : zS) (Q : zQ) : Prop := rq_rGoF4 t n k ph bg pr o p e w c fs kk v st ∧ (∀ (r : Int) (s1 : zS), en_rGoF4 t n k ph bg pr o p e w c fs kk v st r s1 → Q (some (.inl r)) s1)
theorem ct_rGoF4_m {t : Int → Int} {n k ph bg pr o p e : Int} {w c : List Int} {fs : List mFr} {kk v : Int} {st : zS} {Q Q' : zQ} (hQ : ∀ r st', Q r st' → Q' r st') (h : ct_rGoF4 t n k ph bg pr o p e w c fs kk v st Q) : ct_rGoF4 t n k ph bg pr o p e w c fs kk v st Q' := ⟨h.1, fun x0 x1 x2 => hQ _ _ (h.2 x0 x1 x2)⟩
def k_rGoF4 (t : Int → Int) (n k ph bg pr o p e : Int) (w c : List Int) (fs : List mFr) (kk v : Int) : zCall := fun _ as st Q => match as with
  | [.inr (.inr (.inl z_o))] => z_o = 170 ∧ ct_rGoF4 t n k ph bg pr o p e w c fs kk v st Q
  | _ => False
def m_rGoF63 : aM := ([(170, 3), (170, 4), (170, 5), (170, 6), (170, 7), (170, 8), (170, 9), (170, 12), (170, 34), (170, 42), (170, 43), (170, 45), (170, 46)], [188, 189, 192, 193, 194, 195, 196, 197])
def rq_rGoF63 (t : Int → Int) (n k ph bg pr o p e : Int) (w c : List Int) (fs : List mFr) (kk v : Int) (st : zS) : Prop := gInv zgt st ∧ (mcP t n st ((k, ph, bg, pr, w) :: fs) 1 (o) (c) (p)) ∧ (tk t n p kk v e ∧ ¬ kk = 5 ∧ k = 3 ∧ ¬ (kk = 3 ∧ v = 44) ∧ (ph < 2 → ¬ arS kk v))
def en_rGoF63 (t : Int → Int) (n k ph bg pr o p e : Int) (w c : List Int) (fs : List mFr) (kk v : Int) (st : zS) (r : Int) (s1 : zS) : Prop := gInv zgt s1 ∧ aFr m_rGoF63 st s1 ∧ Z9 st s1 ∧ (0 < s1 170 8 ∧ (r = 0 ∨ r = 1))
def ct_rGoF63 (t : Int → Int) (n k ph bg pr o p e : Int) (w c : List Int) (fs : List mFr) (kk v : Int) (st : zS) (Q : zQ) : Prop := rq_rGoF63 t n k ph bg pr o p e w c fs kk v st ∧ (∀ (r : Int) (s1 : zS), en_rGoF63 t n k ph bg pr o p e w c fs kk v st r s1 → Q (some (.inl r)) s1)
theorem ct_rGoF63_m {t : Int → Int} {n k ph bg pr o p e : Int} {w c : List Int} {fs : List mFr} {kk v : Int} {st : zS} {Q Q' : zQ} (hQ : ∀ r st', Q r st' → Q' r st') (h : ct_rGoF63 t n k ph bg pr o p e w c fs kk v st Q) : ct_rGoF63 t n k ph bg pr o p e w c fs kk v st Q' := ⟨h.1, fun x0 x1 x2 => hQ _ _ (h.2 x0 x1 x2)⟩
def k_rGoF63 (t : Int → Int) (n k ph bg pr o p e : Int) (w c : List Int) (fs : List mFr) (kk v : Int) : zCall := fun _ as st Q => match as with
  | [.inr (.inr (.inl z_o))] => z_o = 170 ∧ ct_rGoF63 t n k ph bg pr o p e w c fs kk v st Q
  | _ => False
def m_rGoF66 : aM := ([(170, 3), (170, 4), (170, 5), (170, 6), (170, 7), (170, 8), (170, 9), (170, 12), (170, 34), (170, 42), (170, 43), (170, 45), (170, 46)], [188, 189, 192, 193, 194, 195, 196, 197])
def rq_rGoF66 (t : Int → Int) (n k ph bg pr o p e : Int) (w c : List Int) (fs : List mFr) (kk v : Int) (st : zS) : Prop := gInv zgt st ∧ (mcP t n st ((k, ph, bg, pr, w) :: fs) 1 (o) (c) (p)) ∧ (tk t n p kk v e ∧ ¬ kk = 5 ∧ k = 6 ∧ ¬ (kk = 3 ∧ v = 44) ∧ (ph < 2 → ¬ arS kk v) ∧ ¬ ph = 0 ∧ ¬ aoS kk v)
def en_rGoF66 (t : Int → Int) (n k ph bg pr o p e : Int) (w c : List Int) (fs : List mFr) (kk v : Int) (st : zS) (r : Int) (s1 : zS) : Prop := gInv zgt s1 ∧ aFr m_rGoF66 st s1 ∧ Z9 st s1 ∧ (0 < s1 170 8 ∧ (r = 0 ∨ r = 1))
def ct_rGoF66 (t : Int → Int) (n k ph bg pr o p e : Int) (w c : List Int) (fs : List mFr) (kk v : Int) (st : zS) (Q : zQ) : Prop := rq_rGoF66 t n k ph bg pr o p e w c fs kk v st ∧ (∀ (r : Int) (s1 : zS), en_rGoF66 t n k ph bg pr o p e w c fs kk v st r s1 → Q (some (.inl r)) s1)
theorem ct_rGoF66_m {t : Int → Int} {n k ph bg pr o p e : Int} {w c : List Int} {fs : List mFr} {kk v : Int} {st : zS} {Q Q' : zQ} (hQ : ∀ r st', Q r st' → Q' r st') (h : ct_rGoF66 t n k ph bg pr o p e w c fs kk v st Q) : ct_rGoF66 t n k ph bg pr o p e w c fs kk v st Q' := ⟨h.1, fun x0 x1 x2 => hQ _ _ (h.2 x0 x1 x2)⟩
def k_rGoF66 (t : Int → Int) (n k ph bg pr o p e : Int) (w c : List Int) (fs : List mFr) (kk v : Int) : zCall := fun _ as st Q => match as with
  | [.inr (.inr (.inl z_o))] => z_o = 170 ∧ ct_rGoF66 t n k ph bg pr o p e w c fs kk v st Q
  | _ => False
def m_rGoF7 : aM := ([(170, 3), (170, 4), (170, 5), (170, 6), (170, 7), (170, 8), (170, 9), (170, 12), (170, 34), (170, 42), (170, 43), (170, 45), (170, 46)], [188, 189, 192, 193, 194, 195, 196, 197])
def rq_rGoF7 (t : Int → Int) (n k ph bg pr o p e : Int) (w c : List Int) (fs : List mFr) (kk v : Int) (st : zS) : Prop := gInv zgt st ∧ (mcP t n st ((k, ph, bg, pr, w) :: fs) 1 (o) (c) (p)) ∧ (tk t n p kk v e ∧ ¬ kk = 5 ∧ (k = 2 ∨ k = 4) ∧ ¬ (kk = 3 ∧ v = 41) ∧ (ph < 2 → ¬ arS kk v))
def en_rGoF7 (t : Int → Int) (n k ph bg pr o p e : Int) (w c : List Int) (fs : List mFr) (kk v : Int) (st : zS) (r : Int) (s1 : zS) : Prop := gInv zgt s1 ∧ aFr m_rGoF7 st s1 ∧ Z9 st s1 ∧ (0 < s1 170 8 ∧ (r = 0 ∨ r = 1))
def ct_rGoF7 (t : Int → Int) (n k ph bg pr o p e : Int) (w c : List Int) (fs : List mFr) (kk v : Int) (st : zS) (Q : zQ) : Prop := rq_rGoF7 t n k ph bg pr o p e w c fs kk v st ∧ (∀ (r : Int) (s1 : zS), en_rGoF7 t n k ph bg pr o p e w c fs kk v st r s1 → Q (some (.inl r)) s1)
theorem ct_rGoF7_m {t : Int → Int} {n k ph bg pr o p e : Int} {w c : List Int} {fs : List mFr} {kk v : Int} {st : zS} {Q Q' : zQ} (hQ : ∀ r st', Q r st' → Q' r st') (h : ct_rGoF7 t n k ph bg pr o p e w c fs kk v st Q) : ct_rGoF7 t n k ph bg pr o p e w c fs kk v st Q' := ⟨h.1, fun x0 x1 x2 => hQ _ _ (h.2 x0 x1 x2)⟩
def k_rGoF7 (t : Int → Int) (n k ph bg pr o p e : Int) (w c : List Int) (fs : List mFr) (kk v : Int) : zCall := fun _ as st Q => match as with
  | [.inr (.inr (.inl z_o))] => z_o = 170 ∧ ct_rGoF7 t n k ph bg pr o p e w c fs kk v st Q
  | _ => False
def m_rGoF75 : aM := ([(170, 3), (170, 4), (170, 5), (170, 6), (170, 7), (170, 8), (170, 9), (170, 12), (170, 34), (170, 42), (170, 43), (170, 45), (170, 46)], [188, 189, 192, 193, 194, 195, 196, 197])
def rq_rGoF75 (t : Int → Int) (n k ph bg pr o p e : Int) (w c : List Int) (fs : List mFr) (kk v : Int) (st : zS) : Prop := gInv zgt st ∧ (mcP t n st ((k, ph, bg, pr, w) :: fs) 1 (o) (c) (p)) ∧ (tk t n p kk v e ∧ ¬ kk = 5 ∧ k = 5 ∧ ¬ (kk = 3 ∧ v = 93) ∧ (ph < 2 → ¬ arS kk v) ∧ ¬ ph = 0 ∧ ¬ aoS kk v)
def en_rGoF75 (t : Int → Int) (n k ph bg pr o p e : Int) (w c : List Int) (fs : List mFr) (kk v : Int) (st : zS) (r : Int) (s1 : zS) : Prop := gInv zgt s1 ∧ aFr m_rGoF75 st s1 ∧ Z9 st s1 ∧ (0 < s1 170 8 ∧ (r = 0 ∨ r = 1))
def ct_rGoF75 (t : Int → Int) (n k ph bg pr o p e : Int) (w c : List Int) (fs : List mFr) (kk v : Int) (st : zS) (Q : zQ) : Prop := rq_rGoF75 t n k ph bg pr o p e w c fs kk v st ∧ (∀ (r : Int) (s1 : zS), en_rGoF75 t n k ph bg pr o p e w c fs kk v st r s1 → Q (some (.inl r)) s1)
theorem ct_rGoF75_m {t : Int → Int} {n k ph bg pr o p e : Int} {w c : List Int} {fs : List mFr} {kk v : Int} {st : zS} {Q Q' : zQ} (hQ : ∀ r st', Q r st' → Q' r st') (h : ct_rGoF75 t n k ph bg pr o p e w c fs kk v st Q) : ct_rGoF75 t n k ph bg pr o p e w c fs kk v st Q' := ⟨h.1, fun x0 x1 x2 => hQ _ _ (h.2 x0 x1 x2)⟩
def k_rGoF75 (t : Int → Int) (n k ph bg pr o p e : Int) (w c : List Int) (fs : List mFr) (kk v : Int) : zCall := fun _ as st Q => match as with
  | [.inr (.inr (.inl z_o))] => z_o = 170 ∧ ct_rGoF75 t n k ph bg pr o p e w c fs kk v st Q
  | _ => False
def m_rGoF0 : aM := ([(170, 3), (170, 4), (170, 5), (170, 6), (170, 7), (170, 8), (170, 9), (170, 12), (170, 34), (170, 42), (170, 43), (170, 45), (170, 46)], [188, 189, 192, 193, 194, 195, 196, 197])
def rq_rGoF0 (t : Int → Int) (n k ph bg pr o p e : Int) (w c : List Int) (fs : List mFr) (v : Int) (st : zS) : Prop := gInv zgt st ∧ (mcP t n st ((k, ph, bg, pr, w) :: fs) 1 (o) (c) (p)) ∧ (tk t n p 5 v e)
def en_rGoF0 (t : Int → Int) (n k ph bg pr o p e : Int) (w c : List Int) (fs : List mFr) (v : Int) (st : zS) (r : Int) (s1 : zS) : Prop := gInv zgt s1 ∧ aFr m_rGoF0 st s1 ∧ Z9 st s1 ∧ (0 < s1 170 8 ∧ (r = 0 ∨ r = 1))
def ct_rGoF0 (t : Int → Int) (n k ph bg pr o p e : Int) (w c : List Int) (fs : List mFr) (v : Int) (st : zS) (Q : zQ) : Prop := rq_rGoF0 t n k ph bg pr o p e w c fs v st ∧ (∀ (r : Int) (s1 : zS), en_rGoF0 t n k ph bg pr o p e w c fs v st r s1 → Q (some (.inl r)) s1)
theorem ct_rGoF0_m {t : Int → Int} {n k ph bg pr o p e : Int} {w c : List Int} {fs : List mFr} {v : Int} {st : zS} {Q Q' : zQ} (hQ : ∀ r st', Q r st' → Q' r st') (h : ct_rGoF0 t n k ph bg pr o p e w c fs v st Q) : ct_rGoF0 t n k ph bg pr o p e w c fs v st Q' := ⟨h.1, fun x0 x1 x2 => hQ _ _ (h.2 x0 x1 x2)⟩
def k_rGoF0 (t : Int → Int) (n k ph bg pr o p e : Int) (w c : List Int) (fs : List mFr) (v : Int) : zCall := fun _ as st Q => match as with
  | [.inr (.inr (.inl z_o))] => z_o = 170 ∧ ct_rGoF0 t n k ph bg pr o p e w c fs v st Q
  | _ => False
section Rz4
variable {cl : Nat → zCall}
set_option maxHeartbeats 4000000 in
set_option maxRecDepth 100000 in
theorem c_rGo143 (hTb : aTb zSh rx_tb cl) {t : Int → Int} {n k ph bg pr o p e : Int} {w c : List Int} {fs : List mFr} {uu : List Int} {D : Nat} (hD : 3 ≤ D) {st : zS} {Q : zQ} (h : ct_rGo143 t n k ph bg pr o p e w c fs uu st Q) : cl D 197 [.inr (.inr (.inl 170))] st Q := by
  obtain ⟨d, rfl⟩ : ∃ d, D = d + 1 := ⟨D - 1, by omega⟩
  refine hTb d 197 (rx_m197, 5, 0, 0, 2) rfl _ _ _ (Nat.le_of_ble_eq_true rfl) (fun K hcl hsf hsl => ?_)
  have hcm : zmo (wcL [(181, k_rLex), (195, k_isTest), (183, k_isWord), (182, k_isSign), (149, k_rNext t n), (189, k_add), (192, k_holdsBack), (191, k_rJoins k ph bg pr uu w fs c)]) (cl d) := (wcL_m (wm_cons (k_rLex_m hTb (by omega)) (wm_cons (k_isTest_m hTb (by omega)) (wm_cons (k_isWord_m hTb (by omega)) (wm_cons (k_isSign_m hTb (by omega)) (wm_cons (k_rNext_m hTb (by omega)) (wm_cons (k_add_m hTb (by omega)) (wm_cons (k_holdsBack_m hTb (by omega)) (wm_cons (k_rJoins_m hTb (by omega)) wm_nil)))))))))
  obtain ⟨hR, hQ⟩ := h
  obtain ⟨hG, mp, ht⟩ := hR
  change mcP t n st ((k, ph, bg, pr, uu ++ w) :: fs) 1 (o) (c) (p) at mp
  change tk t n p 3 43 e ∧ ph < 2 ∧ RG uu 5 ∧ TR w 5 ∧ w.length ≤ 14 at ht
  obtain ⟨mf, mo, mn, mpp, mrd, mq, mbd, mz1, mz2, mz3⟩ := mp
  simp only [List.length_cons] at mz3
  have mq0 := mq
  obtain ⟨mfr, mwb, mcd⟩ := mq
  have mt := FR_top mfr
  have mb := FR_bnd _ _ _ mwb mfr
  simp only [List.length_cons] at mb
  have ml := WB_hd mwb
  have mcl := mcd.1
  have mlw := FR_len mb.2.1 mfr
  have mnb := nots_b w
  have tf := r_sig mrd (by rw [mpp]; exact ht.1)
  have tnn : nots uu = 0 := RG_nots (RG_le ht.2.2.1 (by omega))
  have g1 := g_codes hG
  have g2 := g_in hG
  have g3 := g_isClever hG
  have g4 := g_deep hG
  have g5 := g_open hG
  have g6 := g_opMany hG
  have g7 := g_signAt hG
  have g8 := g_signEnd hG
  have g9 := g_faultKind hG
  have g10 := g_size hG
  have g11 := g_sign hG
  have g12 := g_lexAt hG
  have g13 := g_value hG
  have g14 := g_word hG
  have g15 := g_operand hG
  refine yr1_ok (Rt := Q) (wc := (wcL [(181, k_rLex), (195, k_isTest), (183, k_isWord), (182, k_isSign), (149, k_rNext t n), (189, k_add), (192, k_holdsBack), (191, k_rJoins k ph bg pr uu w fs c)])) (stp := []) hcm hcl [] 500 ?_
  show (170 = 170 ∧ (rq_rLex  st ∧ (((st 170 8 ≤ (0 : Int) → ((-2147483648 ≤ (st 170 42) - 1 ∧ (st 170 42) - 1 ≤ 2147483647) ∧ ((0 ≤ (st 170 42) - 1 ∧ (st 170 42) - 1 < 20) ∧ (∀ (r17 : Int), en_isTest (st 192 ((st 170 42) - 1 : Int).toNat) st r17 → ((0 ≤ (st 170 42) - 1 ∧ (st 170 42) - 1 < 20) ∧ (((2 : Int) ≤ st 193 ((st 170 42) - 1 : Int).toNat → _) ∧ (¬ ((2 : Int) ≤ st 193 ((st 170 42) - 1 : Int).toNat) → (170 = 170 ∧ (∀ (r18 : Int), en_isSign (43) st r18 → ((¬ r18 = (0 : Int) → (170 = 170 ∧ (∀ (r19 : Int), en_isSign (43) st r19 → ((¬ r19 = (0 : Int) → (170 = 170 ∧ (rq_rJoins k ph bg pr uu w fs c (5) st ∧ (∀ (s20 : zS), en_rJoins k ph bg pr uu w fs c (5) st s20 → (170 = 170 ∧ (∀ (r21 : Int), en_isSign (43) s20 r21 → ((r21 = (0 : Int) → _) ∧ (¬ (r21 = (0 : Int)) → (170 = 170 ∧ (rq_holdsBack (31) s20 ∧ ((170 = 170 ∧ (rq_rNext t n  (zup (zup s20 197 (s20 170 45 : Int).toNat (31)) 170 45 ((s20 170 45) + 1)) ∧ (∀ (s23 : zS), en_rNext t n  (zup (zup s20 197 (s20 170 45 : Int).toNat (31)) 170 45 ((s20 170 45) + 1)) s23 → ((0 = (0 : Int) ∨ 0 = (1 : Int)) ∧ ((1 = (0 : Int) ∨ 1 = (1 : Int)) ∧ Q (some (.inl 1)) (zup s23 170 46 0))))))))))))))))) ∧ (¬ (¬ r19 = (0 : Int)) → _))))) ∧ (¬ (¬ r18 = (0 : Int)) → _))))))))))) ∧ (¬ (st 170 8 ≤ (0 : Int)) → _)))))
  refine ⟨rfl, ⟨hG, (show st 170 12 = -1 from by omega)⟩, ?_⟩
  refine ⟨fun h24 => ?_, fun h24 => (by exfalso; omega)⟩
  refine ⟨by omega, ?_⟩
  have g25 := g_frame hG ((st 170 42) - 1 : Int).toNat
  refine ⟨by omega, ?_⟩
  refine fun r17 q17 => ?_
  have b17 := q17
  change (r17 = 0 ∨ r17 = 1) ∧ (r17 = 1 ↔ (st 192 ((st 170 42) - 1 : Int).toNat) = 1 ∨ (st 192 ((st 170 42) - 1 : Int).toNat) = 5 ∨ (st 192 ((st 170 42) - 1 : Int).toNat) = 6) at b17
  have g26 := g_phase hG ((st 170 42) - 1 : Int).toNat
  refine ⟨by omega, ?_⟩
  refine ⟨fun h27 => (by exfalso; omega), fun h27 => ?_⟩
  refine ⟨rfl, fun r18 q18 => ?_⟩
  have b18 := q18
  change (r18 = 0 ∨ r18 = 1) ∧ (r18 = 1 ↔ st 170 3 = 3 ∧ st 170 6 = (43)) at b18
  refine ⟨fun h28 => ?_, fun h28 => (by exfalso; clear hQ; omega)⟩
  clear h28 b18
  refine ⟨rfl, fun r19 q19 => ?_⟩
  have b19 := q19
  change (r19 = 0 ∨ r19 = 1) ∧ (r19 = 1 ↔ st 170 3 = 3 ∧ st 170 6 = (43)) at b19
  refine ⟨fun h29 => ?_, fun h29 => (by exfalso; clear hQ; omega)⟩
  clear h29 b19
  refine ⟨rfl, ⟨hG, (show FR (st 192) (st 193) (st 194) (st 195) (st 196) (st 197) ((k, ph, bg, pr, uu ++ w) :: fs) (st 170 42) (st 170 45) from mfr), (show WB ((k, ph, bg, pr, uu ++ w) :: fs) from mwb), (show RG uu (5) from ht.2.2.1), (show TR w (5) from ht.2.2.2.1), (show CDr (st 170 35) (st 170 34) (st 188) (st 189) (c) from mcd), (show st 170 34 + st 170 45 ≤ 1600 ∧ 0 ≤ st 170 43 ∧ st 170 43 ≤ 7 ∧ st 170 42 ≤ 9 from by omega)⟩, fun s20 q20 => ?_⟩
  obtain ⟨gs20, fs20, yq20, fr20, cd20, op20, cm20⟩ := q20
  change FR (s20 192) (s20 193) (s20 194) (s20 195) (s20 196) (s20 197) ((k, ph, bg, pr, w) :: fs) (s20 170 42) (s20 170 45) at fr20
  have e30 : s20 170 42 = st 170 42 := fs20 170 42 rfl rfl
  have g31 := g_opMany gs20
  change CDr (s20 170 35) (s20 170 34) (s20 188) (s20 189) (c ++ uu) at cd20
  have e32 : s20 170 35 = st 170 35 := fs20 170 35 rfl rfl
  have g33 := g_codes gs20
  change s20 170 43 = st 170 43 - nots uu at op20
  have g34 := g_open gs20
  change s20 170 34 + s20 170 45 = st 170 34 + st 170 45 at cm20
  have mwj : WB ((k, ph, bg, pr, w) :: fs) := WB_c (by have q := WB_hd mwb; rw [List.length_append] at q; omega) (fun x hx => WB_el mwb x (List.mem_append_right _ hx)) (WB_tl mwb)
  have mbj := FR_bnd _ _ _ mwj fr20
  simp only [List.length_cons] at mbj
  have mcj := cd20.1
  rw [List.length_append] at mcj
  have e35 : s20 170 3 = st 170 3 := fs20 170 3 rfl rfl
  have e36 : s20 170 6 = st 170 6 := fs20 170 6 rfl rfl
  have e37 : s20 170 7 = st 170 7 := fs20 170 7 rfl rfl
  have e38 : s20 170 12 = st 170 12 := fs20 170 12 rfl rfl
  have e39 : s20 170 8 = st 170 8 := fs20 170 8 rfl rfl
  have e40 : s20 170 4 = st 170 4 := fs20 170 4 rfl rfl
  have e41 : s20 170 5 = st 170 5 := fs20 170 5 rfl rfl
  refine ⟨rfl, fun r21 q21 => ?_⟩
  have b21 := q21
  change (r21 = 0 ∨ r21 = 1) ∧ (r21 = 1 ↔ s20 170 3 = 3 ∧ s20 170 6 = (43)) at b21
  refine ⟨fun h42 => (by exfalso; clear hQ; omega), fun h42 => ?_⟩
  clear h42 b21
  refine ⟨rfl, ⟨gs20, (show 0 ≤ s20 170 45 ∧ s20 170 45 ≤ 499 from by omega)⟩, ?_⟩
  refine ⟨rfl, ⟨(gInv_up (gInv_up gs20 (p_ops (by omega))) (p_opMany (by omega))), (show RDr (zup (zup s20 197 (s20 170 45 : Int).toNat (31)) 170 45 ((s20 170 45) + 1)) t n from (show RDr (zup (zup s20 197 (s20 170 45 : Int).toNat (31)) 170 45 ((s20 170 45) + 1)) t n from (RDr_of (fs20 170 2 rfl rfl) (fun i => fs20 171 i rfl rfl) (fs20 170 3 rfl rfl) (fs20 170 4 rfl rfl) (fs20 170 5 rfl rfl) (fs20 170 6 rfl rfl) (fs20 170 7 rfl rfl) (fs20 170 12 rfl rfl) mrd))), (show s20 170 12 = -1 from by omega)⟩, fun s23 q23 => ?_⟩
  obtain ⟨gs23, fs23, rd23, nx23⟩ := q23
  change RDr s23 t n at rd23
  change NXr (zup (zup s20 197 (s20 170 45 : Int).toNat (31)) 170 45 ((s20 170 45) + 1)) s23 t n at nx23
  refine ⟨by omega, ?_⟩
  refine ⟨by omega, ?_⟩
  have e43 : s23 170 8 = s20 170 8 := fs23 170 8 rfl rfl
  have e44 : s23 170 43 = s20 170 43 := fs23 170 43 rfl rfl
  have e45 : s23 170 34 = s20 170 34 := fs23 170 34 rfl rfl
  have e46 : s23 170 45 = ((s20 170 45) + 1) := fs23 170 45 rfl rfl
  have e47 : s23 170 42 = s20 170 42 := fs23 170 42 rfl rfl
  have g48 := g_signAt gs23
  exact hQ _ _ ⟨(gInv_up gs23 (p_operand (by omega))), (fr_f (fr_tr (fr_f (fr_a (fr_tr (fr_rf _ _) fs20 rfl) rfl) rfl) fs23 rfl) rfl), (Z9_up (Z9_tr (Z9_up (Z9_up yq20 (by decide)) (by decide)) ((show aFr m_rGo143 st (zup (zup s20 197 (s20 170 45 : Int).toNat (31)) 170 45 ((s20 170 45) + 1)) from (fr_f (fr_a (fr_tr (fr_rf _ _) fs20 rfl) rfl) rfl)) 170 35 rfl rfl) (Z9_fr fs23 (fun _ => rfl) rfl)) (by decide)), (show (1 : Int) = 1 ∧ mcP t n (zup s23 170 46 0) ((k, ph, bg, pr, 31 :: w) :: fs) 0 (o) (c ++ uu) (e) from (by
            have tkk := ht.1
            have hp : s23 170 4 = e := NXr_e (st := (zup (zup s20 197 (s20 170 45 : Int).toNat (31)) 170 45 ((s20 170 45) + 1))) (show NXr (zup (zup s20 197 (s20 170 45 : Int).toNat (31)) 170 45 ((s20 170 45) + 1)) s23 t n from nx23) (show tk t n ((zup (zup s20 197 (s20 170 45 : Int).toNat (31)) 170 45 ((s20 170 45) + 1)) 170 4) _ _ e from by rw [show (zup (zup s20 197 (s20 170 45 : Int).toNat (31)) 170 45 ((s20 170 45) + 1)) 170 4 = p from (show s20 170 4 = p from by omega)]; exact tkk) (by omega)
            have hl := tk_lt tkk (show 0 ≤ p from by rw [← mpp]; exact mrd.2.1.1) (by omega)
            refine ⟨rfl, (show s23 170 8 = 0 from by omega), (show (0 : Int) = 0 from rfl), (show s23 170 43 = o from by omega), hp, (show RDr _ t n from rd23), ?_, (show s23 170 34 + s23 170 45 + s23 170 42 ≤ e from by omega), by omega, by omega, by first | omega | (simp only [List.length_cons]; omega) | (simp only [List.length_cons] at mz3 ⊢; omega)⟩
            exact (mcQ_of (fun i => fs23 192 i rfl rfl) (fun i => fs23 193 i rfl rfl) (fun i => fs23 194 i rfl rfl) (fun i => fs23 195 i rfl rfl) (fun i => fs23 196 i rfl rfl) (fun i => fs23 197 i rfl rfl) (fs23 170 42 rfl rfl) (fs23 170 45 rfl rfl) (fs23 170 35 rfl rfl) (fs23 170 34 rfl rfl) (fun i => fs23 188 i rfl rfl) (fun i => fs23 189 i rfl rfl) (show mcQ (zup (zup s20 197 (s20 170 45 : Int).toNat (31)) 170 45 ((s20 170 45) + 1)) ((k, ph, bg, pr, 31 :: w) :: fs) (c ++ uu) from ⟨FR_hold 31 mbj.2.1 fr20, WB_c (by rw [List.length_cons]; omega) (fun x hx => by rcases List.mem_cons.mp hx with z | z; omega; exact WB_el mwj x z) (WB_tl mwj), cd20⟩))))⟩
theorem k_rGo143_m (hTb : aTb zSh rx_tb cl) {t : Int → Int} {n k ph bg pr o p e : Int} {w c : List Int} {fs : List mFr} {uu : List Int} {D : Nat} (hD : 3 ≤ D) : ∀ as st (Q Q' : zQ), (∀ r st', Q r st' → Q' r st') → (k_rGo143 t n k ph bg pr o p e w c fs uu) 197 as st Q → cl D 197 as st Q' := by
  intro as st Q Q' hQ h
  unfold k_rGo143 at h
  split at h
  · obtain ⟨rfl, h⟩ := h
    exact c_rGo143 hTb hD (ct_rGo143_m hQ h)
  · exact h.elim
set_option maxHeartbeats 4000000 in
set_option maxRecDepth 100000 in
theorem c_rGo145 (hTb : aTb zSh rx_tb cl) {t : Int → Int} {n k ph bg pr o p e : Int} {w c : List Int} {fs : List mFr} {uu : List Int} {D : Nat} (hD : 3 ≤ D) {st : zS} {Q : zQ} (h : ct_rGo145 t n k ph bg pr o p e w c fs uu st Q) : cl D 197 [.inr (.inr (.inl 170))] st Q := by
  obtain ⟨d, rfl⟩ : ∃ d, D = d + 1 := ⟨D - 1, by omega⟩
  refine hTb d 197 (rx_m197, 5, 0, 0, 2) rfl _ _ _ (Nat.le_of_ble_eq_true rfl) (fun K hcl hsf hsl => ?_)
  have hcm : zmo (wcL [(181, k_rLex), (195, k_isTest), (183, k_isWord), (182, k_isSign), (149, k_rNext t n), (189, k_add), (192, k_holdsBack), (191, k_rJoins k ph bg pr uu w fs c)]) (cl d) := (wcL_m (wm_cons (k_rLex_m hTb (by omega)) (wm_cons (k_isTest_m hTb (by omega)) (wm_cons (k_isWord_m hTb (by omega)) (wm_cons (k_isSign_m hTb (by omega)) (wm_cons (k_rNext_m hTb (by omega)) (wm_cons (k_add_m hTb (by omega)) (wm_cons (k_holdsBack_m hTb (by omega)) (wm_cons (k_rJoins_m hTb (by omega)) wm_nil)))))))))
  obtain ⟨hR, hQ⟩ := h
  obtain ⟨hG, mp, ht⟩ := hR
  change mcP t n st ((k, ph, bg, pr, uu ++ w) :: fs) 1 (o) (c) (p) at mp
  change tk t n p 3 45 e ∧ ph < 2 ∧ RG uu 5 ∧ TR w 5 ∧ w.length ≤ 14 at ht
  obtain ⟨mf, mo, mn, mpp, mrd, mq, mbd, mz1, mz2, mz3⟩ := mp
  simp only [List.length_cons] at mz3
  have mq0 := mq
  obtain ⟨mfr, mwb, mcd⟩ := mq
  have mt := FR_top mfr
  have mb := FR_bnd _ _ _ mwb mfr
  simp only [List.length_cons] at mb
  have ml := WB_hd mwb
  have mcl := mcd.1
  have mlw := FR_len mb.2.1 mfr
  have mnb := nots_b w
  have tf := r_sig mrd (by rw [mpp]; exact ht.1)
  have tnn : nots uu = 0 := RG_nots (RG_le ht.2.2.1 (by omega))
  have g1 := g_codes hG
  have g2 := g_in hG
  have g3 := g_isClever hG
  have g4 := g_deep hG
  have g5 := g_open hG
  have g6 := g_opMany hG
  have g7 := g_signAt hG
  have g8 := g_signEnd hG
  have g9 := g_faultKind hG
  have g10 := g_size hG
  have g11 := g_sign hG
  have g12 := g_lexAt hG
  have g13 := g_value hG
  have g14 := g_word hG
  have g15 := g_operand hG
  refine yr1_ok (Rt := Q) (wc := (wcL [(181, k_rLex), (195, k_isTest), (183, k_isWord), (182, k_isSign), (149, k_rNext t n), (189, k_add), (192, k_holdsBack), (191, k_rJoins k ph bg pr uu w fs c)])) (stp := []) hcm hcl [] 500 ?_
  show (170 = 170 ∧ (rq_rLex  st ∧ (((st 170 8 ≤ (0 : Int) → ((-2147483648 ≤ (st 170 42) - 1 ∧ (st 170 42) - 1 ≤ 2147483647) ∧ ((0 ≤ (st 170 42) - 1 ∧ (st 170 42) - 1 < 20) ∧ (∀ (r17 : Int), en_isTest (st 192 ((st 170 42) - 1 : Int).toNat) st r17 → ((0 ≤ (st 170 42) - 1 ∧ (st 170 42) - 1 < 20) ∧ (((2 : Int) ≤ st 193 ((st 170 42) - 1 : Int).toNat → _) ∧ (¬ ((2 : Int) ≤ st 193 ((st 170 42) - 1 : Int).toNat) → (170 = 170 ∧ (∀ (r18 : Int), en_isSign (43) st r18 → ((¬ r18 = (0 : Int) → _) ∧ (¬ (¬ r18 = (0 : Int)) → (170 = 170 ∧ (∀ (r19 : Int), en_isSign (45) st r19 → ((¬ r19 = (0 : Int) → (170 = 170 ∧ (∀ (r20 : Int), en_isSign (43) st r20 → ((¬ r20 = (0 : Int) → _) ∧ (¬ (¬ r20 = (0 : Int)) → (170 = 170 ∧ (∀ (r21 : Int), en_isSign (45) st r21 → ((r21 = (0 : Int) → _) ∧ (¬ (r21 = (0 : Int)) → (170 = 170 ∧ (rq_rJoins k ph bg pr uu w fs c (5) st ∧ (∀ (s22 : zS), en_rJoins k ph bg pr uu w fs c (5) st s22 → (170 = 170 ∧ (∀ (r23 : Int), en_isSign (43) s22 r23 → ((r23 = (0 : Int) → (170 = 170 ∧ (∀ (r24 : Int), en_isSign (45) s22 r24 → ((r24 = (0 : Int) → _) ∧ (¬ (r24 = (0 : Int)) → (170 = 170 ∧ (rq_holdsBack (32) s22 ∧ ((170 = 170 ∧ (rq_rNext t n  (zup (zup s22 197 (s22 170 45 : Int).toNat (32)) 170 45 ((s22 170 45) + 1)) ∧ (∀ (s26 : zS), en_rNext t n  (zup (zup s22 197 (s22 170 45 : Int).toNat (32)) 170 45 ((s22 170 45) + 1)) s26 → ((0 = (0 : Int) ∨ 0 = (1 : Int)) ∧ ((1 = (0 : Int) ∨ 1 = (1 : Int)) ∧ Q (some (.inl 1)) (zup s26 170 46 0)))))))))))))) ∧ (¬ (r23 = (0 : Int)) → _)))))))))))))))) ∧ (¬ (¬ r19 = (0 : Int)) → _))))))))))))))) ∧ (¬ (st 170 8 ≤ (0 : Int)) → _)))))
  refine ⟨rfl, ⟨hG, (show st 170 12 = -1 from by omega)⟩, ?_⟩
  refine ⟨fun h27 => ?_, fun h27 => (by exfalso; omega)⟩
  refine ⟨by omega, ?_⟩
  have g28 := g_frame hG ((st 170 42) - 1 : Int).toNat
  refine ⟨by omega, ?_⟩
  refine fun r17 q17 => ?_
  have b17 := q17
  change (r17 = 0 ∨ r17 = 1) ∧ (r17 = 1 ↔ (st 192 ((st 170 42) - 1 : Int).toNat) = 1 ∨ (st 192 ((st 170 42) - 1 : Int).toNat) = 5 ∨ (st 192 ((st 170 42) - 1 : Int).toNat) = 6) at b17
  have g29 := g_phase hG ((st 170 42) - 1 : Int).toNat
  refine ⟨by omega, ?_⟩
  refine ⟨fun h30 => (by exfalso; omega), fun h30 => ?_⟩
  refine ⟨rfl, fun r18 q18 => ?_⟩
  have b18 := q18
  change (r18 = 0 ∨ r18 = 1) ∧ (r18 = 1 ↔ st 170 3 = 3 ∧ st 170 6 = (43)) at b18
  refine ⟨fun h31 => (by exfalso; clear hQ; omega), fun h31 => ?_⟩
  clear h31 b18
  refine ⟨rfl, fun r19 q19 => ?_⟩
  have b19 := q19
  change (r19 = 0 ∨ r19 = 1) ∧ (r19 = 1 ↔ st 170 3 = 3 ∧ st 170 6 = (45)) at b19
  refine ⟨fun h32 => ?_, fun h32 => (by exfalso; clear hQ; omega)⟩
  clear h32 b19
  refine ⟨rfl, fun r20 q20 => ?_⟩
  have b20 := q20
  change (r20 = 0 ∨ r20 = 1) ∧ (r20 = 1 ↔ st 170 3 = 3 ∧ st 170 6 = (43)) at b20
  refine ⟨fun h33 => (by exfalso; clear hQ; omega), fun h33 => ?_⟩
  clear h33 b20
  refine ⟨rfl, fun r21 q21 => ?_⟩
  have b21 := q21
  change (r21 = 0 ∨ r21 = 1) ∧ (r21 = 1 ↔ st 170 3 = 3 ∧ st 170 6 = (45)) at b21
  refine ⟨fun h34 => (by exfalso; clear hQ; omega), fun h34 => ?_⟩
  clear h34 b21
  refine ⟨rfl, ⟨hG, (show FR (st 192) (st 193) (st 194) (st 195) (st 196) (st 197) ((k, ph, bg, pr, uu ++ w) :: fs) (st 170 42) (st 170 45) from mfr), (show WB ((k, ph, bg, pr, uu ++ w) :: fs) from mwb), (show RG uu (5) from ht.2.2.1), (show TR w (5) from ht.2.2.2.1), (show CDr (st 170 35) (st 170 34) (st 188) (st 189) (c) from mcd), (show st 170 34 + st 170 45 ≤ 1600 ∧ 0 ≤ st 170 43 ∧ st 170 43 ≤ 7 ∧ st 170 42 ≤ 9 from by omega)⟩, fun s22 q22 => ?_⟩
  obtain ⟨gs22, fs22, yq22, fr22, cd22, op22, cm22⟩ := q22
  change FR (s22 192) (s22 193) (s22 194) (s22 195) (s22 196) (s22 197) ((k, ph, bg, pr, w) :: fs) (s22 170 42) (s22 170 45) at fr22
  have e35 : s22 170 42 = st 170 42 := fs22 170 42 rfl rfl
  have g36 := g_opMany gs22
  change CDr (s22 170 35) (s22 170 34) (s22 188) (s22 189) (c ++ uu) at cd22
  have e37 : s22 170 35 = st 170 35 := fs22 170 35 rfl rfl
  have g38 := g_codes gs22
  change s22 170 43 = st 170 43 - nots uu at op22
  have g39 := g_open gs22
  change s22 170 34 + s22 170 45 = st 170 34 + st 170 45 at cm22
  have mwj : WB ((k, ph, bg, pr, w) :: fs) := WB_c (by have q := WB_hd mwb; rw [List.length_append] at q; omega) (fun x hx => WB_el mwb x (List.mem_append_right _ hx)) (WB_tl mwb)
  have mbj := FR_bnd _ _ _ mwj fr22
  simp only [List.length_cons] at mbj
  have mcj := cd22.1
  rw [List.length_append] at mcj
  have e40 : s22 170 3 = st 170 3 := fs22 170 3 rfl rfl
  have e41 : s22 170 6 = st 170 6 := fs22 170 6 rfl rfl
  have e42 : s22 170 7 = st 170 7 := fs22 170 7 rfl rfl
  have e43 : s22 170 12 = st 170 12 := fs22 170 12 rfl rfl
  have e44 : s22 170 8 = st 170 8 := fs22 170 8 rfl rfl
  have e45 : s22 170 4 = st 170 4 := fs22 170 4 rfl rfl
  have e46 : s22 170 5 = st 170 5 := fs22 170 5 rfl rfl
  refine ⟨rfl, fun r23 q23 => ?_⟩
  have b23 := q23
  change (r23 = 0 ∨ r23 = 1) ∧ (r23 = 1 ↔ s22 170 3 = 3 ∧ s22 170 6 = (43)) at b23
  refine ⟨fun h47 => ?_, fun h47 => (by exfalso; clear hQ; omega)⟩
  clear h47 b23
  refine ⟨rfl, fun r24 q24 => ?_⟩
  have b24 := q24
  change (r24 = 0 ∨ r24 = 1) ∧ (r24 = 1 ↔ s22 170 3 = 3 ∧ s22 170 6 = (45)) at b24
  refine ⟨fun h48 => (by exfalso; clear hQ; omega), fun h48 => ?_⟩
  clear h48 b24
  refine ⟨rfl, ⟨gs22, (show 0 ≤ s22 170 45 ∧ s22 170 45 ≤ 499 from by omega)⟩, ?_⟩
  refine ⟨rfl, ⟨(gInv_up (gInv_up gs22 (p_ops (by omega))) (p_opMany (by omega))), (show RDr (zup (zup s22 197 (s22 170 45 : Int).toNat (32)) 170 45 ((s22 170 45) + 1)) t n from (show RDr (zup (zup s22 197 (s22 170 45 : Int).toNat (32)) 170 45 ((s22 170 45) + 1)) t n from (RDr_of (fs22 170 2 rfl rfl) (fun i => fs22 171 i rfl rfl) (fs22 170 3 rfl rfl) (fs22 170 4 rfl rfl) (fs22 170 5 rfl rfl) (fs22 170 6 rfl rfl) (fs22 170 7 rfl rfl) (fs22 170 12 rfl rfl) mrd))), (show s22 170 12 = -1 from by omega)⟩, fun s26 q26 => ?_⟩
  obtain ⟨gs26, fs26, rd26, nx26⟩ := q26
  change RDr s26 t n at rd26
  change NXr (zup (zup s22 197 (s22 170 45 : Int).toNat (32)) 170 45 ((s22 170 45) + 1)) s26 t n at nx26
  refine ⟨by omega, ?_⟩
  refine ⟨by omega, ?_⟩
  have e49 : s26 170 8 = s22 170 8 := fs26 170 8 rfl rfl
  have e50 : s26 170 43 = s22 170 43 := fs26 170 43 rfl rfl
  have e51 : s26 170 34 = s22 170 34 := fs26 170 34 rfl rfl
  have e52 : s26 170 45 = ((s22 170 45) + 1) := fs26 170 45 rfl rfl
  have e53 : s26 170 42 = s22 170 42 := fs26 170 42 rfl rfl
  have g54 := g_signAt gs26
  exact hQ _ _ ⟨(gInv_up gs26 (p_operand (by omega))), (fr_f (fr_tr (fr_f (fr_a (fr_tr (fr_rf _ _) fs22 rfl) rfl) rfl) fs26 rfl) rfl), (Z9_up (Z9_tr (Z9_up (Z9_up yq22 (by decide)) (by decide)) ((show aFr m_rGo145 st (zup (zup s22 197 (s22 170 45 : Int).toNat (32)) 170 45 ((s22 170 45) + 1)) from (fr_f (fr_a (fr_tr (fr_rf _ _) fs22 rfl) rfl) rfl)) 170 35 rfl rfl) (Z9_fr fs26 (fun _ => rfl) rfl)) (by decide)), (show (1 : Int) = 1 ∧ mcP t n (zup s26 170 46 0) ((k, ph, bg, pr, 32 :: w) :: fs) 0 (o) (c ++ uu) (e) from (by
            have tkk := ht.1
            have hp : s26 170 4 = e := NXr_e (st := (zup (zup s22 197 (s22 170 45 : Int).toNat (32)) 170 45 ((s22 170 45) + 1))) (show NXr (zup (zup s22 197 (s22 170 45 : Int).toNat (32)) 170 45 ((s22 170 45) + 1)) s26 t n from nx26) (show tk t n ((zup (zup s22 197 (s22 170 45 : Int).toNat (32)) 170 45 ((s22 170 45) + 1)) 170 4) _ _ e from by rw [show (zup (zup s22 197 (s22 170 45 : Int).toNat (32)) 170 45 ((s22 170 45) + 1)) 170 4 = p from (show s22 170 4 = p from by omega)]; exact tkk) (by omega)
            have hl := tk_lt tkk (show 0 ≤ p from by rw [← mpp]; exact mrd.2.1.1) (by omega)
            refine ⟨rfl, (show s26 170 8 = 0 from by omega), (show (0 : Int) = 0 from rfl), (show s26 170 43 = o from by omega), hp, (show RDr _ t n from rd26), ?_, (show s26 170 34 + s26 170 45 + s26 170 42 ≤ e from by omega), by omega, by omega, by first | omega | (simp only [List.length_cons]; omega) | (simp only [List.length_cons] at mz3 ⊢; omega)⟩
            exact (mcQ_of (fun i => fs26 192 i rfl rfl) (fun i => fs26 193 i rfl rfl) (fun i => fs26 194 i rfl rfl) (fun i => fs26 195 i rfl rfl) (fun i => fs26 196 i rfl rfl) (fun i => fs26 197 i rfl rfl) (fs26 170 42 rfl rfl) (fs26 170 45 rfl rfl) (fs26 170 35 rfl rfl) (fs26 170 34 rfl rfl) (fun i => fs26 188 i rfl rfl) (fun i => fs26 189 i rfl rfl) (show mcQ (zup (zup s22 197 (s22 170 45 : Int).toNat (32)) 170 45 ((s22 170 45) + 1)) ((k, ph, bg, pr, 32 :: w) :: fs) (c ++ uu) from ⟨FR_hold 32 mbj.2.1 fr22, WB_c (by rw [List.length_cons]; omega) (fun x hx => by rcases List.mem_cons.mp hx with z | z; omega; exact WB_el mwj x z) (WB_tl mwj), cd22⟩))))⟩
theorem k_rGo145_m (hTb : aTb zSh rx_tb cl) {t : Int → Int} {n k ph bg pr o p e : Int} {w c : List Int} {fs : List mFr} {uu : List Int} {D : Nat} (hD : 3 ≤ D) : ∀ as st (Q Q' : zQ), (∀ r st', Q r st' → Q' r st') → (k_rGo145 t n k ph bg pr o p e w c fs uu) 197 as st Q → cl D 197 as st Q' := by
  intro as st Q Q' hQ h
  unfold k_rGo145 at h
  split at h
  · obtain ⟨rfl, h⟩ := h
    exact c_rGo145 hTb hD (ct_rGo145_m hQ h)
  · exact h.elim
set_option maxHeartbeats 4000000 in
set_option maxRecDepth 100000 in
theorem c_rGo142 (hTb : aTb zSh rx_tb cl) {t : Int → Int} {n k ph bg pr o p e : Int} {w c : List Int} {fs : List mFr} {uu : List Int} {D : Nat} (hD : 3 ≤ D) {st : zS} {Q : zQ} (h : ct_rGo142 t n k ph bg pr o p e w c fs uu st Q) : cl D 197 [.inr (.inr (.inl 170))] st Q := by
  obtain ⟨d, rfl⟩ : ∃ d, D = d + 1 := ⟨D - 1, by omega⟩
  refine hTb d 197 (rx_m197, 5, 0, 0, 2) rfl _ _ _ (Nat.le_of_ble_eq_true rfl) (fun K hcl hsf hsl => ?_)
  have hcm : zmo (wcL [(181, k_rLex), (195, k_isTest), (183, k_isWord), (182, k_isSign), (149, k_rNext t n), (189, k_add), (192, k_holdsBack), (191, k_rJoins k ph bg pr uu w fs c)]) (cl d) := (wcL_m (wm_cons (k_rLex_m hTb (by omega)) (wm_cons (k_isTest_m hTb (by omega)) (wm_cons (k_isWord_m hTb (by omega)) (wm_cons (k_isSign_m hTb (by omega)) (wm_cons (k_rNext_m hTb (by omega)) (wm_cons (k_add_m hTb (by omega)) (wm_cons (k_holdsBack_m hTb (by omega)) (wm_cons (k_rJoins_m hTb (by omega)) wm_nil)))))))))
  obtain ⟨hR, hQ⟩ := h
  obtain ⟨hG, mp, ht⟩ := hR
  change mcP t n st ((k, ph, bg, pr, uu ++ w) :: fs) 1 (o) (c) (p) at mp
  change tk t n p 3 42 e ∧ ph < 2 ∧ RG uu 6 ∧ TR w 6 ∧ w.length ≤ 14 at ht
  obtain ⟨mf, mo, mn, mpp, mrd, mq, mbd, mz1, mz2, mz3⟩ := mp
  simp only [List.length_cons] at mz3
  have mq0 := mq
  obtain ⟨mfr, mwb, mcd⟩ := mq
  have mt := FR_top mfr
  have mb := FR_bnd _ _ _ mwb mfr
  simp only [List.length_cons] at mb
  have ml := WB_hd mwb
  have mcl := mcd.1
  have mlw := FR_len mb.2.1 mfr
  have mnb := nots_b w
  have tf := r_sig mrd (by rw [mpp]; exact ht.1)
  have tnn : nots uu = 0 := RG_nots (RG_le ht.2.2.1 (by omega))
  have g1 := g_codes hG
  have g2 := g_in hG
  have g3 := g_isClever hG
  have g4 := g_deep hG
  have g5 := g_open hG
  have g6 := g_opMany hG
  have g7 := g_signAt hG
  have g8 := g_signEnd hG
  have g9 := g_faultKind hG
  have g10 := g_size hG
  have g11 := g_sign hG
  have g12 := g_lexAt hG
  have g13 := g_value hG
  have g14 := g_word hG
  have g15 := g_operand hG
  refine yr1_ok (Rt := Q) (wc := (wcL [(181, k_rLex), (195, k_isTest), (183, k_isWord), (182, k_isSign), (149, k_rNext t n), (189, k_add), (192, k_holdsBack), (191, k_rJoins k ph bg pr uu w fs c)])) (stp := []) hcm hcl [] 500 ?_
  show (170 = 170 ∧ (rq_rLex  st ∧ (((st 170 8 ≤ (0 : Int) → ((-2147483648 ≤ (st 170 42) - 1 ∧ (st 170 42) - 1 ≤ 2147483647) ∧ ((0 ≤ (st 170 42) - 1 ∧ (st 170 42) - 1 < 20) ∧ (∀ (r17 : Int), en_isTest (st 192 ((st 170 42) - 1 : Int).toNat) st r17 → ((0 ≤ (st 170 42) - 1 ∧ (st 170 42) - 1 < 20) ∧ (((2 : Int) ≤ st 193 ((st 170 42) - 1 : Int).toNat → _) ∧ (¬ ((2 : Int) ≤ st 193 ((st 170 42) - 1 : Int).toNat) → (170 = 170 ∧ (∀ (r18 : Int), en_isSign (43) st r18 → ((¬ r18 = (0 : Int) → _) ∧ (¬ (¬ r18 = (0 : Int)) → (170 = 170 ∧ (∀ (r19 : Int), en_isSign (45) st r19 → ((¬ r19 = (0 : Int) → _) ∧ (¬ (¬ r19 = (0 : Int)) → (170 = 170 ∧ (∀ (r20 : Int), en_isSign (42) st r20 → ((¬ r20 = (0 : Int) → (170 = 170 ∧ (∀ (r21 : Int), en_isSign (43) st r21 → ((¬ r21 = (0 : Int) → _) ∧ (¬ (¬ r21 = (0 : Int)) → (170 = 170 ∧ (∀ (r22 : Int), en_isSign (45) st r22 → ((r22 = (0 : Int) → (170 = 170 ∧ (rq_rJoins k ph bg pr uu w fs c (6) st ∧ (∀ (s23 : zS), en_rJoins k ph bg pr uu w fs c (6) st s23 → (170 = 170 ∧ (∀ (r24 : Int), en_isSign (43) s23 r24 → ((r24 = (0 : Int) → (170 = 170 ∧ (∀ (r25 : Int), en_isSign (45) s23 r25 → ((r25 = (0 : Int) → (170 = 170 ∧ (∀ (r26 : Int), en_isSign (42) s23 r26 → ((r26 = (0 : Int) → _) ∧ (¬ (r26 = (0 : Int)) → (170 = 170 ∧ (rq_holdsBack (33) s23 ∧ ((170 = 170 ∧ (rq_rNext t n  (zup (zup s23 197 (s23 170 45 : Int).toNat (33)) 170 45 ((s23 170 45) + 1)) ∧ (∀ (s28 : zS), en_rNext t n  (zup (zup s23 197 (s23 170 45 : Int).toNat (33)) 170 45 ((s23 170 45) + 1)) s28 → ((0 = (0 : Int) ∨ 0 = (1 : Int)) ∧ ((1 = (0 : Int) ∨ 1 = (1 : Int)) ∧ Q (some (.inl 1)) (zup s28 170 46 0)))))))))))))) ∧ (¬ (r25 = (0 : Int)) → _))))) ∧ (¬ (r24 = (0 : Int)) → _)))))))) ∧ (¬ (r22 = (0 : Int)) → _))))))))) ∧ (¬ (¬ r20 = (0 : Int)) → _))))))))))))))))))) ∧ (¬ (st 170 8 ≤ (0 : Int)) → _)))))
  refine ⟨rfl, ⟨hG, (show st 170 12 = -1 from by omega)⟩, ?_⟩
  refine ⟨fun h29 => ?_, fun h29 => (by exfalso; omega)⟩
  refine ⟨by omega, ?_⟩
  have g30 := g_frame hG ((st 170 42) - 1 : Int).toNat
  refine ⟨by omega, ?_⟩
  refine fun r17 q17 => ?_
  have b17 := q17
  change (r17 = 0 ∨ r17 = 1) ∧ (r17 = 1 ↔ (st 192 ((st 170 42) - 1 : Int).toNat) = 1 ∨ (st 192 ((st 170 42) - 1 : Int).toNat) = 5 ∨ (st 192 ((st 170 42) - 1 : Int).toNat) = 6) at b17
  have g31 := g_phase hG ((st 170 42) - 1 : Int).toNat
  refine ⟨by omega, ?_⟩
  refine ⟨fun h32 => (by exfalso; omega), fun h32 => ?_⟩
  refine ⟨rfl, fun r18 q18 => ?_⟩
  have b18 := q18
  change (r18 = 0 ∨ r18 = 1) ∧ (r18 = 1 ↔ st 170 3 = 3 ∧ st 170 6 = (43)) at b18
  refine ⟨fun h33 => (by exfalso; clear hQ; omega), fun h33 => ?_⟩
  clear h33 b18
  refine ⟨rfl, fun r19 q19 => ?_⟩
  have b19 := q19
  change (r19 = 0 ∨ r19 = 1) ∧ (r19 = 1 ↔ st 170 3 = 3 ∧ st 170 6 = (45)) at b19
  refine ⟨fun h34 => (by exfalso; clear hQ; omega), fun h34 => ?_⟩
  clear h34 b19
  refine ⟨rfl, fun r20 q20 => ?_⟩
  have b20 := q20
  change (r20 = 0 ∨ r20 = 1) ∧ (r20 = 1 ↔ st 170 3 = 3 ∧ st 170 6 = (42)) at b20
  refine ⟨fun h35 => ?_, fun h35 => (by exfalso; clear hQ; omega)⟩
  clear h35 b20
  refine ⟨rfl, fun r21 q21 => ?_⟩
  have b21 := q21
  change (r21 = 0 ∨ r21 = 1) ∧ (r21 = 1 ↔ st 170 3 = 3 ∧ st 170 6 = (43)) at b21
  refine ⟨fun h36 => (by exfalso; clear hQ; omega), fun h36 => ?_⟩
  clear h36 b21
  refine ⟨rfl, fun r22 q22 => ?_⟩
  have b22 := q22
  change (r22 = 0 ∨ r22 = 1) ∧ (r22 = 1 ↔ st 170 3 = 3 ∧ st 170 6 = (45)) at b22
  refine ⟨fun h37 => ?_, fun h37 => (by exfalso; clear hQ; omega)⟩
  clear h37 b22
  refine ⟨rfl, ⟨hG, (show FR (st 192) (st 193) (st 194) (st 195) (st 196) (st 197) ((k, ph, bg, pr, uu ++ w) :: fs) (st 170 42) (st 170 45) from mfr), (show WB ((k, ph, bg, pr, uu ++ w) :: fs) from mwb), (show RG uu (6) from ht.2.2.1), (show TR w (6) from ht.2.2.2.1), (show CDr (st 170 35) (st 170 34) (st 188) (st 189) (c) from mcd), (show st 170 34 + st 170 45 ≤ 1600 ∧ 0 ≤ st 170 43 ∧ st 170 43 ≤ 7 ∧ st 170 42 ≤ 9 from by omega)⟩, fun s23 q23 => ?_⟩
  obtain ⟨gs23, fs23, yq23, fr23, cd23, op23, cm23⟩ := q23
  change FR (s23 192) (s23 193) (s23 194) (s23 195) (s23 196) (s23 197) ((k, ph, bg, pr, w) :: fs) (s23 170 42) (s23 170 45) at fr23
  have e38 : s23 170 42 = st 170 42 := fs23 170 42 rfl rfl
  have g39 := g_opMany gs23
  change CDr (s23 170 35) (s23 170 34) (s23 188) (s23 189) (c ++ uu) at cd23
  have e40 : s23 170 35 = st 170 35 := fs23 170 35 rfl rfl
  have g41 := g_codes gs23
  change s23 170 43 = st 170 43 - nots uu at op23
  have g42 := g_open gs23
  change s23 170 34 + s23 170 45 = st 170 34 + st 170 45 at cm23
  have mwj : WB ((k, ph, bg, pr, w) :: fs) := WB_c (by have q := WB_hd mwb; rw [List.length_append] at q; omega) (fun x hx => WB_el mwb x (List.mem_append_right _ hx)) (WB_tl mwb)
  have mbj := FR_bnd _ _ _ mwj fr23
  simp only [List.length_cons] at mbj
  have mcj := cd23.1
  rw [List.length_append] at mcj
  have e43 : s23 170 3 = st 170 3 := fs23 170 3 rfl rfl
  have e44 : s23 170 6 = st 170 6 := fs23 170 6 rfl rfl
  have e45 : s23 170 7 = st 170 7 := fs23 170 7 rfl rfl
  have e46 : s23 170 12 = st 170 12 := fs23 170 12 rfl rfl
  have e47 : s23 170 8 = st 170 8 := fs23 170 8 rfl rfl
  have e48 : s23 170 4 = st 170 4 := fs23 170 4 rfl rfl
  have e49 : s23 170 5 = st 170 5 := fs23 170 5 rfl rfl
  refine ⟨rfl, fun r24 q24 => ?_⟩
  have b24 := q24
  change (r24 = 0 ∨ r24 = 1) ∧ (r24 = 1 ↔ s23 170 3 = 3 ∧ s23 170 6 = (43)) at b24
  refine ⟨fun h50 => ?_, fun h50 => (by exfalso; clear hQ; omega)⟩
  clear h50 b24
  refine ⟨rfl, fun r25 q25 => ?_⟩
  have b25 := q25
  change (r25 = 0 ∨ r25 = 1) ∧ (r25 = 1 ↔ s23 170 3 = 3 ∧ s23 170 6 = (45)) at b25
  refine ⟨fun h51 => ?_, fun h51 => (by exfalso; clear hQ; omega)⟩
  clear h51 b25
  refine ⟨rfl, fun r26 q26 => ?_⟩
  have b26 := q26
  change (r26 = 0 ∨ r26 = 1) ∧ (r26 = 1 ↔ s23 170 3 = 3 ∧ s23 170 6 = (42)) at b26
  refine ⟨fun h52 => (by exfalso; clear hQ; omega), fun h52 => ?_⟩
  clear h52 b26
  refine ⟨rfl, ⟨gs23, (show 0 ≤ s23 170 45 ∧ s23 170 45 ≤ 499 from by omega)⟩, ?_⟩
  refine ⟨rfl, ⟨(gInv_up (gInv_up gs23 (p_ops (by omega))) (p_opMany (by omega))), (show RDr (zup (zup s23 197 (s23 170 45 : Int).toNat (33)) 170 45 ((s23 170 45) + 1)) t n from (show RDr (zup (zup s23 197 (s23 170 45 : Int).toNat (33)) 170 45 ((s23 170 45) + 1)) t n from (RDr_of (fs23 170 2 rfl rfl) (fun i => fs23 171 i rfl rfl) (fs23 170 3 rfl rfl) (fs23 170 4 rfl rfl) (fs23 170 5 rfl rfl) (fs23 170 6 rfl rfl) (fs23 170 7 rfl rfl) (fs23 170 12 rfl rfl) mrd))), (show s23 170 12 = -1 from by omega)⟩, fun s28 q28 => ?_⟩
  obtain ⟨gs28, fs28, rd28, nx28⟩ := q28
  change RDr s28 t n at rd28
  change NXr (zup (zup s23 197 (s23 170 45 : Int).toNat (33)) 170 45 ((s23 170 45) + 1)) s28 t n at nx28
  refine ⟨by omega, ?_⟩
  refine ⟨by omega, ?_⟩
  have e53 : s28 170 8 = s23 170 8 := fs28 170 8 rfl rfl
  have e54 : s28 170 43 = s23 170 43 := fs28 170 43 rfl rfl
  have e55 : s28 170 34 = s23 170 34 := fs28 170 34 rfl rfl
  have e56 : s28 170 45 = ((s23 170 45) + 1) := fs28 170 45 rfl rfl
  have e57 : s28 170 42 = s23 170 42 := fs28 170 42 rfl rfl
  have g58 := g_signAt gs28
  exact hQ _ _ ⟨(gInv_up gs28 (p_operand (by omega))), (fr_f (fr_tr (fr_f (fr_a (fr_tr (fr_rf _ _) fs23 rfl) rfl) rfl) fs28 rfl) rfl), (Z9_up (Z9_tr (Z9_up (Z9_up yq23 (by decide)) (by decide)) ((show aFr m_rGo142 st (zup (zup s23 197 (s23 170 45 : Int).toNat (33)) 170 45 ((s23 170 45) + 1)) from (fr_f (fr_a (fr_tr (fr_rf _ _) fs23 rfl) rfl) rfl)) 170 35 rfl rfl) (Z9_fr fs28 (fun _ => rfl) rfl)) (by decide)), (show (1 : Int) = 1 ∧ mcP t n (zup s28 170 46 0) ((k, ph, bg, pr, 33 :: w) :: fs) 0 (o) (c ++ uu) (e) from (by
            have tkk := ht.1
            have hp : s28 170 4 = e := NXr_e (st := (zup (zup s23 197 (s23 170 45 : Int).toNat (33)) 170 45 ((s23 170 45) + 1))) (show NXr (zup (zup s23 197 (s23 170 45 : Int).toNat (33)) 170 45 ((s23 170 45) + 1)) s28 t n from nx28) (show tk t n ((zup (zup s23 197 (s23 170 45 : Int).toNat (33)) 170 45 ((s23 170 45) + 1)) 170 4) _ _ e from by rw [show (zup (zup s23 197 (s23 170 45 : Int).toNat (33)) 170 45 ((s23 170 45) + 1)) 170 4 = p from (show s23 170 4 = p from by omega)]; exact tkk) (by omega)
            have hl := tk_lt tkk (show 0 ≤ p from by rw [← mpp]; exact mrd.2.1.1) (by omega)
            refine ⟨rfl, (show s28 170 8 = 0 from by omega), (show (0 : Int) = 0 from rfl), (show s28 170 43 = o from by omega), hp, (show RDr _ t n from rd28), ?_, (show s28 170 34 + s28 170 45 + s28 170 42 ≤ e from by omega), by omega, by omega, by first | omega | (simp only [List.length_cons]; omega) | (simp only [List.length_cons] at mz3 ⊢; omega)⟩
            exact (mcQ_of (fun i => fs28 192 i rfl rfl) (fun i => fs28 193 i rfl rfl) (fun i => fs28 194 i rfl rfl) (fun i => fs28 195 i rfl rfl) (fun i => fs28 196 i rfl rfl) (fun i => fs28 197 i rfl rfl) (fs28 170 42 rfl rfl) (fs28 170 45 rfl rfl) (fs28 170 35 rfl rfl) (fs28 170 34 rfl rfl) (fun i => fs28 188 i rfl rfl) (fun i => fs28 189 i rfl rfl) (show mcQ (zup (zup s23 197 (s23 170 45 : Int).toNat (33)) 170 45 ((s23 170 45) + 1)) ((k, ph, bg, pr, 33 :: w) :: fs) (c ++ uu) from ⟨FR_hold 33 mbj.2.1 fr23, WB_c (by rw [List.length_cons]; omega) (fun x hx => by rcases List.mem_cons.mp hx with z | z; omega; exact WB_el mwj x z) (WB_tl mwj), cd23⟩))))⟩
theorem k_rGo142_m (hTb : aTb zSh rx_tb cl) {t : Int → Int} {n k ph bg pr o p e : Int} {w c : List Int} {fs : List mFr} {uu : List Int} {D : Nat} (hD : 3 ≤ D) : ∀ as st (Q Q' : zQ), (∀ r st', Q r st' → Q' r st') → (k_rGo142 t n k ph bg pr o p e w c fs uu) 197 as st Q → cl D 197 as st Q' := by
  intro as st Q Q' hQ h
  unfold k_rGo142 at h
  split at h
  · obtain ⟨rfl, h⟩ := h
    exact c_rGo142 hTb hD (ct_rGo142_m hQ h)
  · exact h.elim
set_option maxHeartbeats 4000000 in
set_option maxRecDepth 100000 in
theorem c_rGo147 (hTb : aTb zSh rx_tb cl) {t : Int → Int} {n k ph bg pr o p e : Int} {w c : List Int} {fs : List mFr} {uu : List Int} {D : Nat} (hD : 3 ≤ D) {st : zS} {Q : zQ} (h : ct_rGo147 t n k ph bg pr o p e w c fs uu st Q) : cl D 197 [.inr (.inr (.inl 170))] st Q := by
  obtain ⟨d, rfl⟩ : ∃ d, D = d + 1 := ⟨D - 1, by omega⟩
  refine hTb d 197 (rx_m197, 5, 0, 0, 2) rfl _ _ _ (Nat.le_of_ble_eq_true rfl) (fun K hcl hsf hsl => ?_)
  have hcm : zmo (wcL [(181, k_rLex), (195, k_isTest), (183, k_isWord), (182, k_isSign), (149, k_rNext t n), (189, k_add), (192, k_holdsBack), (191, k_rJoins k ph bg pr uu w fs c)]) (cl d) := (wcL_m (wm_cons (k_rLex_m hTb (by omega)) (wm_cons (k_isTest_m hTb (by omega)) (wm_cons (k_isWord_m hTb (by omega)) (wm_cons (k_isSign_m hTb (by omega)) (wm_cons (k_rNext_m hTb (by omega)) (wm_cons (k_add_m hTb (by omega)) (wm_cons (k_holdsBack_m hTb (by omega)) (wm_cons (k_rJoins_m hTb (by omega)) wm_nil)))))))))
  obtain ⟨hR, hQ⟩ := h
  obtain ⟨hG, mp, ht⟩ := hR
  change mcP t n st ((k, ph, bg, pr, uu ++ w) :: fs) 1 (o) (c) (p) at mp
  change tk t n p 3 47 e ∧ ph < 2 ∧ RG uu 6 ∧ TR w 6 ∧ w.length ≤ 14 at ht
  obtain ⟨mf, mo, mn, mpp, mrd, mq, mbd, mz1, mz2, mz3⟩ := mp
  simp only [List.length_cons] at mz3
  have mq0 := mq
  obtain ⟨mfr, mwb, mcd⟩ := mq
  have mt := FR_top mfr
  have mb := FR_bnd _ _ _ mwb mfr
  simp only [List.length_cons] at mb
  have ml := WB_hd mwb
  have mcl := mcd.1
  have mlw := FR_len mb.2.1 mfr
  have mnb := nots_b w
  have tf := r_sig mrd (by rw [mpp]; exact ht.1)
  have tnn : nots uu = 0 := RG_nots (RG_le ht.2.2.1 (by omega))
  have g1 := g_codes hG
  have g2 := g_in hG
  have g3 := g_isClever hG
  have g4 := g_deep hG
  have g5 := g_open hG
  have g6 := g_opMany hG
  have g7 := g_signAt hG
  have g8 := g_signEnd hG
  have g9 := g_faultKind hG
  have g10 := g_size hG
  have g11 := g_sign hG
  have g12 := g_lexAt hG
  have g13 := g_value hG
  have g14 := g_word hG
  have g15 := g_operand hG
  refine yr1_ok (Rt := Q) (wc := (wcL [(181, k_rLex), (195, k_isTest), (183, k_isWord), (182, k_isSign), (149, k_rNext t n), (189, k_add), (192, k_holdsBack), (191, k_rJoins k ph bg pr uu w fs c)])) (stp := []) hcm hcl [] 500 ?_
  show (170 = 170 ∧ (rq_rLex  st ∧ (((st 170 8 ≤ (0 : Int) → ((-2147483648 ≤ (st 170 42) - 1 ∧ (st 170 42) - 1 ≤ 2147483647) ∧ ((0 ≤ (st 170 42) - 1 ∧ (st 170 42) - 1 < 20) ∧ (∀ (r17 : Int), en_isTest (st 192 ((st 170 42) - 1 : Int).toNat) st r17 → ((0 ≤ (st 170 42) - 1 ∧ (st 170 42) - 1 < 20) ∧ (((2 : Int) ≤ st 193 ((st 170 42) - 1 : Int).toNat → _) ∧ (¬ ((2 : Int) ≤ st 193 ((st 170 42) - 1 : Int).toNat) → (170 = 170 ∧ (∀ (r18 : Int), en_isSign (43) st r18 → ((¬ r18 = (0 : Int) → _) ∧ (¬ (¬ r18 = (0 : Int)) → (170 = 170 ∧ (∀ (r19 : Int), en_isSign (45) st r19 → ((¬ r19 = (0 : Int) → _) ∧ (¬ (¬ r19 = (0 : Int)) → (170 = 170 ∧ (∀ (r20 : Int), en_isSign (42) st r20 → ((¬ r20 = (0 : Int) → _) ∧ (¬ (¬ r20 = (0 : Int)) → (170 = 170 ∧ (∀ (r21 : Int), en_isSign (47) st r21 → ((¬ r21 = (0 : Int) → (170 = 170 ∧ (∀ (r22 : Int), en_isSign (43) st r22 → ((¬ r22 = (0 : Int) → _) ∧ (¬ (¬ r22 = (0 : Int)) → (170 = 170 ∧ (∀ (r23 : Int), en_isSign (45) st r23 → ((r23 = (0 : Int) → (170 = 170 ∧ (rq_rJoins k ph bg pr uu w fs c (6) st ∧ (∀ (s24 : zS), en_rJoins k ph bg pr uu w fs c (6) st s24 → (170 = 170 ∧ (∀ (r25 : Int), en_isSign (43) s24 r25 → ((r25 = (0 : Int) → (170 = 170 ∧ (∀ (r26 : Int), en_isSign (45) s24 r26 → ((r26 = (0 : Int) → (170 = 170 ∧ (∀ (r27 : Int), en_isSign (42) s24 r27 → ((r27 = (0 : Int) → (170 = 170 ∧ (∀ (r28 : Int), en_isSign (47) s24 r28 → ((r28 = (0 : Int) → _) ∧ (¬ (r28 = (0 : Int)) → (170 = 170 ∧ (rq_holdsBack (34) s24 ∧ ((170 = 170 ∧ (rq_rNext t n  (zup (zup s24 197 (s24 170 45 : Int).toNat (34)) 170 45 ((s24 170 45) + 1)) ∧ (∀ (s30 : zS), en_rNext t n  (zup (zup s24 197 (s24 170 45 : Int).toNat (34)) 170 45 ((s24 170 45) + 1)) s30 → ((0 = (0 : Int) ∨ 0 = (1 : Int)) ∧ ((1 = (0 : Int) ∨ 1 = (1 : Int)) ∧ Q (some (.inl 1)) (zup s30 170 46 0)))))))))))))) ∧ (¬ (r27 = (0 : Int)) → _))))) ∧ (¬ (r26 = (0 : Int)) → _))))) ∧ (¬ (r25 = (0 : Int)) → _)))))))) ∧ (¬ (r23 = (0 : Int)) → _))))))))) ∧ (¬ (¬ r21 = (0 : Int)) → _))))))))))))))))))))))) ∧ (¬ (st 170 8 ≤ (0 : Int)) → _)))))
  refine ⟨rfl, ⟨hG, (show st 170 12 = -1 from by omega)⟩, ?_⟩
  refine ⟨fun h31 => ?_, fun h31 => (by exfalso; omega)⟩
  refine ⟨by omega, ?_⟩
  have g32 := g_frame hG ((st 170 42) - 1 : Int).toNat
  refine ⟨by omega, ?_⟩
  refine fun r17 q17 => ?_
  have b17 := q17
  change (r17 = 0 ∨ r17 = 1) ∧ (r17 = 1 ↔ (st 192 ((st 170 42) - 1 : Int).toNat) = 1 ∨ (st 192 ((st 170 42) - 1 : Int).toNat) = 5 ∨ (st 192 ((st 170 42) - 1 : Int).toNat) = 6) at b17
  have g33 := g_phase hG ((st 170 42) - 1 : Int).toNat
  refine ⟨by omega, ?_⟩
  refine ⟨fun h34 => (by exfalso; omega), fun h34 => ?_⟩
  refine ⟨rfl, fun r18 q18 => ?_⟩
  have b18 := q18
  change (r18 = 0 ∨ r18 = 1) ∧ (r18 = 1 ↔ st 170 3 = 3 ∧ st 170 6 = (43)) at b18
  refine ⟨fun h35 => (by exfalso; clear hQ; omega), fun h35 => ?_⟩
  clear h35 b18
  refine ⟨rfl, fun r19 q19 => ?_⟩
  have b19 := q19
  change (r19 = 0 ∨ r19 = 1) ∧ (r19 = 1 ↔ st 170 3 = 3 ∧ st 170 6 = (45)) at b19
  refine ⟨fun h36 => (by exfalso; clear hQ; omega), fun h36 => ?_⟩
  clear h36 b19
  refine ⟨rfl, fun r20 q20 => ?_⟩
  have b20 := q20
  change (r20 = 0 ∨ r20 = 1) ∧ (r20 = 1 ↔ st 170 3 = 3 ∧ st 170 6 = (42)) at b20
  refine ⟨fun h37 => (by exfalso; clear hQ; omega), fun h37 => ?_⟩
  clear h37 b20
  refine ⟨rfl, fun r21 q21 => ?_⟩
  have b21 := q21
  change (r21 = 0 ∨ r21 = 1) ∧ (r21 = 1 ↔ st 170 3 = 3 ∧ st 170 6 = (47)) at b21
  refine ⟨fun h38 => ?_, fun h38 => (by exfalso; clear hQ; omega)⟩
  clear h38 b21
  refine ⟨rfl, fun r22 q22 => ?_⟩
  have b22 := q22
  change (r22 = 0 ∨ r22 = 1) ∧ (r22 = 1 ↔ st 170 3 = 3 ∧ st 170 6 = (43)) at b22
  refine ⟨fun h39 => (by exfalso; clear hQ; omega), fun h39 => ?_⟩
  clear h39 b22
  refine ⟨rfl, fun r23 q23 => ?_⟩
  have b23 := q23
  change (r23 = 0 ∨ r23 = 1) ∧ (r23 = 1 ↔ st 170 3 = 3 ∧ st 170 6 = (45)) at b23
  refine ⟨fun h40 => ?_, fun h40 => (by exfalso; clear hQ; omega)⟩
  clear h40 b23
  refine ⟨rfl, ⟨hG, (show FR (st 192) (st 193) (st 194) (st 195) (st 196) (st 197) ((k, ph, bg, pr, uu ++ w) :: fs) (st 170 42) (st 170 45) from mfr), (show WB ((k, ph, bg, pr, uu ++ w) :: fs) from mwb), (show RG uu (6) from ht.2.2.1), (show TR w (6) from ht.2.2.2.1), (show CDr (st 170 35) (st 170 34) (st 188) (st 189) (c) from mcd), (show st 170 34 + st 170 45 ≤ 1600 ∧ 0 ≤ st 170 43 ∧ st 170 43 ≤ 7 ∧ st 170 42 ≤ 9 from by omega)⟩, fun s24 q24 => ?_⟩
  obtain ⟨gs24, fs24, yq24, fr24, cd24, op24, cm24⟩ := q24
  change FR (s24 192) (s24 193) (s24 194) (s24 195) (s24 196) (s24 197) ((k, ph, bg, pr, w) :: fs) (s24 170 42) (s24 170 45) at fr24
  have e41 : s24 170 42 = st 170 42 := fs24 170 42 rfl rfl
  have g42 := g_opMany gs24
  change CDr (s24 170 35) (s24 170 34) (s24 188) (s24 189) (c ++ uu) at cd24
  have e43 : s24 170 35 = st 170 35 := fs24 170 35 rfl rfl
  have g44 := g_codes gs24
  change s24 170 43 = st 170 43 - nots uu at op24
  have g45 := g_open gs24
  change s24 170 34 + s24 170 45 = st 170 34 + st 170 45 at cm24
  have mwj : WB ((k, ph, bg, pr, w) :: fs) := WB_c (by have q := WB_hd mwb; rw [List.length_append] at q; omega) (fun x hx => WB_el mwb x (List.mem_append_right _ hx)) (WB_tl mwb)
  have mbj := FR_bnd _ _ _ mwj fr24
  simp only [List.length_cons] at mbj
  have mcj := cd24.1
  rw [List.length_append] at mcj
  have e46 : s24 170 3 = st 170 3 := fs24 170 3 rfl rfl
  have e47 : s24 170 6 = st 170 6 := fs24 170 6 rfl rfl
  have e48 : s24 170 7 = st 170 7 := fs24 170 7 rfl rfl
  have e49 : s24 170 12 = st 170 12 := fs24 170 12 rfl rfl
  have e50 : s24 170 8 = st 170 8 := fs24 170 8 rfl rfl
  have e51 : s24 170 4 = st 170 4 := fs24 170 4 rfl rfl
  have e52 : s24 170 5 = st 170 5 := fs24 170 5 rfl rfl
  refine ⟨rfl, fun r25 q25 => ?_⟩
  have b25 := q25
  change (r25 = 0 ∨ r25 = 1) ∧ (r25 = 1 ↔ s24 170 3 = 3 ∧ s24 170 6 = (43)) at b25
  refine ⟨fun h53 => ?_, fun h53 => (by exfalso; clear hQ; omega)⟩
  clear h53 b25
  refine ⟨rfl, fun r26 q26 => ?_⟩
  have b26 := q26
  change (r26 = 0 ∨ r26 = 1) ∧ (r26 = 1 ↔ s24 170 3 = 3 ∧ s24 170 6 = (45)) at b26
  refine ⟨fun h54 => ?_, fun h54 => (by exfalso; clear hQ; omega)⟩
  clear h54 b26
  refine ⟨rfl, fun r27 q27 => ?_⟩
  have b27 := q27
  change (r27 = 0 ∨ r27 = 1) ∧ (r27 = 1 ↔ s24 170 3 = 3 ∧ s24 170 6 = (42)) at b27
  refine ⟨fun h55 => ?_, fun h55 => (by exfalso; clear hQ; omega)⟩
  clear h55 b27
  refine ⟨rfl, fun r28 q28 => ?_⟩
  have b28 := q28
  change (r28 = 0 ∨ r28 = 1) ∧ (r28 = 1 ↔ s24 170 3 = 3 ∧ s24 170 6 = (47)) at b28
  refine ⟨fun h56 => (by exfalso; clear hQ; omega), fun h56 => ?_⟩
  clear h56 b28
  refine ⟨rfl, ⟨gs24, (show 0 ≤ s24 170 45 ∧ s24 170 45 ≤ 499 from by omega)⟩, ?_⟩
  refine ⟨rfl, ⟨(gInv_up (gInv_up gs24 (p_ops (by omega))) (p_opMany (by omega))), (show RDr (zup (zup s24 197 (s24 170 45 : Int).toNat (34)) 170 45 ((s24 170 45) + 1)) t n from (show RDr (zup (zup s24 197 (s24 170 45 : Int).toNat (34)) 170 45 ((s24 170 45) + 1)) t n from (RDr_of (fs24 170 2 rfl rfl) (fun i => fs24 171 i rfl rfl) (fs24 170 3 rfl rfl) (fs24 170 4 rfl rfl) (fs24 170 5 rfl rfl) (fs24 170 6 rfl rfl) (fs24 170 7 rfl rfl) (fs24 170 12 rfl rfl) mrd))), (show s24 170 12 = -1 from by omega)⟩, fun s30 q30 => ?_⟩
  obtain ⟨gs30, fs30, rd30, nx30⟩ := q30
  change RDr s30 t n at rd30
  change NXr (zup (zup s24 197 (s24 170 45 : Int).toNat (34)) 170 45 ((s24 170 45) + 1)) s30 t n at nx30
  refine ⟨by omega, ?_⟩
  refine ⟨by omega, ?_⟩
  have e57 : s30 170 8 = s24 170 8 := fs30 170 8 rfl rfl
  have e58 : s30 170 43 = s24 170 43 := fs30 170 43 rfl rfl
  have e59 : s30 170 34 = s24 170 34 := fs30 170 34 rfl rfl
  have e60 : s30 170 45 = ((s24 170 45) + 1) := fs30 170 45 rfl rfl
  have e61 : s30 170 42 = s24 170 42 := fs30 170 42 rfl rfl
  have g62 := g_signAt gs30
  exact hQ _ _ ⟨(gInv_up gs30 (p_operand (by omega))), (fr_f (fr_tr (fr_f (fr_a (fr_tr (fr_rf _ _) fs24 rfl) rfl) rfl) fs30 rfl) rfl), (Z9_up (Z9_tr (Z9_up (Z9_up yq24 (by decide)) (by decide)) ((show aFr m_rGo147 st (zup (zup s24 197 (s24 170 45 : Int).toNat (34)) 170 45 ((s24 170 45) + 1)) from (fr_f (fr_a (fr_tr (fr_rf _ _) fs24 rfl) rfl) rfl)) 170 35 rfl rfl) (Z9_fr fs30 (fun _ => rfl) rfl)) (by decide)), (show (1 : Int) = 1 ∧ mcP t n (zup s30 170 46 0) ((k, ph, bg, pr, 34 :: w) :: fs) 0 (o) (c ++ uu) (e) from (by
            have tkk := ht.1
            have hp : s30 170 4 = e := NXr_e (st := (zup (zup s24 197 (s24 170 45 : Int).toNat (34)) 170 45 ((s24 170 45) + 1))) (show NXr (zup (zup s24 197 (s24 170 45 : Int).toNat (34)) 170 45 ((s24 170 45) + 1)) s30 t n from nx30) (show tk t n ((zup (zup s24 197 (s24 170 45 : Int).toNat (34)) 170 45 ((s24 170 45) + 1)) 170 4) _ _ e from by rw [show (zup (zup s24 197 (s24 170 45 : Int).toNat (34)) 170 45 ((s24 170 45) + 1)) 170 4 = p from (show s24 170 4 = p from by omega)]; exact tkk) (by omega)
            have hl := tk_lt tkk (show 0 ≤ p from by rw [← mpp]; exact mrd.2.1.1) (by omega)
            refine ⟨rfl, (show s30 170 8 = 0 from by omega), (show (0 : Int) = 0 from rfl), (show s30 170 43 = o from by omega), hp, (show RDr _ t n from rd30), ?_, (show s30 170 34 + s30 170 45 + s30 170 42 ≤ e from by omega), by omega, by omega, by first | omega | (simp only [List.length_cons]; omega) | (simp only [List.length_cons] at mz3 ⊢; omega)⟩
            exact (mcQ_of (fun i => fs30 192 i rfl rfl) (fun i => fs30 193 i rfl rfl) (fun i => fs30 194 i rfl rfl) (fun i => fs30 195 i rfl rfl) (fun i => fs30 196 i rfl rfl) (fun i => fs30 197 i rfl rfl) (fs30 170 42 rfl rfl) (fs30 170 45 rfl rfl) (fs30 170 35 rfl rfl) (fs30 170 34 rfl rfl) (fun i => fs30 188 i rfl rfl) (fun i => fs30 189 i rfl rfl) (show mcQ (zup (zup s24 197 (s24 170 45 : Int).toNat (34)) 170 45 ((s24 170 45) + 1)) ((k, ph, bg, pr, 34 :: w) :: fs) (c ++ uu) from ⟨FR_hold 34 mbj.2.1 fr24, WB_c (by rw [List.length_cons]; omega) (fun x hx => by rcases List.mem_cons.mp hx with z | z; omega; exact WB_el mwj x z) (WB_tl mwj), cd24⟩))))⟩
theorem k_rGo147_m (hTb : aTb zSh rx_tb cl) {t : Int → Int} {n k ph bg pr o p e : Int} {w c : List Int} {fs : List mFr} {uu : List Int} {D : Nat} (hD : 3 ≤ D) : ∀ as st (Q Q' : zQ), (∀ r st', Q r st' → Q' r st') → (k_rGo147 t n k ph bg pr o p e w c fs uu) 197 as st Q → cl D 197 as st Q' := by
  intro as st Q Q' hQ h
  unfold k_rGo147 at h
  split at h
  · obtain ⟨rfl, h⟩ := h
    exact c_rGo147 hTb hD (ct_rGo147_m hQ h)
  · exact h.elim
set_option maxHeartbeats 4000000 in
set_option maxRecDepth 100000 in
theorem c_rGo137 (hTb : aTb zSh rx_tb cl) {t : Int → Int} {n k ph bg pr o p e : Int} {w c : List Int} {fs : List mFr} {uu : List Int} {D : Nat} (hD : 3 ≤ D) {st : zS} {Q : zQ} (h : ct_rGo137 t n k ph bg pr o p e w c fs uu st Q) : cl D 197 [.inr (.inr (.inl 170))] st Q := by
  obtain ⟨d, rfl⟩ : ∃ d, D = d + 1 := ⟨D - 1, by omega⟩
  refine hTb d 197 (rx_m197, 5, 0, 0, 2) rfl _ _ _ (Nat.le_of_ble_eq_true rfl) (fun K hcl hsf hsl => ?_)
  have hcm : zmo (wcL [(181, k_rLex), (195, k_isTest), (183, k_isWord), (182, k_isSign), (149, k_rNext t n), (189, k_add), (192, k_holdsBack), (191, k_rJoins k ph bg pr uu w fs c)]) (cl d) := (wcL_m (wm_cons (k_rLex_m hTb (by omega)) (wm_cons (k_isTest_m hTb (by omega)) (wm_cons (k_isWord_m hTb (by omega)) (wm_cons (k_isSign_m hTb (by omega)) (wm_cons (k_rNext_m hTb (by omega)) (wm_cons (k_add_m hTb (by omega)) (wm_cons (k_holdsBack_m hTb (by omega)) (wm_cons (k_rJoins_m hTb (by omega)) wm_nil)))))))))
  obtain ⟨hR, hQ⟩ := h
  obtain ⟨hG, mp, ht⟩ := hR
  change mcP t n st ((k, ph, bg, pr, uu ++ w) :: fs) 1 (o) (c) (p) at mp
  change tk t n p 3 37 e ∧ ph < 2 ∧ RG uu 6 ∧ TR w 6 ∧ w.length ≤ 14 at ht
  obtain ⟨mf, mo, mn, mpp, mrd, mq, mbd, mz1, mz2, mz3⟩ := mp
  simp only [List.length_cons] at mz3
  have mq0 := mq
  obtain ⟨mfr, mwb, mcd⟩ := mq
  have mt := FR_top mfr
  have mb := FR_bnd _ _ _ mwb mfr
  simp only [List.length_cons] at mb
  have ml := WB_hd mwb
  have mcl := mcd.1
  have mlw := FR_len mb.2.1 mfr
  have mnb := nots_b w
  have tf := r_sig mrd (by rw [mpp]; exact ht.1)
  have tnn : nots uu = 0 := RG_nots (RG_le ht.2.2.1 (by omega))
  have g1 := g_codes hG
  have g2 := g_in hG
  have g3 := g_isClever hG
  have g4 := g_deep hG
  have g5 := g_open hG
  have g6 := g_opMany hG
  have g7 := g_signAt hG
  have g8 := g_signEnd hG
  have g9 := g_faultKind hG
  have g10 := g_size hG
  have g11 := g_sign hG
  have g12 := g_lexAt hG
  have g13 := g_value hG
  have g14 := g_word hG
  have g15 := g_operand hG
  refine yr1_ok (Rt := Q) (wc := (wcL [(181, k_rLex), (195, k_isTest), (183, k_isWord), (182, k_isSign), (149, k_rNext t n), (189, k_add), (192, k_holdsBack), (191, k_rJoins k ph bg pr uu w fs c)])) (stp := []) hcm hcl [] 500 ?_
  show (170 = 170 ∧ (rq_rLex  st ∧ (((st 170 8 ≤ (0 : Int) → ((-2147483648 ≤ (st 170 42) - 1 ∧ (st 170 42) - 1 ≤ 2147483647) ∧ ((0 ≤ (st 170 42) - 1 ∧ (st 170 42) - 1 < 20) ∧ (∀ (r17 : Int), en_isTest (st 192 ((st 170 42) - 1 : Int).toNat) st r17 → ((0 ≤ (st 170 42) - 1 ∧ (st 170 42) - 1 < 20) ∧ (((2 : Int) ≤ st 193 ((st 170 42) - 1 : Int).toNat → _) ∧ (¬ ((2 : Int) ≤ st 193 ((st 170 42) - 1 : Int).toNat) → (170 = 170 ∧ (∀ (r18 : Int), en_isSign (43) st r18 → ((¬ r18 = (0 : Int) → _) ∧ (¬ (¬ r18 = (0 : Int)) → (170 = 170 ∧ (∀ (r19 : Int), en_isSign (45) st r19 → ((¬ r19 = (0 : Int) → _) ∧ (¬ (¬ r19 = (0 : Int)) → (170 = 170 ∧ (∀ (r20 : Int), en_isSign (42) st r20 → ((¬ r20 = (0 : Int) → _) ∧ (¬ (¬ r20 = (0 : Int)) → (170 = 170 ∧ (∀ (r21 : Int), en_isSign (47) st r21 → ((¬ r21 = (0 : Int) → _) ∧ (¬ (¬ r21 = (0 : Int)) → (170 = 170 ∧ (∀ (r22 : Int), en_isSign (37) st r22 → ((r22 = (0 : Int) → _) ∧ (¬ (r22 = (0 : Int)) → (170 = 170 ∧ (∀ (r23 : Int), en_isSign (43) st r23 → ((¬ r23 = (0 : Int) → _) ∧ (¬ (¬ r23 = (0 : Int)) → (170 = 170 ∧ (∀ (r24 : Int), en_isSign (45) st r24 → ((r24 = (0 : Int) → (170 = 170 ∧ (rq_rJoins k ph bg pr uu w fs c (6) st ∧ (∀ (s25 : zS), en_rJoins k ph bg pr uu w fs c (6) st s25 → (170 = 170 ∧ (∀ (r26 : Int), en_isSign (43) s25 r26 → ((r26 = (0 : Int) → (170 = 170 ∧ (∀ (r27 : Int), en_isSign (45) s25 r27 → ((r27 = (0 : Int) → (170 = 170 ∧ (∀ (r28 : Int), en_isSign (42) s25 r28 → ((r28 = (0 : Int) → (170 = 170 ∧ (∀ (r29 : Int), en_isSign (47) s25 r29 → ((r29 = (0 : Int) → (170 = 170 ∧ (rq_holdsBack (35) s25 ∧ ((170 = 170 ∧ (rq_rNext t n  (zup (zup s25 197 (s25 170 45 : Int).toNat (35)) 170 45 ((s25 170 45) + 1)) ∧ (∀ (s31 : zS), en_rNext t n  (zup (zup s25 197 (s25 170 45 : Int).toNat (35)) 170 45 ((s25 170 45) + 1)) s31 → ((0 = (0 : Int) ∨ 0 = (1 : Int)) ∧ ((1 = (0 : Int) ∨ 1 = (1 : Int)) ∧ Q (some (.inl 1)) (zup s31 170 46 0)))))))))) ∧ (¬ (r29 = (0 : Int)) → _))))) ∧ (¬ (r28 = (0 : Int)) → _))))) ∧ (¬ (r27 = (0 : Int)) → _))))) ∧ (¬ (r26 = (0 : Int)) → _)))))))) ∧ (¬ (r24 = (0 : Int)) → _))))))))))))))))))))))))))))))))))) ∧ (¬ (st 170 8 ≤ (0 : Int)) → _)))))
  refine ⟨rfl, ⟨hG, (show st 170 12 = -1 from by omega)⟩, ?_⟩
  refine ⟨fun h32 => ?_, fun h32 => (by exfalso; omega)⟩
  refine ⟨by omega, ?_⟩
  have g33 := g_frame hG ((st 170 42) - 1 : Int).toNat
  refine ⟨by omega, ?_⟩
  refine fun r17 q17 => ?_
  have b17 := q17
  change (r17 = 0 ∨ r17 = 1) ∧ (r17 = 1 ↔ (st 192 ((st 170 42) - 1 : Int).toNat) = 1 ∨ (st 192 ((st 170 42) - 1 : Int).toNat) = 5 ∨ (st 192 ((st 170 42) - 1 : Int).toNat) = 6) at b17
  have g34 := g_phase hG ((st 170 42) - 1 : Int).toNat
  refine ⟨by omega, ?_⟩
  refine ⟨fun h35 => (by exfalso; omega), fun h35 => ?_⟩
  refine ⟨rfl, fun r18 q18 => ?_⟩
  have b18 := q18
  change (r18 = 0 ∨ r18 = 1) ∧ (r18 = 1 ↔ st 170 3 = 3 ∧ st 170 6 = (43)) at b18
  refine ⟨fun h36 => (by exfalso; clear hQ; omega), fun h36 => ?_⟩
  clear h36 b18
  refine ⟨rfl, fun r19 q19 => ?_⟩
  have b19 := q19
  change (r19 = 0 ∨ r19 = 1) ∧ (r19 = 1 ↔ st 170 3 = 3 ∧ st 170 6 = (45)) at b19
  refine ⟨fun h37 => (by exfalso; clear hQ; omega), fun h37 => ?_⟩
  clear h37 b19
  refine ⟨rfl, fun r20 q20 => ?_⟩
  have b20 := q20
  change (r20 = 0 ∨ r20 = 1) ∧ (r20 = 1 ↔ st 170 3 = 3 ∧ st 170 6 = (42)) at b20
  refine ⟨fun h38 => (by exfalso; clear hQ; omega), fun h38 => ?_⟩
  clear h38 b20
  refine ⟨rfl, fun r21 q21 => ?_⟩
  have b21 := q21
  change (r21 = 0 ∨ r21 = 1) ∧ (r21 = 1 ↔ st 170 3 = 3 ∧ st 170 6 = (47)) at b21
  refine ⟨fun h39 => (by exfalso; clear hQ; omega), fun h39 => ?_⟩
  clear h39 b21
  refine ⟨rfl, fun r22 q22 => ?_⟩
  have b22 := q22
  change (r22 = 0 ∨ r22 = 1) ∧ (r22 = 1 ↔ st 170 3 = 3 ∧ st 170 6 = (37)) at b22
  refine ⟨fun h40 => (by exfalso; clear hQ; omega), fun h40 => ?_⟩
  clear h40 b22
  refine ⟨rfl, fun r23 q23 => ?_⟩
  have b23 := q23
  change (r23 = 0 ∨ r23 = 1) ∧ (r23 = 1 ↔ st 170 3 = 3 ∧ st 170 6 = (43)) at b23
  refine ⟨fun h41 => (by exfalso; clear hQ; omega), fun h41 => ?_⟩
  clear h41 b23
  refine ⟨rfl, fun r24 q24 => ?_⟩
  have b24 := q24
  change (r24 = 0 ∨ r24 = 1) ∧ (r24 = 1 ↔ st 170 3 = 3 ∧ st 170 6 = (45)) at b24
  refine ⟨fun h42 => ?_, fun h42 => (by exfalso; clear hQ; omega)⟩
  clear h42 b24
  refine ⟨rfl, ⟨hG, (show FR (st 192) (st 193) (st 194) (st 195) (st 196) (st 197) ((k, ph, bg, pr, uu ++ w) :: fs) (st 170 42) (st 170 45) from mfr), (show WB ((k, ph, bg, pr, uu ++ w) :: fs) from mwb), (show RG uu (6) from ht.2.2.1), (show TR w (6) from ht.2.2.2.1), (show CDr (st 170 35) (st 170 34) (st 188) (st 189) (c) from mcd), (show st 170 34 + st 170 45 ≤ 1600 ∧ 0 ≤ st 170 43 ∧ st 170 43 ≤ 7 ∧ st 170 42 ≤ 9 from by omega)⟩, fun s25 q25 => ?_⟩
  obtain ⟨gs25, fs25, yq25, fr25, cd25, op25, cm25⟩ := q25
  change FR (s25 192) (s25 193) (s25 194) (s25 195) (s25 196) (s25 197) ((k, ph, bg, pr, w) :: fs) (s25 170 42) (s25 170 45) at fr25
  have e43 : s25 170 42 = st 170 42 := fs25 170 42 rfl rfl
  have g44 := g_opMany gs25
  change CDr (s25 170 35) (s25 170 34) (s25 188) (s25 189) (c ++ uu) at cd25
  have e45 : s25 170 35 = st 170 35 := fs25 170 35 rfl rfl
  have g46 := g_codes gs25
  change s25 170 43 = st 170 43 - nots uu at op25
  have g47 := g_open gs25
  change s25 170 34 + s25 170 45 = st 170 34 + st 170 45 at cm25
  have mwj : WB ((k, ph, bg, pr, w) :: fs) := WB_c (by have q := WB_hd mwb; rw [List.length_append] at q; omega) (fun x hx => WB_el mwb x (List.mem_append_right _ hx)) (WB_tl mwb)
  have mbj := FR_bnd _ _ _ mwj fr25
  simp only [List.length_cons] at mbj
  have mcj := cd25.1
  rw [List.length_append] at mcj
  have e48 : s25 170 3 = st 170 3 := fs25 170 3 rfl rfl
  have e49 : s25 170 6 = st 170 6 := fs25 170 6 rfl rfl
  have e50 : s25 170 7 = st 170 7 := fs25 170 7 rfl rfl
  have e51 : s25 170 12 = st 170 12 := fs25 170 12 rfl rfl
  have e52 : s25 170 8 = st 170 8 := fs25 170 8 rfl rfl
  have e53 : s25 170 4 = st 170 4 := fs25 170 4 rfl rfl
  have e54 : s25 170 5 = st 170 5 := fs25 170 5 rfl rfl
  refine ⟨rfl, fun r26 q26 => ?_⟩
  have b26 := q26
  change (r26 = 0 ∨ r26 = 1) ∧ (r26 = 1 ↔ s25 170 3 = 3 ∧ s25 170 6 = (43)) at b26
  refine ⟨fun h55 => ?_, fun h55 => (by exfalso; clear hQ; omega)⟩
  clear h55 b26
  refine ⟨rfl, fun r27 q27 => ?_⟩
  have b27 := q27
  change (r27 = 0 ∨ r27 = 1) ∧ (r27 = 1 ↔ s25 170 3 = 3 ∧ s25 170 6 = (45)) at b27
  refine ⟨fun h56 => ?_, fun h56 => (by exfalso; clear hQ; omega)⟩
  clear h56 b27
  refine ⟨rfl, fun r28 q28 => ?_⟩
  have b28 := q28
  change (r28 = 0 ∨ r28 = 1) ∧ (r28 = 1 ↔ s25 170 3 = 3 ∧ s25 170 6 = (42)) at b28
  refine ⟨fun h57 => ?_, fun h57 => (by exfalso; clear hQ; omega)⟩
  clear h57 b28
  refine ⟨rfl, fun r29 q29 => ?_⟩
  have b29 := q29
  change (r29 = 0 ∨ r29 = 1) ∧ (r29 = 1 ↔ s25 170 3 = 3 ∧ s25 170 6 = (47)) at b29
  refine ⟨fun h58 => ?_, fun h58 => (by exfalso; clear hQ; omega)⟩
  clear h58 b29
  refine ⟨rfl, ⟨gs25, (show 0 ≤ s25 170 45 ∧ s25 170 45 ≤ 499 from by omega)⟩, ?_⟩
  refine ⟨rfl, ⟨(gInv_up (gInv_up gs25 (p_ops (by omega))) (p_opMany (by omega))), (show RDr (zup (zup s25 197 (s25 170 45 : Int).toNat (35)) 170 45 ((s25 170 45) + 1)) t n from (show RDr (zup (zup s25 197 (s25 170 45 : Int).toNat (35)) 170 45 ((s25 170 45) + 1)) t n from (RDr_of (fs25 170 2 rfl rfl) (fun i => fs25 171 i rfl rfl) (fs25 170 3 rfl rfl) (fs25 170 4 rfl rfl) (fs25 170 5 rfl rfl) (fs25 170 6 rfl rfl) (fs25 170 7 rfl rfl) (fs25 170 12 rfl rfl) mrd))), (show s25 170 12 = -1 from by omega)⟩, fun s31 q31 => ?_⟩
  obtain ⟨gs31, fs31, rd31, nx31⟩ := q31
  change RDr s31 t n at rd31
  change NXr (zup (zup s25 197 (s25 170 45 : Int).toNat (35)) 170 45 ((s25 170 45) + 1)) s31 t n at nx31
  refine ⟨by omega, ?_⟩
  refine ⟨by omega, ?_⟩
  have e59 : s31 170 8 = s25 170 8 := fs31 170 8 rfl rfl
  have e60 : s31 170 43 = s25 170 43 := fs31 170 43 rfl rfl
  have e61 : s31 170 34 = s25 170 34 := fs31 170 34 rfl rfl
  have e62 : s31 170 45 = ((s25 170 45) + 1) := fs31 170 45 rfl rfl
  have e63 : s31 170 42 = s25 170 42 := fs31 170 42 rfl rfl
  have g64 := g_signAt gs31
  exact hQ _ _ ⟨(gInv_up gs31 (p_operand (by omega))), (fr_f (fr_tr (fr_f (fr_a (fr_tr (fr_rf _ _) fs25 rfl) rfl) rfl) fs31 rfl) rfl), (Z9_up (Z9_tr (Z9_up (Z9_up yq25 (by decide)) (by decide)) ((show aFr m_rGo137 st (zup (zup s25 197 (s25 170 45 : Int).toNat (35)) 170 45 ((s25 170 45) + 1)) from (fr_f (fr_a (fr_tr (fr_rf _ _) fs25 rfl) rfl) rfl)) 170 35 rfl rfl) (Z9_fr fs31 (fun _ => rfl) rfl)) (by decide)), (show (1 : Int) = 1 ∧ mcP t n (zup s31 170 46 0) ((k, ph, bg, pr, 35 :: w) :: fs) 0 (o) (c ++ uu) (e) from (by
            have tkk := ht.1
            have hp : s31 170 4 = e := NXr_e (st := (zup (zup s25 197 (s25 170 45 : Int).toNat (35)) 170 45 ((s25 170 45) + 1))) (show NXr (zup (zup s25 197 (s25 170 45 : Int).toNat (35)) 170 45 ((s25 170 45) + 1)) s31 t n from nx31) (show tk t n ((zup (zup s25 197 (s25 170 45 : Int).toNat (35)) 170 45 ((s25 170 45) + 1)) 170 4) _ _ e from by rw [show (zup (zup s25 197 (s25 170 45 : Int).toNat (35)) 170 45 ((s25 170 45) + 1)) 170 4 = p from (show s25 170 4 = p from by omega)]; exact tkk) (by omega)
            have hl := tk_lt tkk (show 0 ≤ p from by rw [← mpp]; exact mrd.2.1.1) (by omega)
            refine ⟨rfl, (show s31 170 8 = 0 from by omega), (show (0 : Int) = 0 from rfl), (show s31 170 43 = o from by omega), hp, (show RDr _ t n from rd31), ?_, (show s31 170 34 + s31 170 45 + s31 170 42 ≤ e from by omega), by omega, by omega, by first | omega | (simp only [List.length_cons]; omega) | (simp only [List.length_cons] at mz3 ⊢; omega)⟩
            exact (mcQ_of (fun i => fs31 192 i rfl rfl) (fun i => fs31 193 i rfl rfl) (fun i => fs31 194 i rfl rfl) (fun i => fs31 195 i rfl rfl) (fun i => fs31 196 i rfl rfl) (fun i => fs31 197 i rfl rfl) (fs31 170 42 rfl rfl) (fs31 170 45 rfl rfl) (fs31 170 35 rfl rfl) (fs31 170 34 rfl rfl) (fun i => fs31 188 i rfl rfl) (fun i => fs31 189 i rfl rfl) (show mcQ (zup (zup s25 197 (s25 170 45 : Int).toNat (35)) 170 45 ((s25 170 45) + 1)) ((k, ph, bg, pr, 35 :: w) :: fs) (c ++ uu) from ⟨FR_hold 35 mbj.2.1 fr25, WB_c (by rw [List.length_cons]; omega) (fun x hx => by rcases List.mem_cons.mp hx with z | z; omega; exact WB_el mwj x z) (WB_tl mwj), cd25⟩))))⟩
theorem k_rGo137_m (hTb : aTb zSh rx_tb cl) {t : Int → Int} {n k ph bg pr o p e : Int} {w c : List Int} {fs : List mFr} {uu : List Int} {D : Nat} (hD : 3 ≤ D) : ∀ as st (Q Q' : zQ), (∀ r st', Q r st' → Q' r st') → (k_rGo137 t n k ph bg pr o p e w c fs uu) 197 as st Q → cl D 197 as st Q' := by
  intro as st Q Q' hQ h
  unfold k_rGo137 at h
  split at h
  · obtain ⟨rfl, h⟩ := h
    exact c_rGo137 hTb hD (ct_rGo137_m hQ h)
  · exact h.elim
set_option maxHeartbeats 4000000 in
set_option maxRecDepth 100000 in
theorem c_rGo360 (hTb : aTb zSh rx_tb cl) {t : Int → Int} {n k ph bg pr o p e : Int} {w c : List Int} {fs : List mFr} {uu : List Int} {D : Nat} (hD : 3 ≤ D) {st : zS} {Q : zQ} (h : ct_rGo360 t n k ph bg pr o p e w c fs uu st Q) : cl D 197 [.inr (.inr (.inl 170))] st Q := by
  obtain ⟨d, rfl⟩ : ∃ d, D = d + 1 := ⟨D - 1, by omega⟩
  refine hTb d 197 (rx_m197, 5, 0, 0, 2) rfl _ _ _ (Nat.le_of_ble_eq_true rfl) (fun K hcl hsf hsl => ?_)
  have hcm : zmo (wcL [(181, k_rLex), (195, k_isTest), (183, k_isWord), (182, k_isSign), (149, k_rNext t n), (189, k_add), (192, k_holdsBack), (191, k_rJoins k ph bg pr uu w fs c)]) (cl d) := (wcL_m (wm_cons (k_rLex_m hTb (by omega)) (wm_cons (k_isTest_m hTb (by omega)) (wm_cons (k_isWord_m hTb (by omega)) (wm_cons (k_isSign_m hTb (by omega)) (wm_cons (k_rNext_m hTb (by omega)) (wm_cons (k_add_m hTb (by omega)) (wm_cons (k_holdsBack_m hTb (by omega)) (wm_cons (k_rJoins_m hTb (by omega)) wm_nil)))))))))
  obtain ⟨hR, hQ⟩ := h
  obtain ⟨hG, mp, ht⟩ := hR
  change mcP t n st ((k, ph, bg, pr, uu ++ w) :: fs) 1 (o) (c) (p) at mp
  change tk t n p 3 60 e ∧ isT k ∧ ph = 0 ∧ RG uu 5 ∧ TR w 5 ∧ w.length ≤ 14 at ht
  obtain ⟨mf, mo, mn, mpp, mrd, mq, mbd, mz1, mz2, mz3⟩ := mp
  simp only [List.length_cons] at mz3
  have mq0 := mq
  obtain ⟨mfr, mwb, mcd⟩ := mq
  have mt := FR_top mfr
  have mb := FR_bnd _ _ _ mwb mfr
  simp only [List.length_cons] at mb
  have ml := WB_hd mwb
  have mcl := mcd.1
  have mlw := FR_len mb.2.1 mfr
  have mnb := nots_b w
  have tf := r_sig mrd (by rw [mpp]; exact ht.1)
  have tnn : nots uu = 0 := RG_nots (RG_le ht.2.2.2.1 (by omega))
  have tkT : k = 1 ∨ k = 5 ∨ k = 6 := ht.2.1
  have g1 := g_codes hG
  have g2 := g_in hG
  have g3 := g_isClever hG
  have g4 := g_deep hG
  have g5 := g_open hG
  have g6 := g_opMany hG
  have g7 := g_signAt hG
  have g8 := g_signEnd hG
  have g9 := g_faultKind hG
  have g10 := g_size hG
  have g11 := g_sign hG
  have g12 := g_lexAt hG
  have g13 := g_value hG
  have g14 := g_word hG
  have g15 := g_operand hG
  refine yr1_ok (Rt := Q) (wc := (wcL [(181, k_rLex), (195, k_isTest), (183, k_isWord), (182, k_isSign), (149, k_rNext t n), (189, k_add), (192, k_holdsBack), (191, k_rJoins k ph bg pr uu w fs c)])) (stp := []) hcm hcl [] 500 ?_
  show (170 = 170 ∧ (rq_rLex  st ∧ (((st 170 8 ≤ (0 : Int) → ((-2147483648 ≤ (st 170 42) - 1 ∧ (st 170 42) - 1 ≤ 2147483647) ∧ ((0 ≤ (st 170 42) - 1 ∧ (st 170 42) - 1 < 20) ∧ (∀ (r17 : Int), en_isTest (st 192 ((st 170 42) - 1 : Int).toNat) st r17 → ((0 ≤ (st 170 42) - 1 ∧ (st 170 42) - 1 < 20) ∧ (((2 : Int) ≤ st 193 ((st 170 42) - 1 : Int).toNat → _) ∧ (¬ ((2 : Int) ≤ st 193 ((st 170 42) - 1 : Int).toNat) → (170 = 170 ∧ (∀ (r18 : Int), en_isSign (43) st r18 → ((¬ r18 = (0 : Int) → _) ∧ (¬ (¬ r18 = (0 : Int)) → (170 = 170 ∧ (∀ (r19 : Int), en_isSign (45) st r19 → ((¬ r19 = (0 : Int) → _) ∧ (¬ (¬ r19 = (0 : Int)) → (170 = 170 ∧ (∀ (r20 : Int), en_isSign (42) st r20 → ((¬ r20 = (0 : Int) → _) ∧ (¬ (¬ r20 = (0 : Int)) → (170 = 170 ∧ (∀ (r21 : Int), en_isSign (47) st r21 → ((¬ r21 = (0 : Int) → _) ∧ (¬ (¬ r21 = (0 : Int)) → (170 = 170 ∧ (∀ (r22 : Int), en_isSign (37) st r22 → ((r22 = (0 : Int) → ((r17 = (0 : Int) → _) ∧ (¬ (r17 = (0 : Int)) → ((0 ≤ (st 170 42) - 1 ∧ (st 170 42) - 1 < 20) ∧ ((¬ st 193 ((st 170 42) - 1 : Int).toNat = (0 : Int) → _) ∧ (¬ (¬ st 193 ((st 170 42) - 1 : Int).toNat = (0 : Int)) → (170 = 170 ∧ (∀ (r23 : Int), en_isSign (60) st r23 → ((¬ r23 = (0 : Int) → (170 = 170 ∧ (rq_rJoins k ph bg pr uu w fs c (5) st ∧ (∀ (s24 : zS), en_rJoins k ph bg pr uu w fs c (5) st s24 → (170 = 170 ∧ (∀ (r25 : Int), en_isSign (60) s24 r25 → ((r25 = (0 : Int) → _) ∧ (¬ (r25 = (0 : Int)) → (170 = 170 ∧ (rq_holdsBack (38) s24 ∧ (((0 ≤ (st 170 42) - 1 ∧ (st 170 42) - 1 < 20) ∧ (170 = 170 ∧ (rq_rNext t n  (zup (zup (zup s24 197 (s24 170 45 : Int).toNat (38)) 170 45 ((s24 170 45) + 1)) 193 ((st 170 42) - 1 : Int).toNat 1) ∧ (∀ (s27 : zS), en_rNext t n  (zup (zup (zup s24 197 (s24 170 45 : Int).toNat (38)) 170 45 ((s24 170 45) + 1)) 193 ((st 170 42) - 1 : Int).toNat 1) s27 → ((0 = (0 : Int) ∨ 0 = (1 : Int)) ∧ ((1 = (0 : Int) ∨ 1 = (1 : Int)) ∧ Q (some (.inl 1)) (zup s27 170 46 0)))))))))))))))))) ∧ (¬ (¬ r23 = (0 : Int)) → _)))))))))) ∧ (¬ (r22 = (0 : Int)) → _))))))))))))))))))))))))))) ∧ (¬ (st 170 8 ≤ (0 : Int)) → _)))))
  refine ⟨rfl, ⟨hG, (show st 170 12 = -1 from by omega)⟩, ?_⟩
  refine ⟨fun h28 => ?_, fun h28 => (by exfalso; omega)⟩
  refine ⟨by omega, ?_⟩
  have g29 := g_frame hG ((st 170 42) - 1 : Int).toNat
  refine ⟨by omega, ?_⟩
  refine fun r17 q17 => ?_
  have b17 := q17
  change (r17 = 0 ∨ r17 = 1) ∧ (r17 = 1 ↔ (st 192 ((st 170 42) - 1 : Int).toNat) = 1 ∨ (st 192 ((st 170 42) - 1 : Int).toNat) = 5 ∨ (st 192 ((st 170 42) - 1 : Int).toNat) = 6) at b17
  have g30 := g_phase hG ((st 170 42) - 1 : Int).toNat
  refine ⟨by omega, ?_⟩
  refine ⟨fun h31 => (by exfalso; omega), fun h31 => ?_⟩
  refine ⟨rfl, fun r18 q18 => ?_⟩
  have b18 := q18
  change (r18 = 0 ∨ r18 = 1) ∧ (r18 = 1 ↔ st 170 3 = 3 ∧ st 170 6 = (43)) at b18
  refine ⟨fun h32 => (by exfalso; clear hQ; omega), fun h32 => ?_⟩
  clear h32 b18
  refine ⟨rfl, fun r19 q19 => ?_⟩
  have b19 := q19
  change (r19 = 0 ∨ r19 = 1) ∧ (r19 = 1 ↔ st 170 3 = 3 ∧ st 170 6 = (45)) at b19
  refine ⟨fun h33 => (by exfalso; clear hQ; omega), fun h33 => ?_⟩
  clear h33 b19
  refine ⟨rfl, fun r20 q20 => ?_⟩
  have b20 := q20
  change (r20 = 0 ∨ r20 = 1) ∧ (r20 = 1 ↔ st 170 3 = 3 ∧ st 170 6 = (42)) at b20
  refine ⟨fun h34 => (by exfalso; clear hQ; omega), fun h34 => ?_⟩
  clear h34 b20
  refine ⟨rfl, fun r21 q21 => ?_⟩
  have b21 := q21
  change (r21 = 0 ∨ r21 = 1) ∧ (r21 = 1 ↔ st 170 3 = 3 ∧ st 170 6 = (47)) at b21
  refine ⟨fun h35 => (by exfalso; clear hQ; omega), fun h35 => ?_⟩
  clear h35 b21
  refine ⟨rfl, fun r22 q22 => ?_⟩
  have b22 := q22
  change (r22 = 0 ∨ r22 = 1) ∧ (r22 = 1 ↔ st 170 3 = 3 ∧ st 170 6 = (37)) at b22
  refine ⟨fun h36 => ?_, fun h36 => (by exfalso; clear hQ; omega)⟩
  clear h36 b22
  refine ⟨fun h37 => (by exfalso; clear hQ; omega), fun h37 => ?_⟩
  clear h37
  refine ⟨by omega, ?_⟩
  refine ⟨fun h38 => (by exfalso; omega), fun h38 => ?_⟩
  refine ⟨rfl, fun r23 q23 => ?_⟩
  have b23 := q23
  change (r23 = 0 ∨ r23 = 1) ∧ (r23 = 1 ↔ st 170 3 = 3 ∧ st 170 6 = (60)) at b23
  refine ⟨fun h39 => ?_, fun h39 => (by exfalso; clear hQ; omega)⟩
  clear h39 b23
  refine ⟨rfl, ⟨hG, (show FR (st 192) (st 193) (st 194) (st 195) (st 196) (st 197) ((k, ph, bg, pr, uu ++ w) :: fs) (st 170 42) (st 170 45) from mfr), (show WB ((k, ph, bg, pr, uu ++ w) :: fs) from mwb), (show RG uu (5) from ht.2.2.2.1), (show TR w (5) from ht.2.2.2.2.1), (show CDr (st 170 35) (st 170 34) (st 188) (st 189) (c) from mcd), (show st 170 34 + st 170 45 ≤ 1600 ∧ 0 ≤ st 170 43 ∧ st 170 43 ≤ 7 ∧ st 170 42 ≤ 9 from by omega)⟩, fun s24 q24 => ?_⟩
  obtain ⟨gs24, fs24, yq24, fr24, cd24, op24, cm24⟩ := q24
  change FR (s24 192) (s24 193) (s24 194) (s24 195) (s24 196) (s24 197) ((k, ph, bg, pr, w) :: fs) (s24 170 42) (s24 170 45) at fr24
  have e40 : s24 170 42 = st 170 42 := fs24 170 42 rfl rfl
  have g41 := g_opMany gs24
  change CDr (s24 170 35) (s24 170 34) (s24 188) (s24 189) (c ++ uu) at cd24
  have e42 : s24 170 35 = st 170 35 := fs24 170 35 rfl rfl
  have g43 := g_codes gs24
  change s24 170 43 = st 170 43 - nots uu at op24
  have g44 := g_open gs24
  change s24 170 34 + s24 170 45 = st 170 34 + st 170 45 at cm24
  have mwj : WB ((k, ph, bg, pr, w) :: fs) := WB_c (by have q := WB_hd mwb; rw [List.length_append] at q; omega) (fun x hx => WB_el mwb x (List.mem_append_right _ hx)) (WB_tl mwb)
  have mbj := FR_bnd _ _ _ mwj fr24
  simp only [List.length_cons] at mbj
  have mcj := cd24.1
  rw [List.length_append] at mcj
  have e45 : s24 170 3 = st 170 3 := fs24 170 3 rfl rfl
  have e46 : s24 170 6 = st 170 6 := fs24 170 6 rfl rfl
  have e47 : s24 170 7 = st 170 7 := fs24 170 7 rfl rfl
  have e48 : s24 170 12 = st 170 12 := fs24 170 12 rfl rfl
  have e49 : s24 170 8 = st 170 8 := fs24 170 8 rfl rfl
  have e50 : s24 170 4 = st 170 4 := fs24 170 4 rfl rfl
  have e51 : s24 170 5 = st 170 5 := fs24 170 5 rfl rfl
  refine ⟨rfl, fun r25 q25 => ?_⟩
  have b25 := q25
  change (r25 = 0 ∨ r25 = 1) ∧ (r25 = 1 ↔ s24 170 3 = 3 ∧ s24 170 6 = (60)) at b25
  refine ⟨fun h52 => (by exfalso; clear hQ; omega), fun h52 => ?_⟩
  clear h52 b25
  refine ⟨rfl, ⟨gs24, (show 0 ≤ s24 170 45 ∧ s24 170 45 ≤ 499 from by omega)⟩, ?_⟩
  refine ⟨by omega, ?_⟩
  refine ⟨rfl, ⟨(gInv_up (gInv_up (gInv_up gs24 (p_ops (by omega))) (p_opMany (by omega))) (p_phase (by omega))), (show RDr (zup (zup (zup s24 197 (s24 170 45 : Int).toNat (38)) 170 45 ((s24 170 45) + 1)) 193 ((st 170 42) - 1 : Int).toNat 1) t n from (show RDr (zup (zup (zup s24 197 (s24 170 45 : Int).toNat (38)) 170 45 ((s24 170 45) + 1)) 193 ((st 170 42) - 1 : Int).toNat 1) t n from (RDr_of (fs24 170 2 rfl rfl) (fun i => fs24 171 i rfl rfl) (fs24 170 3 rfl rfl) (fs24 170 4 rfl rfl) (fs24 170 5 rfl rfl) (fs24 170 6 rfl rfl) (fs24 170 7 rfl rfl) (fs24 170 12 rfl rfl) mrd))), (show s24 170 12 = -1 from by omega)⟩, fun s27 q27 => ?_⟩
  obtain ⟨gs27, fs27, rd27, nx27⟩ := q27
  change RDr s27 t n at rd27
  change NXr (zup (zup (zup s24 197 (s24 170 45 : Int).toNat (38)) 170 45 ((s24 170 45) + 1)) 193 ((st 170 42) - 1 : Int).toNat 1) s27 t n at nx27
  refine ⟨by omega, ?_⟩
  refine ⟨by omega, ?_⟩
  have e53 : s27 170 8 = s24 170 8 := fs27 170 8 rfl rfl
  have e54 : s27 170 43 = s24 170 43 := fs27 170 43 rfl rfl
  have e55 : s27 170 34 = s24 170 34 := fs27 170 34 rfl rfl
  have e56 : s27 170 45 = ((s24 170 45) + 1) := fs27 170 45 rfl rfl
  have e57 : s27 170 42 = s24 170 42 := fs27 170 42 rfl rfl
  have g58 := g_signAt gs27
  exact hQ _ _ ⟨(gInv_up gs27 (p_operand (by omega))), (fr_f (fr_tr (fr_a (fr_f (fr_a (fr_tr (fr_rf _ _) fs24 rfl) rfl) rfl) rfl) fs27 rfl) rfl), (Z9_up (Z9_tr (Z9_up (Z9_up (Z9_up yq24 (by decide)) (by decide)) (by decide)) ((show aFr m_rGo360 st (zup (zup (zup s24 197 (s24 170 45 : Int).toNat (38)) 170 45 ((s24 170 45) + 1)) 193 ((st 170 42) - 1 : Int).toNat 1) from (fr_a (fr_f (fr_a (fr_tr (fr_rf _ _) fs24 rfl) rfl) rfl) rfl)) 170 35 rfl rfl) (Z9_fr fs27 (fun _ => rfl) rfl)) (by decide)), (show (1 : Int) = 1 ∧ mcP t n (zup s27 170 46 0) ((k, 1, bg, pr, 38 :: w) :: fs) 0 (o) (c ++ uu) (e) from (by
            have tkk := ht.1
            have hp : s27 170 4 = e := NXr_e (st := (zup (zup (zup s24 197 (s24 170 45 : Int).toNat (38)) 170 45 ((s24 170 45) + 1)) 193 ((st 170 42) - 1 : Int).toNat 1)) (show NXr (zup (zup (zup s24 197 (s24 170 45 : Int).toNat (38)) 170 45 ((s24 170 45) + 1)) 193 ((st 170 42) - 1 : Int).toNat 1) s27 t n from nx27) (show tk t n ((zup (zup (zup s24 197 (s24 170 45 : Int).toNat (38)) 170 45 ((s24 170 45) + 1)) 193 ((st 170 42) - 1 : Int).toNat 1) 170 4) _ _ e from by rw [show (zup (zup (zup s24 197 (s24 170 45 : Int).toNat (38)) 170 45 ((s24 170 45) + 1)) 193 ((st 170 42) - 1 : Int).toNat 1) 170 4 = p from (show s24 170 4 = p from by omega)]; exact tkk) (by omega)
            have hl := tk_lt tkk (show 0 ≤ p from by rw [← mpp]; exact mrd.2.1.1) (by omega)
            refine ⟨rfl, (show s27 170 8 = 0 from by omega), (show (0 : Int) = 0 from rfl), (show s27 170 43 = o from by omega), hp, (show RDr _ t n from rd27), ?_, (show s27 170 34 + s27 170 45 + s27 170 42 ≤ e from by omega), by omega, by omega, by first | omega | (simp only [List.length_cons]; omega) | (simp only [List.length_cons] at mz3 ⊢; omega)⟩
            exact (mcQ_of (fun i => fs27 192 i rfl rfl) (fun i => fs27 193 i rfl rfl) (fun i => fs27 194 i rfl rfl) (fun i => fs27 195 i rfl rfl) (fun i => fs27 196 i rfl rfl) (fun i => fs27 197 i rfl rfl) (fs27 170 42 rfl rfl) (fs27 170 45 rfl rfl) (fs27 170 35 rfl rfl) (fs27 170 34 rfl rfl) (fun i => fs27 188 i rfl rfl) (fun i => fs27 189 i rfl rfl) (show mcQ (zup (zup (zup s24 197 (s24 170 45 : Int).toNat (38)) 170 45 ((s24 170 45) + 1)) 193 ((st 170 42) - 1 : Int).toNat 1) ((k, 1, bg, pr, 38 :: w) :: fs) (c ++ uu) from ⟨(by have q := FR_ph 1 (by omega) (FR_hold 38 mbj.2.1 fr24); rw [show (s24 170 42 - 1 : Int).toNat = (st 170 42 - 1 : Int).toNat from by omega] at q; exact q), WB_c (by rw [List.length_cons]; omega) (fun x hx => by rcases List.mem_cons.mp hx with z | z; omega; exact WB_el mwj x z) (WB_tl mwj), cd24⟩))))⟩
theorem k_rGo360_m (hTb : aTb zSh rx_tb cl) {t : Int → Int} {n k ph bg pr o p e : Int} {w c : List Int} {fs : List mFr} {uu : List Int} {D : Nat} (hD : 3 ≤ D) : ∀ as st (Q Q' : zQ), (∀ r st', Q r st' → Q' r st') → (k_rGo360 t n k ph bg pr o p e w c fs uu) 197 as st Q → cl D 197 as st Q' := by
  intro as st Q Q' hQ h
  unfold k_rGo360 at h
  split at h
  · obtain ⟨rfl, h⟩ := h
    exact c_rGo360 hTb hD (ct_rGo360_m hQ h)
  · exact h.elim
set_option maxHeartbeats 4000000 in
set_option maxRecDepth 100000 in
theorem c_rGo361 (hTb : aTb zSh rx_tb cl) {t : Int → Int} {n k ph bg pr o p e : Int} {w c : List Int} {fs : List mFr} {uu : List Int} {D : Nat} (hD : 3 ≤ D) {st : zS} {Q : zQ} (h : ct_rGo361 t n k ph bg pr o p e w c fs uu st Q) : cl D 197 [.inr (.inr (.inl 170))] st Q := by
  obtain ⟨d, rfl⟩ : ∃ d, D = d + 1 := ⟨D - 1, by omega⟩
  refine hTb d 197 (rx_m197, 5, 0, 0, 2) rfl _ _ _ (Nat.le_of_ble_eq_true rfl) (fun K hcl hsf hsl => ?_)
  have hcm : zmo (wcL [(181, k_rLex), (195, k_isTest), (183, k_isWord), (182, k_isSign), (149, k_rNext t n), (189, k_add), (192, k_holdsBack), (191, k_rJoins k ph bg pr uu w fs c)]) (cl d) := (wcL_m (wm_cons (k_rLex_m hTb (by omega)) (wm_cons (k_isTest_m hTb (by omega)) (wm_cons (k_isWord_m hTb (by omega)) (wm_cons (k_isSign_m hTb (by omega)) (wm_cons (k_rNext_m hTb (by omega)) (wm_cons (k_add_m hTb (by omega)) (wm_cons (k_holdsBack_m hTb (by omega)) (wm_cons (k_rJoins_m hTb (by omega)) wm_nil)))))))))
  obtain ⟨hR, hQ⟩ := h
  obtain ⟨hG, mp, ht⟩ := hR
  change mcP t n st ((k, ph, bg, pr, uu ++ w) :: fs) 1 (o) (c) (p) at mp
  change tk t n p 3 61 e ∧ isT k ∧ ph = 0 ∧ RG uu 5 ∧ TR w 5 ∧ w.length ≤ 14 at ht
  obtain ⟨mf, mo, mn, mpp, mrd, mq, mbd, mz1, mz2, mz3⟩ := mp
  simp only [List.length_cons] at mz3
  have mq0 := mq
  obtain ⟨mfr, mwb, mcd⟩ := mq
  have mt := FR_top mfr
  have mb := FR_bnd _ _ _ mwb mfr
  simp only [List.length_cons] at mb
  have ml := WB_hd mwb
  have mcl := mcd.1
  have mlw := FR_len mb.2.1 mfr
  have mnb := nots_b w
  have tf := r_sig mrd (by rw [mpp]; exact ht.1)
  have tnn : nots uu = 0 := RG_nots (RG_le ht.2.2.2.1 (by omega))
  have tkT : k = 1 ∨ k = 5 ∨ k = 6 := ht.2.1
  have g1 := g_codes hG
  have g2 := g_in hG
  have g3 := g_isClever hG
  have g4 := g_deep hG
  have g5 := g_open hG
  have g6 := g_opMany hG
  have g7 := g_signAt hG
  have g8 := g_signEnd hG
  have g9 := g_faultKind hG
  have g10 := g_size hG
  have g11 := g_sign hG
  have g12 := g_lexAt hG
  have g13 := g_value hG
  have g14 := g_word hG
  have g15 := g_operand hG
  refine yr1_ok (Rt := Q) (wc := (wcL [(181, k_rLex), (195, k_isTest), (183, k_isWord), (182, k_isSign), (149, k_rNext t n), (189, k_add), (192, k_holdsBack), (191, k_rJoins k ph bg pr uu w fs c)])) (stp := []) hcm hcl [] 500 ?_
  show (170 = 170 ∧ (rq_rLex  st ∧ (((st 170 8 ≤ (0 : Int) → ((-2147483648 ≤ (st 170 42) - 1 ∧ (st 170 42) - 1 ≤ 2147483647) ∧ ((0 ≤ (st 170 42) - 1 ∧ (st 170 42) - 1 < 20) ∧ (∀ (r17 : Int), en_isTest (st 192 ((st 170 42) - 1 : Int).toNat) st r17 → ((0 ≤ (st 170 42) - 1 ∧ (st 170 42) - 1 < 20) ∧ (((2 : Int) ≤ st 193 ((st 170 42) - 1 : Int).toNat → _) ∧ (¬ ((2 : Int) ≤ st 193 ((st 170 42) - 1 : Int).toNat) → (170 = 170 ∧ (∀ (r18 : Int), en_isSign (43) st r18 → ((¬ r18 = (0 : Int) → _) ∧ (¬ (¬ r18 = (0 : Int)) → (170 = 170 ∧ (∀ (r19 : Int), en_isSign (45) st r19 → ((¬ r19 = (0 : Int) → _) ∧ (¬ (¬ r19 = (0 : Int)) → (170 = 170 ∧ (∀ (r20 : Int), en_isSign (42) st r20 → ((¬ r20 = (0 : Int) → _) ∧ (¬ (¬ r20 = (0 : Int)) → (170 = 170 ∧ (∀ (r21 : Int), en_isSign (47) st r21 → ((¬ r21 = (0 : Int) → _) ∧ (¬ (¬ r21 = (0 : Int)) → (170 = 170 ∧ (∀ (r22 : Int), en_isSign (37) st r22 → ((r22 = (0 : Int) → ((r17 = (0 : Int) → _) ∧ (¬ (r17 = (0 : Int)) → ((0 ≤ (st 170 42) - 1 ∧ (st 170 42) - 1 < 20) ∧ ((¬ st 193 ((st 170 42) - 1 : Int).toNat = (0 : Int) → _) ∧ (¬ (¬ st 193 ((st 170 42) - 1 : Int).toNat = (0 : Int)) → (170 = 170 ∧ (∀ (r23 : Int), en_isSign (60) st r23 → ((¬ r23 = (0 : Int) → _) ∧ (¬ (¬ r23 = (0 : Int)) → (170 = 170 ∧ (∀ (r24 : Int), en_isSign (62) st r24 → ((¬ r24 = (0 : Int) → _) ∧ (¬ (¬ r24 = (0 : Int)) → (170 = 170 ∧ (∀ (r25 : Int), en_isSign (61) st r25 → ((r25 = (0 : Int) → _) ∧ (¬ (r25 = (0 : Int)) → (170 = 170 ∧ (rq_rJoins k ph bg pr uu w fs c (5) st ∧ (∀ (s26 : zS), en_rJoins k ph bg pr uu w fs c (5) st s26 → (170 = 170 ∧ (∀ (r27 : Int), en_isSign (60) s26 r27 → ((r27 = (0 : Int) → (170 = 170 ∧ (∀ (r28 : Int), en_isSign (62) s26 r28 → ((r28 = (0 : Int) → (170 = 170 ∧ (rq_holdsBack (40) s26 ∧ (((0 ≤ (st 170 42) - 1 ∧ (st 170 42) - 1 < 20) ∧ (170 = 170 ∧ (rq_rNext t n  (zup (zup (zup s26 197 (s26 170 45 : Int).toNat (40)) 170 45 ((s26 170 45) + 1)) 193 ((st 170 42) - 1 : Int).toNat 1) ∧ (∀ (s30 : zS), en_rNext t n  (zup (zup (zup s26 197 (s26 170 45 : Int).toNat (40)) 170 45 ((s26 170 45) + 1)) 193 ((st 170 42) - 1 : Int).toNat 1) s30 → ((0 = (0 : Int) ∨ 0 = (1 : Int)) ∧ ((1 = (0 : Int) ∨ 1 = (1 : Int)) ∧ Q (some (.inl 1)) (zup s30 170 46 0))))))))))) ∧ (¬ (r28 = (0 : Int)) → _))))) ∧ (¬ (r27 = (0 : Int)) → _))))))))))))))))))))))))) ∧ (¬ (r22 = (0 : Int)) → _))))))))))))))))))))))))))) ∧ (¬ (st 170 8 ≤ (0 : Int)) → _)))))
  refine ⟨rfl, ⟨hG, (show st 170 12 = -1 from by omega)⟩, ?_⟩
  refine ⟨fun h31 => ?_, fun h31 => (by exfalso; omega)⟩
  refine ⟨by omega, ?_⟩
  have g32 := g_frame hG ((st 170 42) - 1 : Int).toNat
  refine ⟨by omega, ?_⟩
  refine fun r17 q17 => ?_
  have b17 := q17
  change (r17 = 0 ∨ r17 = 1) ∧ (r17 = 1 ↔ (st 192 ((st 170 42) - 1 : Int).toNat) = 1 ∨ (st 192 ((st 170 42) - 1 : Int).toNat) = 5 ∨ (st 192 ((st 170 42) - 1 : Int).toNat) = 6) at b17
  have g33 := g_phase hG ((st 170 42) - 1 : Int).toNat
  refine ⟨by omega, ?_⟩
  refine ⟨fun h34 => (by exfalso; omega), fun h34 => ?_⟩
  refine ⟨rfl, fun r18 q18 => ?_⟩
  have b18 := q18
  change (r18 = 0 ∨ r18 = 1) ∧ (r18 = 1 ↔ st 170 3 = 3 ∧ st 170 6 = (43)) at b18
  refine ⟨fun h35 => (by exfalso; clear hQ; omega), fun h35 => ?_⟩
  clear h35 b18
  refine ⟨rfl, fun r19 q19 => ?_⟩
  have b19 := q19
  change (r19 = 0 ∨ r19 = 1) ∧ (r19 = 1 ↔ st 170 3 = 3 ∧ st 170 6 = (45)) at b19
  refine ⟨fun h36 => (by exfalso; clear hQ; omega), fun h36 => ?_⟩
  clear h36 b19
  refine ⟨rfl, fun r20 q20 => ?_⟩
  have b20 := q20
  change (r20 = 0 ∨ r20 = 1) ∧ (r20 = 1 ↔ st 170 3 = 3 ∧ st 170 6 = (42)) at b20
  refine ⟨fun h37 => (by exfalso; clear hQ; omega), fun h37 => ?_⟩
  clear h37 b20
  refine ⟨rfl, fun r21 q21 => ?_⟩
  have b21 := q21
  change (r21 = 0 ∨ r21 = 1) ∧ (r21 = 1 ↔ st 170 3 = 3 ∧ st 170 6 = (47)) at b21
  refine ⟨fun h38 => (by exfalso; clear hQ; omega), fun h38 => ?_⟩
  clear h38 b21
  refine ⟨rfl, fun r22 q22 => ?_⟩
  have b22 := q22
  change (r22 = 0 ∨ r22 = 1) ∧ (r22 = 1 ↔ st 170 3 = 3 ∧ st 170 6 = (37)) at b22
  refine ⟨fun h39 => ?_, fun h39 => (by exfalso; clear hQ; omega)⟩
  clear h39 b22
  refine ⟨fun h40 => (by exfalso; clear hQ; omega), fun h40 => ?_⟩
  clear h40
  refine ⟨by omega, ?_⟩
  refine ⟨fun h41 => (by exfalso; omega), fun h41 => ?_⟩
  refine ⟨rfl, fun r23 q23 => ?_⟩
  have b23 := q23
  change (r23 = 0 ∨ r23 = 1) ∧ (r23 = 1 ↔ st 170 3 = 3 ∧ st 170 6 = (60)) at b23
  refine ⟨fun h42 => (by exfalso; clear hQ; omega), fun h42 => ?_⟩
  clear h42 b23
  refine ⟨rfl, fun r24 q24 => ?_⟩
  have b24 := q24
  change (r24 = 0 ∨ r24 = 1) ∧ (r24 = 1 ↔ st 170 3 = 3 ∧ st 170 6 = (62)) at b24
  refine ⟨fun h43 => (by exfalso; clear hQ; omega), fun h43 => ?_⟩
  clear h43 b24
  refine ⟨rfl, fun r25 q25 => ?_⟩
  have b25 := q25
  change (r25 = 0 ∨ r25 = 1) ∧ (r25 = 1 ↔ st 170 3 = 3 ∧ st 170 6 = (61)) at b25
  refine ⟨fun h44 => (by exfalso; clear hQ; omega), fun h44 => ?_⟩
  clear h44 b25
  refine ⟨rfl, ⟨hG, (show FR (st 192) (st 193) (st 194) (st 195) (st 196) (st 197) ((k, ph, bg, pr, uu ++ w) :: fs) (st 170 42) (st 170 45) from mfr), (show WB ((k, ph, bg, pr, uu ++ w) :: fs) from mwb), (show RG uu (5) from ht.2.2.2.1), (show TR w (5) from ht.2.2.2.2.1), (show CDr (st 170 35) (st 170 34) (st 188) (st 189) (c) from mcd), (show st 170 34 + st 170 45 ≤ 1600 ∧ 0 ≤ st 170 43 ∧ st 170 43 ≤ 7 ∧ st 170 42 ≤ 9 from by omega)⟩, fun s26 q26 => ?_⟩
  obtain ⟨gs26, fs26, yq26, fr26, cd26, op26, cm26⟩ := q26
  change FR (s26 192) (s26 193) (s26 194) (s26 195) (s26 196) (s26 197) ((k, ph, bg, pr, w) :: fs) (s26 170 42) (s26 170 45) at fr26
  have e45 : s26 170 42 = st 170 42 := fs26 170 42 rfl rfl
  have g46 := g_opMany gs26
  change CDr (s26 170 35) (s26 170 34) (s26 188) (s26 189) (c ++ uu) at cd26
  have e47 : s26 170 35 = st 170 35 := fs26 170 35 rfl rfl
  have g48 := g_codes gs26
  change s26 170 43 = st 170 43 - nots uu at op26
  have g49 := g_open gs26
  change s26 170 34 + s26 170 45 = st 170 34 + st 170 45 at cm26
  have mwj : WB ((k, ph, bg, pr, w) :: fs) := WB_c (by have q := WB_hd mwb; rw [List.length_append] at q; omega) (fun x hx => WB_el mwb x (List.mem_append_right _ hx)) (WB_tl mwb)
  have mbj := FR_bnd _ _ _ mwj fr26
  simp only [List.length_cons] at mbj
  have mcj := cd26.1
  rw [List.length_append] at mcj
  have e50 : s26 170 3 = st 170 3 := fs26 170 3 rfl rfl
  have e51 : s26 170 6 = st 170 6 := fs26 170 6 rfl rfl
  have e52 : s26 170 7 = st 170 7 := fs26 170 7 rfl rfl
  have e53 : s26 170 12 = st 170 12 := fs26 170 12 rfl rfl
  have e54 : s26 170 8 = st 170 8 := fs26 170 8 rfl rfl
  have e55 : s26 170 4 = st 170 4 := fs26 170 4 rfl rfl
  have e56 : s26 170 5 = st 170 5 := fs26 170 5 rfl rfl
  refine ⟨rfl, fun r27 q27 => ?_⟩
  have b27 := q27
  change (r27 = 0 ∨ r27 = 1) ∧ (r27 = 1 ↔ s26 170 3 = 3 ∧ s26 170 6 = (60)) at b27
  refine ⟨fun h57 => ?_, fun h57 => (by exfalso; clear hQ; omega)⟩
  clear h57 b27
  refine ⟨rfl, fun r28 q28 => ?_⟩
  have b28 := q28
  change (r28 = 0 ∨ r28 = 1) ∧ (r28 = 1 ↔ s26 170 3 = 3 ∧ s26 170 6 = (62)) at b28
  refine ⟨fun h58 => ?_, fun h58 => (by exfalso; clear hQ; omega)⟩
  clear h58 b28
  refine ⟨rfl, ⟨gs26, (show 0 ≤ s26 170 45 ∧ s26 170 45 ≤ 499 from by omega)⟩, ?_⟩
  refine ⟨by omega, ?_⟩
  refine ⟨rfl, ⟨(gInv_up (gInv_up (gInv_up gs26 (p_ops (by omega))) (p_opMany (by omega))) (p_phase (by omega))), (show RDr (zup (zup (zup s26 197 (s26 170 45 : Int).toNat (40)) 170 45 ((s26 170 45) + 1)) 193 ((st 170 42) - 1 : Int).toNat 1) t n from (show RDr (zup (zup (zup s26 197 (s26 170 45 : Int).toNat (40)) 170 45 ((s26 170 45) + 1)) 193 ((st 170 42) - 1 : Int).toNat 1) t n from (RDr_of (fs26 170 2 rfl rfl) (fun i => fs26 171 i rfl rfl) (fs26 170 3 rfl rfl) (fs26 170 4 rfl rfl) (fs26 170 5 rfl rfl) (fs26 170 6 rfl rfl) (fs26 170 7 rfl rfl) (fs26 170 12 rfl rfl) mrd))), (show s26 170 12 = -1 from by omega)⟩, fun s30 q30 => ?_⟩
  obtain ⟨gs30, fs30, rd30, nx30⟩ := q30
  change RDr s30 t n at rd30
  change NXr (zup (zup (zup s26 197 (s26 170 45 : Int).toNat (40)) 170 45 ((s26 170 45) + 1)) 193 ((st 170 42) - 1 : Int).toNat 1) s30 t n at nx30
  refine ⟨by omega, ?_⟩
  refine ⟨by omega, ?_⟩
  have e59 : s30 170 8 = s26 170 8 := fs30 170 8 rfl rfl
  have e60 : s30 170 43 = s26 170 43 := fs30 170 43 rfl rfl
  have e61 : s30 170 34 = s26 170 34 := fs30 170 34 rfl rfl
  have e62 : s30 170 45 = ((s26 170 45) + 1) := fs30 170 45 rfl rfl
  have e63 : s30 170 42 = s26 170 42 := fs30 170 42 rfl rfl
  have g64 := g_signAt gs30
  exact hQ _ _ ⟨(gInv_up gs30 (p_operand (by omega))), (fr_f (fr_tr (fr_a (fr_f (fr_a (fr_tr (fr_rf _ _) fs26 rfl) rfl) rfl) rfl) fs30 rfl) rfl), (Z9_up (Z9_tr (Z9_up (Z9_up (Z9_up yq26 (by decide)) (by decide)) (by decide)) ((show aFr m_rGo361 st (zup (zup (zup s26 197 (s26 170 45 : Int).toNat (40)) 170 45 ((s26 170 45) + 1)) 193 ((st 170 42) - 1 : Int).toNat 1) from (fr_a (fr_f (fr_a (fr_tr (fr_rf _ _) fs26 rfl) rfl) rfl) rfl)) 170 35 rfl rfl) (Z9_fr fs30 (fun _ => rfl) rfl)) (by decide)), (show (1 : Int) = 1 ∧ mcP t n (zup s30 170 46 0) ((k, 1, bg, pr, 40 :: w) :: fs) 0 (o) (c ++ uu) (e) from (by
            have tkk := ht.1
            have hp : s30 170 4 = e := NXr_e (st := (zup (zup (zup s26 197 (s26 170 45 : Int).toNat (40)) 170 45 ((s26 170 45) + 1)) 193 ((st 170 42) - 1 : Int).toNat 1)) (show NXr (zup (zup (zup s26 197 (s26 170 45 : Int).toNat (40)) 170 45 ((s26 170 45) + 1)) 193 ((st 170 42) - 1 : Int).toNat 1) s30 t n from nx30) (show tk t n ((zup (zup (zup s26 197 (s26 170 45 : Int).toNat (40)) 170 45 ((s26 170 45) + 1)) 193 ((st 170 42) - 1 : Int).toNat 1) 170 4) _ _ e from by rw [show (zup (zup (zup s26 197 (s26 170 45 : Int).toNat (40)) 170 45 ((s26 170 45) + 1)) 193 ((st 170 42) - 1 : Int).toNat 1) 170 4 = p from (show s26 170 4 = p from by omega)]; exact tkk) (by omega)
            have hl := tk_lt tkk (show 0 ≤ p from by rw [← mpp]; exact mrd.2.1.1) (by omega)
            refine ⟨rfl, (show s30 170 8 = 0 from by omega), (show (0 : Int) = 0 from rfl), (show s30 170 43 = o from by omega), hp, (show RDr _ t n from rd30), ?_, (show s30 170 34 + s30 170 45 + s30 170 42 ≤ e from by omega), by omega, by omega, by first | omega | (simp only [List.length_cons]; omega) | (simp only [List.length_cons] at mz3 ⊢; omega)⟩
            exact (mcQ_of (fun i => fs30 192 i rfl rfl) (fun i => fs30 193 i rfl rfl) (fun i => fs30 194 i rfl rfl) (fun i => fs30 195 i rfl rfl) (fun i => fs30 196 i rfl rfl) (fun i => fs30 197 i rfl rfl) (fs30 170 42 rfl rfl) (fs30 170 45 rfl rfl) (fs30 170 35 rfl rfl) (fs30 170 34 rfl rfl) (fun i => fs30 188 i rfl rfl) (fun i => fs30 189 i rfl rfl) (show mcQ (zup (zup (zup s26 197 (s26 170 45 : Int).toNat (40)) 170 45 ((s26 170 45) + 1)) 193 ((st 170 42) - 1 : Int).toNat 1) ((k, 1, bg, pr, 40 :: w) :: fs) (c ++ uu) from ⟨(by have q := FR_ph 1 (by omega) (FR_hold 40 mbj.2.1 fr26); rw [show (s26 170 42 - 1 : Int).toNat = (st 170 42 - 1 : Int).toNat from by omega] at q; exact q), WB_c (by rw [List.length_cons]; omega) (fun x hx => by rcases List.mem_cons.mp hx with z | z; omega; exact WB_el mwj x z) (WB_tl mwj), cd26⟩))))⟩
theorem k_rGo361_m (hTb : aTb zSh rx_tb cl) {t : Int → Int} {n k ph bg pr o p e : Int} {w c : List Int} {fs : List mFr} {uu : List Int} {D : Nat} (hD : 3 ≤ D) : ∀ as st (Q Q' : zQ), (∀ r st', Q r st' → Q' r st') → (k_rGo361 t n k ph bg pr o p e w c fs uu) 197 as st Q → cl D 197 as st Q' := by
  intro as st Q Q' hQ h
  unfold k_rGo361 at h
  split at h
  · obtain ⟨rfl, h⟩ := h
    exact c_rGo361 hTb hD (ct_rGo361_m hQ h)
  · exact h.elim
set_option maxHeartbeats 4000000 in
set_option maxRecDepth 100000 in
theorem c_rGo362 (hTb : aTb zSh rx_tb cl) {t : Int → Int} {n k ph bg pr o p e : Int} {w c : List Int} {fs : List mFr} {uu : List Int} {D : Nat} (hD : 3 ≤ D) {st : zS} {Q : zQ} (h : ct_rGo362 t n k ph bg pr o p e w c fs uu st Q) : cl D 197 [.inr (.inr (.inl 170))] st Q := by
  obtain ⟨d, rfl⟩ : ∃ d, D = d + 1 := ⟨D - 1, by omega⟩
  refine hTb d 197 (rx_m197, 5, 0, 0, 2) rfl _ _ _ (Nat.le_of_ble_eq_true rfl) (fun K hcl hsf hsl => ?_)
  have hcm : zmo (wcL [(181, k_rLex), (195, k_isTest), (183, k_isWord), (182, k_isSign), (149, k_rNext t n), (189, k_add), (192, k_holdsBack), (191, k_rJoins k ph bg pr uu w fs c)]) (cl d) := (wcL_m (wm_cons (k_rLex_m hTb (by omega)) (wm_cons (k_isTest_m hTb (by omega)) (wm_cons (k_isWord_m hTb (by omega)) (wm_cons (k_isSign_m hTb (by omega)) (wm_cons (k_rNext_m hTb (by omega)) (wm_cons (k_add_m hTb (by omega)) (wm_cons (k_holdsBack_m hTb (by omega)) (wm_cons (k_rJoins_m hTb (by omega)) wm_nil)))))))))
  obtain ⟨hR, hQ⟩ := h
  obtain ⟨hG, mp, ht⟩ := hR
  change mcP t n st ((k, ph, bg, pr, uu ++ w) :: fs) 1 (o) (c) (p) at mp
  change tk t n p 3 62 e ∧ isT k ∧ ph = 0 ∧ RG uu 5 ∧ TR w 5 ∧ w.length ≤ 14 at ht
  obtain ⟨mf, mo, mn, mpp, mrd, mq, mbd, mz1, mz2, mz3⟩ := mp
  simp only [List.length_cons] at mz3
  have mq0 := mq
  obtain ⟨mfr, mwb, mcd⟩ := mq
  have mt := FR_top mfr
  have mb := FR_bnd _ _ _ mwb mfr
  simp only [List.length_cons] at mb
  have ml := WB_hd mwb
  have mcl := mcd.1
  have mlw := FR_len mb.2.1 mfr
  have mnb := nots_b w
  have tf := r_sig mrd (by rw [mpp]; exact ht.1)
  have tnn : nots uu = 0 := RG_nots (RG_le ht.2.2.2.1 (by omega))
  have tkT : k = 1 ∨ k = 5 ∨ k = 6 := ht.2.1
  have g1 := g_codes hG
  have g2 := g_in hG
  have g3 := g_isClever hG
  have g4 := g_deep hG
  have g5 := g_open hG
  have g6 := g_opMany hG
  have g7 := g_signAt hG
  have g8 := g_signEnd hG
  have g9 := g_faultKind hG
  have g10 := g_size hG
  have g11 := g_sign hG
  have g12 := g_lexAt hG
  have g13 := g_value hG
  have g14 := g_word hG
  have g15 := g_operand hG
  refine yr1_ok (Rt := Q) (wc := (wcL [(181, k_rLex), (195, k_isTest), (183, k_isWord), (182, k_isSign), (149, k_rNext t n), (189, k_add), (192, k_holdsBack), (191, k_rJoins k ph bg pr uu w fs c)])) (stp := []) hcm hcl [] 500 ?_
  show (170 = 170 ∧ (rq_rLex  st ∧ (((st 170 8 ≤ (0 : Int) → ((-2147483648 ≤ (st 170 42) - 1 ∧ (st 170 42) - 1 ≤ 2147483647) ∧ ((0 ≤ (st 170 42) - 1 ∧ (st 170 42) - 1 < 20) ∧ (∀ (r17 : Int), en_isTest (st 192 ((st 170 42) - 1 : Int).toNat) st r17 → ((0 ≤ (st 170 42) - 1 ∧ (st 170 42) - 1 < 20) ∧ (((2 : Int) ≤ st 193 ((st 170 42) - 1 : Int).toNat → _) ∧ (¬ ((2 : Int) ≤ st 193 ((st 170 42) - 1 : Int).toNat) → (170 = 170 ∧ (∀ (r18 : Int), en_isSign (43) st r18 → ((¬ r18 = (0 : Int) → _) ∧ (¬ (¬ r18 = (0 : Int)) → (170 = 170 ∧ (∀ (r19 : Int), en_isSign (45) st r19 → ((¬ r19 = (0 : Int) → _) ∧ (¬ (¬ r19 = (0 : Int)) → (170 = 170 ∧ (∀ (r20 : Int), en_isSign (42) st r20 → ((¬ r20 = (0 : Int) → _) ∧ (¬ (¬ r20 = (0 : Int)) → (170 = 170 ∧ (∀ (r21 : Int), en_isSign (47) st r21 → ((¬ r21 = (0 : Int) → _) ∧ (¬ (¬ r21 = (0 : Int)) → (170 = 170 ∧ (∀ (r22 : Int), en_isSign (37) st r22 → ((r22 = (0 : Int) → ((r17 = (0 : Int) → _) ∧ (¬ (r17 = (0 : Int)) → ((0 ≤ (st 170 42) - 1 ∧ (st 170 42) - 1 < 20) ∧ ((¬ st 193 ((st 170 42) - 1 : Int).toNat = (0 : Int) → _) ∧ (¬ (¬ st 193 ((st 170 42) - 1 : Int).toNat = (0 : Int)) → (170 = 170 ∧ (∀ (r23 : Int), en_isSign (60) st r23 → ((¬ r23 = (0 : Int) → _) ∧ (¬ (¬ r23 = (0 : Int)) → (170 = 170 ∧ (∀ (r24 : Int), en_isSign (62) st r24 → ((¬ r24 = (0 : Int) → (170 = 170 ∧ (rq_rJoins k ph bg pr uu w fs c (5) st ∧ (∀ (s25 : zS), en_rJoins k ph bg pr uu w fs c (5) st s25 → (170 = 170 ∧ (∀ (r26 : Int), en_isSign (60) s25 r26 → ((r26 = (0 : Int) → (170 = 170 ∧ (∀ (r27 : Int), en_isSign (62) s25 r27 → ((r27 = (0 : Int) → _) ∧ (¬ (r27 = (0 : Int)) → (170 = 170 ∧ (rq_holdsBack (39) s25 ∧ (((0 ≤ (st 170 42) - 1 ∧ (st 170 42) - 1 < 20) ∧ (170 = 170 ∧ (rq_rNext t n  (zup (zup (zup s25 197 (s25 170 45 : Int).toNat (39)) 170 45 ((s25 170 45) + 1)) 193 ((st 170 42) - 1 : Int).toNat 1) ∧ (∀ (s29 : zS), en_rNext t n  (zup (zup (zup s25 197 (s25 170 45 : Int).toNat (39)) 170 45 ((s25 170 45) + 1)) 193 ((st 170 42) - 1 : Int).toNat 1) s29 → ((0 = (0 : Int) ∨ 0 = (1 : Int)) ∧ ((1 = (0 : Int) ∨ 1 = (1 : Int)) ∧ Q (some (.inl 1)) (zup s29 170 46 0))))))))))))))) ∧ (¬ (r26 = (0 : Int)) → _)))))))) ∧ (¬ (¬ r24 = (0 : Int)) → _)))))))))))))) ∧ (¬ (r22 = (0 : Int)) → _))))))))))))))))))))))))))) ∧ (¬ (st 170 8 ≤ (0 : Int)) → _)))))
  refine ⟨rfl, ⟨hG, (show st 170 12 = -1 from by omega)⟩, ?_⟩
  refine ⟨fun h30 => ?_, fun h30 => (by exfalso; omega)⟩
  refine ⟨by omega, ?_⟩
  have g31 := g_frame hG ((st 170 42) - 1 : Int).toNat
  refine ⟨by omega, ?_⟩
  refine fun r17 q17 => ?_
  have b17 := q17
  change (r17 = 0 ∨ r17 = 1) ∧ (r17 = 1 ↔ (st 192 ((st 170 42) - 1 : Int).toNat) = 1 ∨ (st 192 ((st 170 42) - 1 : Int).toNat) = 5 ∨ (st 192 ((st 170 42) - 1 : Int).toNat) = 6) at b17
  have g32 := g_phase hG ((st 170 42) - 1 : Int).toNat
  refine ⟨by omega, ?_⟩
  refine ⟨fun h33 => (by exfalso; omega), fun h33 => ?_⟩
  refine ⟨rfl, fun r18 q18 => ?_⟩
  have b18 := q18
  change (r18 = 0 ∨ r18 = 1) ∧ (r18 = 1 ↔ st 170 3 = 3 ∧ st 170 6 = (43)) at b18
  refine ⟨fun h34 => (by exfalso; clear hQ; omega), fun h34 => ?_⟩
  clear h34 b18
  refine ⟨rfl, fun r19 q19 => ?_⟩
  have b19 := q19
  change (r19 = 0 ∨ r19 = 1) ∧ (r19 = 1 ↔ st 170 3 = 3 ∧ st 170 6 = (45)) at b19
  refine ⟨fun h35 => (by exfalso; clear hQ; omega), fun h35 => ?_⟩
  clear h35 b19
  refine ⟨rfl, fun r20 q20 => ?_⟩
  have b20 := q20
  change (r20 = 0 ∨ r20 = 1) ∧ (r20 = 1 ↔ st 170 3 = 3 ∧ st 170 6 = (42)) at b20
  refine ⟨fun h36 => (by exfalso; clear hQ; omega), fun h36 => ?_⟩
  clear h36 b20
  refine ⟨rfl, fun r21 q21 => ?_⟩
  have b21 := q21
  change (r21 = 0 ∨ r21 = 1) ∧ (r21 = 1 ↔ st 170 3 = 3 ∧ st 170 6 = (47)) at b21
  refine ⟨fun h37 => (by exfalso; clear hQ; omega), fun h37 => ?_⟩
  clear h37 b21
  refine ⟨rfl, fun r22 q22 => ?_⟩
  have b22 := q22
  change (r22 = 0 ∨ r22 = 1) ∧ (r22 = 1 ↔ st 170 3 = 3 ∧ st 170 6 = (37)) at b22
  refine ⟨fun h38 => ?_, fun h38 => (by exfalso; clear hQ; omega)⟩
  clear h38 b22
  refine ⟨fun h39 => (by exfalso; clear hQ; omega), fun h39 => ?_⟩
  clear h39
  refine ⟨by omega, ?_⟩
  refine ⟨fun h40 => (by exfalso; omega), fun h40 => ?_⟩
  refine ⟨rfl, fun r23 q23 => ?_⟩
  have b23 := q23
  change (r23 = 0 ∨ r23 = 1) ∧ (r23 = 1 ↔ st 170 3 = 3 ∧ st 170 6 = (60)) at b23
  refine ⟨fun h41 => (by exfalso; clear hQ; omega), fun h41 => ?_⟩
  clear h41 b23
  refine ⟨rfl, fun r24 q24 => ?_⟩
  have b24 := q24
  change (r24 = 0 ∨ r24 = 1) ∧ (r24 = 1 ↔ st 170 3 = 3 ∧ st 170 6 = (62)) at b24
  refine ⟨fun h42 => ?_, fun h42 => (by exfalso; clear hQ; omega)⟩
  clear h42 b24
  refine ⟨rfl, ⟨hG, (show FR (st 192) (st 193) (st 194) (st 195) (st 196) (st 197) ((k, ph, bg, pr, uu ++ w) :: fs) (st 170 42) (st 170 45) from mfr), (show WB ((k, ph, bg, pr, uu ++ w) :: fs) from mwb), (show RG uu (5) from ht.2.2.2.1), (show TR w (5) from ht.2.2.2.2.1), (show CDr (st 170 35) (st 170 34) (st 188) (st 189) (c) from mcd), (show st 170 34 + st 170 45 ≤ 1600 ∧ 0 ≤ st 170 43 ∧ st 170 43 ≤ 7 ∧ st 170 42 ≤ 9 from by omega)⟩, fun s25 q25 => ?_⟩
  obtain ⟨gs25, fs25, yq25, fr25, cd25, op25, cm25⟩ := q25
  change FR (s25 192) (s25 193) (s25 194) (s25 195) (s25 196) (s25 197) ((k, ph, bg, pr, w) :: fs) (s25 170 42) (s25 170 45) at fr25
  have e43 : s25 170 42 = st 170 42 := fs25 170 42 rfl rfl
  have g44 := g_opMany gs25
  change CDr (s25 170 35) (s25 170 34) (s25 188) (s25 189) (c ++ uu) at cd25
  have e45 : s25 170 35 = st 170 35 := fs25 170 35 rfl rfl
  have g46 := g_codes gs25
  change s25 170 43 = st 170 43 - nots uu at op25
  have g47 := g_open gs25
  change s25 170 34 + s25 170 45 = st 170 34 + st 170 45 at cm25
  have mwj : WB ((k, ph, bg, pr, w) :: fs) := WB_c (by have q := WB_hd mwb; rw [List.length_append] at q; omega) (fun x hx => WB_el mwb x (List.mem_append_right _ hx)) (WB_tl mwb)
  have mbj := FR_bnd _ _ _ mwj fr25
  simp only [List.length_cons] at mbj
  have mcj := cd25.1
  rw [List.length_append] at mcj
  have e48 : s25 170 3 = st 170 3 := fs25 170 3 rfl rfl
  have e49 : s25 170 6 = st 170 6 := fs25 170 6 rfl rfl
  have e50 : s25 170 7 = st 170 7 := fs25 170 7 rfl rfl
  have e51 : s25 170 12 = st 170 12 := fs25 170 12 rfl rfl
  have e52 : s25 170 8 = st 170 8 := fs25 170 8 rfl rfl
  have e53 : s25 170 4 = st 170 4 := fs25 170 4 rfl rfl
  have e54 : s25 170 5 = st 170 5 := fs25 170 5 rfl rfl
  refine ⟨rfl, fun r26 q26 => ?_⟩
  have b26 := q26
  change (r26 = 0 ∨ r26 = 1) ∧ (r26 = 1 ↔ s25 170 3 = 3 ∧ s25 170 6 = (60)) at b26
  refine ⟨fun h55 => ?_, fun h55 => (by exfalso; clear hQ; omega)⟩
  clear h55 b26
  refine ⟨rfl, fun r27 q27 => ?_⟩
  have b27 := q27
  change (r27 = 0 ∨ r27 = 1) ∧ (r27 = 1 ↔ s25 170 3 = 3 ∧ s25 170 6 = (62)) at b27
  refine ⟨fun h56 => (by exfalso; clear hQ; omega), fun h56 => ?_⟩
  clear h56 b27
  refine ⟨rfl, ⟨gs25, (show 0 ≤ s25 170 45 ∧ s25 170 45 ≤ 499 from by omega)⟩, ?_⟩
  refine ⟨by omega, ?_⟩
  refine ⟨rfl, ⟨(gInv_up (gInv_up (gInv_up gs25 (p_ops (by omega))) (p_opMany (by omega))) (p_phase (by omega))), (show RDr (zup (zup (zup s25 197 (s25 170 45 : Int).toNat (39)) 170 45 ((s25 170 45) + 1)) 193 ((st 170 42) - 1 : Int).toNat 1) t n from (show RDr (zup (zup (zup s25 197 (s25 170 45 : Int).toNat (39)) 170 45 ((s25 170 45) + 1)) 193 ((st 170 42) - 1 : Int).toNat 1) t n from (RDr_of (fs25 170 2 rfl rfl) (fun i => fs25 171 i rfl rfl) (fs25 170 3 rfl rfl) (fs25 170 4 rfl rfl) (fs25 170 5 rfl rfl) (fs25 170 6 rfl rfl) (fs25 170 7 rfl rfl) (fs25 170 12 rfl rfl) mrd))), (show s25 170 12 = -1 from by omega)⟩, fun s29 q29 => ?_⟩
  obtain ⟨gs29, fs29, rd29, nx29⟩ := q29
  change RDr s29 t n at rd29
  change NXr (zup (zup (zup s25 197 (s25 170 45 : Int).toNat (39)) 170 45 ((s25 170 45) + 1)) 193 ((st 170 42) - 1 : Int).toNat 1) s29 t n at nx29
  refine ⟨by omega, ?_⟩
  refine ⟨by omega, ?_⟩
  have e57 : s29 170 8 = s25 170 8 := fs29 170 8 rfl rfl
  have e58 : s29 170 43 = s25 170 43 := fs29 170 43 rfl rfl
  have e59 : s29 170 34 = s25 170 34 := fs29 170 34 rfl rfl
  have e60 : s29 170 45 = ((s25 170 45) + 1) := fs29 170 45 rfl rfl
  have e61 : s29 170 42 = s25 170 42 := fs29 170 42 rfl rfl
  have g62 := g_signAt gs29
  exact hQ _ _ ⟨(gInv_up gs29 (p_operand (by omega))), (fr_f (fr_tr (fr_a (fr_f (fr_a (fr_tr (fr_rf _ _) fs25 rfl) rfl) rfl) rfl) fs29 rfl) rfl), (Z9_up (Z9_tr (Z9_up (Z9_up (Z9_up yq25 (by decide)) (by decide)) (by decide)) ((show aFr m_rGo362 st (zup (zup (zup s25 197 (s25 170 45 : Int).toNat (39)) 170 45 ((s25 170 45) + 1)) 193 ((st 170 42) - 1 : Int).toNat 1) from (fr_a (fr_f (fr_a (fr_tr (fr_rf _ _) fs25 rfl) rfl) rfl) rfl)) 170 35 rfl rfl) (Z9_fr fs29 (fun _ => rfl) rfl)) (by decide)), (show (1 : Int) = 1 ∧ mcP t n (zup s29 170 46 0) ((k, 1, bg, pr, 39 :: w) :: fs) 0 (o) (c ++ uu) (e) from (by
            have tkk := ht.1
            have hp : s29 170 4 = e := NXr_e (st := (zup (zup (zup s25 197 (s25 170 45 : Int).toNat (39)) 170 45 ((s25 170 45) + 1)) 193 ((st 170 42) - 1 : Int).toNat 1)) (show NXr (zup (zup (zup s25 197 (s25 170 45 : Int).toNat (39)) 170 45 ((s25 170 45) + 1)) 193 ((st 170 42) - 1 : Int).toNat 1) s29 t n from nx29) (show tk t n ((zup (zup (zup s25 197 (s25 170 45 : Int).toNat (39)) 170 45 ((s25 170 45) + 1)) 193 ((st 170 42) - 1 : Int).toNat 1) 170 4) _ _ e from by rw [show (zup (zup (zup s25 197 (s25 170 45 : Int).toNat (39)) 170 45 ((s25 170 45) + 1)) 193 ((st 170 42) - 1 : Int).toNat 1) 170 4 = p from (show s25 170 4 = p from by omega)]; exact tkk) (by omega)
            have hl := tk_lt tkk (show 0 ≤ p from by rw [← mpp]; exact mrd.2.1.1) (by omega)
            refine ⟨rfl, (show s29 170 8 = 0 from by omega), (show (0 : Int) = 0 from rfl), (show s29 170 43 = o from by omega), hp, (show RDr _ t n from rd29), ?_, (show s29 170 34 + s29 170 45 + s29 170 42 ≤ e from by omega), by omega, by omega, by first | omega | (simp only [List.length_cons]; omega) | (simp only [List.length_cons] at mz3 ⊢; omega)⟩
            exact (mcQ_of (fun i => fs29 192 i rfl rfl) (fun i => fs29 193 i rfl rfl) (fun i => fs29 194 i rfl rfl) (fun i => fs29 195 i rfl rfl) (fun i => fs29 196 i rfl rfl) (fun i => fs29 197 i rfl rfl) (fs29 170 42 rfl rfl) (fs29 170 45 rfl rfl) (fs29 170 35 rfl rfl) (fs29 170 34 rfl rfl) (fun i => fs29 188 i rfl rfl) (fun i => fs29 189 i rfl rfl) (show mcQ (zup (zup (zup s25 197 (s25 170 45 : Int).toNat (39)) 170 45 ((s25 170 45) + 1)) 193 ((st 170 42) - 1 : Int).toNat 1) ((k, 1, bg, pr, 39 :: w) :: fs) (c ++ uu) from ⟨(by have q := FR_ph 1 (by omega) (FR_hold 39 mbj.2.1 fr25); rw [show (s25 170 42 - 1 : Int).toNat = (st 170 42 - 1 : Int).toNat from by omega] at q; exact q), WB_c (by rw [List.length_cons]; omega) (fun x hx => by rcases List.mem_cons.mp hx with z | z; omega; exact WB_el mwj x z) (WB_tl mwj), cd25⟩))))⟩
theorem k_rGo362_m (hTb : aTb zSh rx_tb cl) {t : Int → Int} {n k ph bg pr o p e : Int} {w c : List Int} {fs : List mFr} {uu : List Int} {D : Nat} (hD : 3 ≤ D) : ∀ as st (Q Q' : zQ), (∀ r st', Q r st' → Q' r st') → (k_rGo362 t n k ph bg pr o p e w c fs uu) 197 as st Q → cl D 197 as st Q' := by
  intro as st Q Q' hQ h
  unfold k_rGo362 at h
  split at h
  · obtain ⟨rfl, h⟩ := h
    exact c_rGo362 hTb hD (ct_rGo362_m hQ h)
  · exact h.elim
set_option maxHeartbeats 4000000 in
set_option maxRecDepth 100000 in
theorem c_rGo441 (hTb : aTb zSh rx_tb cl) {t : Int → Int} {n k ph bg pr o p e : Int} {w c : List Int} {fs : List mFr} {uu : List Int} {x : Int} {D : Nat} (hD : 3 ≤ D) {st : zS} {Q : zQ} (h : ct_rGo441 t n k ph bg pr o p e w c fs uu x st Q) : cl D 197 [.inr (.inr (.inl 170))] st Q := by
  obtain ⟨d, rfl⟩ : ∃ d, D = d + 1 := ⟨D - 1, by omega⟩
  refine hTb d 197 (rx_m197, 5, 0, 0, 2) rfl _ _ _ (Nat.le_of_ble_eq_true rfl) (fun K hcl hsf hsl => ?_)
  have hcm : zmo (wcL [(181, k_rLex), (195, k_isTest), (183, k_isWord), (182, k_isSign), (149, k_rNext t n), (189, k_add), (192, k_holdsBack), (191, k_rJoins k ph bg pr uu w fs c)]) (cl d) := (wcL_m (wm_cons (k_rLex_m hTb (by omega)) (wm_cons (k_isTest_m hTb (by omega)) (wm_cons (k_isWord_m hTb (by omega)) (wm_cons (k_isSign_m hTb (by omega)) (wm_cons (k_rNext_m hTb (by omega)) (wm_cons (k_add_m hTb (by omega)) (wm_cons (k_holdsBack_m hTb (by omega)) (wm_cons (k_rJoins_m hTb (by omega)) wm_nil)))))))))
  obtain ⟨hR, hQ⟩ := h
  obtain ⟨hG, mp, ht⟩ := hR
  change mcP t n st ((k, ph, bg, pr, uu ++ w) :: fs) 1 (x) (c) (p) at mp
  change tk t n p 1 6385252 e ∧ isT k ∧ ¬ ph = 0 ∧ RG uu 2 ∧ TR w 2 ∧ w.length ≤ 14 ∧ x = o + nots uu ∧ 0 ≤ o at ht
  obtain ⟨mf, mo, mn, mpp, mrd, mq, mbd, mz1, mz2, mz3⟩ := mp
  simp only [List.length_cons] at mz3
  have mq0 := mq
  obtain ⟨mfr, mwb, mcd⟩ := mq
  have mt := FR_top mfr
  have mb := FR_bnd _ _ _ mwb mfr
  simp only [List.length_cons] at mb
  have ml := WB_hd mwb
  have mcl := mcd.1
  have mlw := FR_len mb.2.1 mfr
  have mnb := nots_b w
  have mnu := nots_b uu
  have tf := r_wrd mrd (by rw [mpp]; exact ht.1)
  have tkT : k = 1 ∨ k = 5 ∨ k = 6 := ht.2.1
  have g1 := g_codes hG
  have g2 := g_in hG
  have g3 := g_isClever hG
  have g4 := g_deep hG
  have g5 := g_open hG
  have g6 := g_opMany hG
  have g7 := g_signAt hG
  have g8 := g_signEnd hG
  have g9 := g_faultKind hG
  have g10 := g_size hG
  have g11 := g_sign hG
  have g12 := g_lexAt hG
  have g13 := g_value hG
  have g14 := g_word hG
  have g15 := g_operand hG
  refine yr1_ok (Rt := Q) (wc := (wcL [(181, k_rLex), (195, k_isTest), (183, k_isWord), (182, k_isSign), (149, k_rNext t n), (189, k_add), (192, k_holdsBack), (191, k_rJoins k ph bg pr uu w fs c)])) (stp := []) hcm hcl [] 500 ?_
  show (170 = 170 ∧ (rq_rLex  st ∧ (((st 170 8 ≤ (0 : Int) → ((-2147483648 ≤ (st 170 42) - 1 ∧ (st 170 42) - 1 ≤ 2147483647) ∧ ((0 ≤ (st 170 42) - 1 ∧ (st 170 42) - 1 < 20) ∧ (∀ (r17 : Int), en_isTest (st 192 ((st 170 42) - 1 : Int).toNat) st r17 → ((0 ≤ (st 170 42) - 1 ∧ (st 170 42) - 1 < 20) ∧ (((2 : Int) ≤ st 193 ((st 170 42) - 1 : Int).toNat → ((r17 = (0 : Int) → _) ∧ (¬ (r17 = (0 : Int)) → ((0 ≤ (st 170 42) - 1 ∧ (st 170 42) - 1 < 20) ∧ ((¬ st 193 ((st 170 42) - 1 : Int).toNat = (0 : Int) → ((r17 = (0 : Int) → _) ∧ (¬ (r17 = (0 : Int)) → (170 = 170 ∧ (∀ (r18 : Int), en_isWord (6385252) st r18 → ((¬ r18 = (0 : Int) → ((0 ≤ (st 170 42) - 1 ∧ (st 170 42) - 1 < 20) ∧ ((¬ st 193 ((st 170 42) - 1 : Int).toNat = (0 : Int) → ((st 170 8 ≤ (0 : Int) → (170 = 170 ∧ (∀ (r19 : Int), en_isWord (6385252) st r19 → ((r19 = (0 : Int) → _) ∧ (¬ (r19 = (0 : Int)) → (170 = 170 ∧ (rq_rJoins k ph bg pr uu w fs c (2) st ∧ (∀ (s20 : zS), en_rJoins k ph bg pr uu w fs c (2) st s20 → ((r19 = (0 : Int) → _) ∧ (¬ (r19 = (0 : Int)) → (170 = 170 ∧ (rq_holdsBack (41) s20 ∧ (((0 ≤ (st 170 42) - 1 ∧ (st 170 42) - 1 < 20) ∧ ((0 ≤ (st 170 42) - 1 ∧ (st 170 42) - 1 < 20) ∧ ((1 = (0 : Int) ∨ 1 = (1 : Int)) ∧ (170 = 170 ∧ (rq_rNext t n  (zup (zup (zup (zup s20 197 (s20 170 45 : Int).toNat (41)) 170 45 ((s20 170 45) + 1)) 193 ((st 170 42) - 1 : Int).toNat 0) 194 ((st 170 42) - 1 : Int).toNat 1) ∧ (∀ (s22 : zS), en_rNext t n  (zup (zup (zup (zup s20 197 (s20 170 45 : Int).toNat (41)) 170 45 ((s20 170 45) + 1)) 193 ((st 170 42) - 1 : Int).toNat 0) 194 ((st 170 42) - 1 : Int).toNat 1) s22 → ((0 = (0 : Int) ∨ 0 = (1 : Int)) ∧ ((1 = (0 : Int) ∨ 1 = (1 : Int)) ∧ Q (some (.inl 1)) (zup s22 170 46 0)))))))))))))))))))))) ∧ (¬ (st 170 8 ≤ (0 : Int)) → _))) ∧ (¬ (¬ st 193 ((st 170 42) - 1 : Int).toNat = (0 : Int)) → _)))) ∧ (¬ (¬ r18 = (0 : Int)) → _))))))) ∧ (¬ (¬ st 193 ((st 170 42) - 1 : Int).toNat = (0 : Int)) → _)))))) ∧ (¬ ((2 : Int) ≤ st 193 ((st 170 42) - 1 : Int).toNat) → (170 = 170 ∧ (∀ (r23 : Int), en_isSign (43) st r23 → ((¬ r23 = (0 : Int) → _) ∧ (¬ (¬ r23 = (0 : Int)) → (170 = 170 ∧ (∀ (r24 : Int), en_isSign (45) st r24 → ((¬ r24 = (0 : Int) → _) ∧ (¬ (¬ r24 = (0 : Int)) → (170 = 170 ∧ (∀ (r25 : Int), en_isSign (42) st r25 → ((¬ r25 = (0 : Int) → _) ∧ (¬ (¬ r25 = (0 : Int)) → (170 = 170 ∧ (∀ (r26 : Int), en_isSign (47) st r26 → ((¬ r26 = (0 : Int) → _) ∧ (¬ (¬ r26 = (0 : Int)) → (170 = 170 ∧ (∀ (r27 : Int), en_isSign (37) st r27 → ((r27 = (0 : Int) → ((r17 = (0 : Int) → _) ∧ (¬ (r17 = (0 : Int)) → ((0 ≤ (st 170 42) - 1 ∧ (st 170 42) - 1 < 20) ∧ ((¬ st 193 ((st 170 42) - 1 : Int).toNat = (0 : Int) → ((r17 = (0 : Int) → _) ∧ (¬ (r17 = (0 : Int)) → (170 = 170 ∧ (∀ (r28 : Int), en_isWord (6385252) st r28 → ((¬ r28 = (0 : Int) → ((0 ≤ (st 170 42) - 1 ∧ (st 170 42) - 1 < 20) ∧ ((¬ st 193 ((st 170 42) - 1 : Int).toNat = (0 : Int) → ((st 170 8 ≤ (0 : Int) → (170 = 170 ∧ (∀ (r29 : Int), en_isWord (6385252) st r29 → ((r29 = (0 : Int) → _) ∧ (¬ (r29 = (0 : Int)) → (170 = 170 ∧ (rq_rJoins k ph bg pr uu w fs c (2) st ∧ (∀ (s30 : zS), en_rJoins k ph bg pr uu w fs c (2) st s30 → ((r29 = (0 : Int) → _) ∧ (¬ (r29 = (0 : Int)) → (170 = 170 ∧ (rq_holdsBack (41) s30 ∧ (((0 ≤ (st 170 42) - 1 ∧ (st 170 42) - 1 < 20) ∧ ((0 ≤ (st 170 42) - 1 ∧ (st 170 42) - 1 < 20) ∧ ((1 = (0 : Int) ∨ 1 = (1 : Int)) ∧ (170 = 170 ∧ (rq_rNext t n  (zup (zup (zup (zup s30 197 (s30 170 45 : Int).toNat (41)) 170 45 ((s30 170 45) + 1)) 193 ((st 170 42) - 1 : Int).toNat 0) 194 ((st 170 42) - 1 : Int).toNat 1) ∧ (∀ (s32 : zS), en_rNext t n  (zup (zup (zup (zup s30 197 (s30 170 45 : Int).toNat (41)) 170 45 ((s30 170 45) + 1)) 193 ((st 170 42) - 1 : Int).toNat 0) 194 ((st 170 42) - 1 : Int).toNat 1) s32 → ((0 = (0 : Int) ∨ 0 = (1 : Int)) ∧ ((1 = (0 : Int) ∨ 1 = (1 : Int)) ∧ Q (some (.inl 1)) (zup s32 170 46 0)))))))))))))))))))))) ∧ (¬ (st 170 8 ≤ (0 : Int)) → _))) ∧ (¬ (¬ st 193 ((st 170 42) - 1 : Int).toNat = (0 : Int)) → _)))) ∧ (¬ (¬ r28 = (0 : Int)) → _))))))) ∧ (¬ (¬ st 193 ((st 170 42) - 1 : Int).toNat = (0 : Int)) → _)))))) ∧ (¬ (r27 = (0 : Int)) → _))))))))))))))))))))))))))) ∧ (¬ (st 170 8 ≤ (0 : Int)) → _)))))
  refine ⟨rfl, ⟨hG, (show st 170 12 = -1 from by omega)⟩, ?_⟩
  refine ⟨fun h33 => ?_, fun h33 => (by exfalso; omega)⟩
  refine ⟨by omega, ?_⟩
  have g34 := g_frame hG ((st 170 42) - 1 : Int).toNat
  refine ⟨by omega, ?_⟩
  refine fun r17 q17 => ?_
  have b17 := q17
  change (r17 = 0 ∨ r17 = 1) ∧ (r17 = 1 ↔ (st 192 ((st 170 42) - 1 : Int).toNat) = 1 ∨ (st 192 ((st 170 42) - 1 : Int).toNat) = 5 ∨ (st 192 ((st 170 42) - 1 : Int).toNat) = 6) at b17
  have g35 := g_phase hG ((st 170 42) - 1 : Int).toNat
  refine ⟨by omega, ?_⟩
  refine ⟨fun h36 => ?_, fun h36 => ?_⟩
  · refine ⟨fun h37 => (by exfalso; clear hQ; omega), fun h37 => ?_⟩
    have v17 := (show r17 = 1 from by omega)
    clear h37
    refine ⟨by omega, ?_⟩
    refine ⟨fun h38 => ?_, fun h38 => (by exfalso; omega)⟩
    refine ⟨fun h39 => (by exfalso; omega), fun h39 => ?_⟩
    clear h39
    refine ⟨rfl, fun r18 q18 => ?_⟩
    have b18 := q18
    change (r18 = 0 ∨ r18 = 1) ∧ (r18 = 1 ↔ st 170 3 = 1 ∧ st 170 7 = (6385252)) at b18
    refine ⟨fun h40 => ?_, fun h40 => (by exfalso; clear hQ; omega)⟩
    have v18 := (show r18 = 1 from by omega)
    clear h40 b18
    refine ⟨by omega, ?_⟩
    refine ⟨fun h41 => ?_, fun h41 => (by exfalso; omega)⟩
    refine ⟨fun h42 => ?_, fun h42 => (by exfalso; omega)⟩
    refine ⟨rfl, fun r19 q19 => ?_⟩
    have b19 := q19
    change (r19 = 0 ∨ r19 = 1) ∧ (r19 = 1 ↔ st 170 3 = 1 ∧ st 170 7 = (6385252)) at b19
    refine ⟨fun h43 => (by exfalso; clear hQ; omega), fun h43 => ?_⟩
    have v19 := (show r19 = 1 from by omega)
    clear h43 b19
    refine ⟨rfl, ⟨hG, (show FR (st 192) (st 193) (st 194) (st 195) (st 196) (st 197) ((k, ph, bg, pr, uu ++ w) :: fs) (st 170 42) (st 170 45) from mfr), (show WB ((k, ph, bg, pr, uu ++ w) :: fs) from mwb), (show RG uu (2) from ht.2.2.2.1), (show TR w (2) from ht.2.2.2.2.1), (show CDr (st 170 35) (st 170 34) (st 188) (st 189) (c) from mcd), (show st 170 34 + st 170 45 ≤ 1600 ∧ 0 ≤ st 170 43 ∧ st 170 43 ≤ 7 ∧ st 170 42 ≤ 9 from by omega)⟩, fun s20 q20 => ?_⟩
    obtain ⟨gs20, fs20, yq20, fr20, cd20, op20, cm20⟩ := q20
    change FR (s20 192) (s20 193) (s20 194) (s20 195) (s20 196) (s20 197) ((k, ph, bg, pr, w) :: fs) (s20 170 42) (s20 170 45) at fr20
    have e44 : s20 170 42 = st 170 42 := fs20 170 42 rfl rfl
    have g45 := g_opMany gs20
    change CDr (s20 170 35) (s20 170 34) (s20 188) (s20 189) (c ++ uu) at cd20
    have e46 : s20 170 35 = st 170 35 := fs20 170 35 rfl rfl
    have g47 := g_codes gs20
    change s20 170 43 = st 170 43 - nots uu at op20
    have g48 := g_open gs20
    change s20 170 34 + s20 170 45 = st 170 34 + st 170 45 at cm20
    have mwj : WB ((k, ph, bg, pr, w) :: fs) := WB_c (by have q := WB_hd mwb; rw [List.length_append] at q; omega) (fun x hx => WB_el mwb x (List.mem_append_right _ hx)) (WB_tl mwb)
    have mbj := FR_bnd _ _ _ mwj fr20
    simp only [List.length_cons] at mbj
    have mcj := cd20.1
    rw [List.length_append] at mcj
    have e49 : s20 170 3 = st 170 3 := fs20 170 3 rfl rfl
    have e50 : s20 170 6 = st 170 6 := fs20 170 6 rfl rfl
    have e51 : s20 170 7 = st 170 7 := fs20 170 7 rfl rfl
    have e52 : s20 170 12 = st 170 12 := fs20 170 12 rfl rfl
    have e53 : s20 170 8 = st 170 8 := fs20 170 8 rfl rfl
    have e54 : s20 170 4 = st 170 4 := fs20 170 4 rfl rfl
    have e55 : s20 170 5 = st 170 5 := fs20 170 5 rfl rfl
    refine ⟨fun h56 => (by exfalso; omega), fun h56 => ?_⟩
    clear h56
    refine ⟨rfl, ⟨gs20, (show 0 ≤ s20 170 45 ∧ s20 170 45 ≤ 499 from by omega)⟩, ?_⟩
    refine ⟨by omega, ?_⟩
    refine ⟨by omega, ?_⟩
    refine ⟨by omega, ?_⟩
    refine ⟨rfl, ⟨(gInv_up (gInv_up (gInv_up (gInv_up gs20 (p_ops (by omega))) (p_opMany (by omega))) (p_phase (by omega))) (p_begins (by omega))), (show RDr (zup (zup (zup (zup s20 197 (s20 170 45 : Int).toNat (41)) 170 45 ((s20 170 45) + 1)) 193 ((st 170 42) - 1 : Int).toNat 0) 194 ((st 170 42) - 1 : Int).toNat 1) t n from (show RDr (zup (zup (zup (zup s20 197 (s20 170 45 : Int).toNat (41)) 170 45 ((s20 170 45) + 1)) 193 ((st 170 42) - 1 : Int).toNat 0) 194 ((st 170 42) - 1 : Int).toNat 1) t n from (RDr_of (fs20 170 2 rfl rfl) (fun i => fs20 171 i rfl rfl) (fs20 170 3 rfl rfl) (fs20 170 4 rfl rfl) (fs20 170 5 rfl rfl) (fs20 170 6 rfl rfl) (fs20 170 7 rfl rfl) (fs20 170 12 rfl rfl) mrd))), (show s20 170 12 = -1 from by omega)⟩, fun s22 q22 => ?_⟩
    obtain ⟨gs22, fs22, rd22, nx22⟩ := q22
    change RDr s22 t n at rd22
    change NXr (zup (zup (zup (zup s20 197 (s20 170 45 : Int).toNat (41)) 170 45 ((s20 170 45) + 1)) 193 ((st 170 42) - 1 : Int).toNat 0) 194 ((st 170 42) - 1 : Int).toNat 1) s22 t n at nx22
    refine ⟨by omega, ?_⟩
    refine ⟨by omega, ?_⟩
    have e57 : s22 170 8 = s20 170 8 := fs22 170 8 rfl rfl
    have e58 : s22 170 43 = s20 170 43 := fs22 170 43 rfl rfl
    have e59 : s22 170 34 = s20 170 34 := fs22 170 34 rfl rfl
    have e60 : s22 170 45 = ((s20 170 45) + 1) := fs22 170 45 rfl rfl
    have e61 : s22 170 42 = s20 170 42 := fs22 170 42 rfl rfl
    have g62 := g_signAt gs22
    exact hQ _ _ ⟨(gInv_up gs22 (p_operand (by omega))), (fr_f (fr_tr (fr_a (fr_a (fr_f (fr_a (fr_tr (fr_rf _ _) fs20 rfl) rfl) rfl) rfl) rfl) fs22 rfl) rfl), (Z9_up (Z9_tr (Z9_up (Z9_up (Z9_up (Z9_up yq20 (by decide)) (by decide)) (by decide)) (by decide)) ((show aFr m_rGo441 st (zup (zup (zup (zup s20 197 (s20 170 45 : Int).toNat (41)) 170 45 ((s20 170 45) + 1)) 193 ((st 170 42) - 1 : Int).toNat 0) 194 ((st 170 42) - 1 : Int).toNat 1) from (fr_a (fr_a (fr_f (fr_a (fr_tr (fr_rf _ _) fs20 rfl) rfl) rfl) rfl) rfl)) 170 35 rfl rfl) (Z9_fr fs22 (fun _ => rfl) rfl)) (by decide)), (show (1 : Int) = 1 ∧ mcP t n (zup s22 170 46 0) ((k, 0, 1, pr, 41 :: w) :: fs) 0 (o) (c ++ uu) (e) from (by
            have tkk := ht.1
            have hp : s22 170 4 = e := NXr_e (st := (zup (zup (zup (zup s20 197 (s20 170 45 : Int).toNat (41)) 170 45 ((s20 170 45) + 1)) 193 ((st 170 42) - 1 : Int).toNat 0) 194 ((st 170 42) - 1 : Int).toNat 1)) (show NXr (zup (zup (zup (zup s20 197 (s20 170 45 : Int).toNat (41)) 170 45 ((s20 170 45) + 1)) 193 ((st 170 42) - 1 : Int).toNat 0) 194 ((st 170 42) - 1 : Int).toNat 1) s22 t n from nx22) (show tk t n ((zup (zup (zup (zup s20 197 (s20 170 45 : Int).toNat (41)) 170 45 ((s20 170 45) + 1)) 193 ((st 170 42) - 1 : Int).toNat 0) 194 ((st 170 42) - 1 : Int).toNat 1) 170 4) _ _ e from by rw [show (zup (zup (zup (zup s20 197 (s20 170 45 : Int).toNat (41)) 170 45 ((s20 170 45) + 1)) 193 ((st 170 42) - 1 : Int).toNat 0) 194 ((st 170 42) - 1 : Int).toNat 1) 170 4 = p from (show s20 170 4 = p from by omega)]; exact tkk) (by omega)
            have hl := tk_lt tkk (show 0 ≤ p from by rw [← mpp]; exact mrd.2.1.1) (by omega)
            refine ⟨rfl, (show s22 170 8 = 0 from by omega), (show (0 : Int) = 0 from rfl), (show s22 170 43 = o from by omega), hp, (show RDr _ t n from rd22), ?_, (show s22 170 34 + s22 170 45 + s22 170 42 ≤ e from by omega), by omega, by omega, by first | omega | (simp only [List.length_cons]; omega) | (simp only [List.length_cons] at mz3 ⊢; omega)⟩
            exact (mcQ_of (fun i => fs22 192 i rfl rfl) (fun i => fs22 193 i rfl rfl) (fun i => fs22 194 i rfl rfl) (fun i => fs22 195 i rfl rfl) (fun i => fs22 196 i rfl rfl) (fun i => fs22 197 i rfl rfl) (fs22 170 42 rfl rfl) (fs22 170 45 rfl rfl) (fs22 170 35 rfl rfl) (fs22 170 34 rfl rfl) (fun i => fs22 188 i rfl rfl) (fun i => fs22 189 i rfl rfl) (show mcQ (zup (zup (zup (zup s20 197 (s20 170 45 : Int).toNat (41)) 170 45 ((s20 170 45) + 1)) 193 ((st 170 42) - 1 : Int).toNat 0) 194 ((st 170 42) - 1 : Int).toNat 1) ((k, 0, 1, pr, 41 :: w) :: fs) (c ++ uu) from ⟨(by have q := FR_bg 1 (by omega) (FR_ph 0 (by omega) (FR_hold 41 mbj.2.1 fr20)); rw [show (s20 170 42 - 1 : Int).toNat = (st 170 42 - 1 : Int).toNat from by omega] at q; exact q), WB_c (by rw [List.length_cons]; omega) (fun x hx => by rcases List.mem_cons.mp hx with z | z; omega; exact WB_el mwj x z) (WB_tl mwj), cd20⟩))))⟩
  · refine ⟨rfl, fun r23 q23 => ?_⟩
    have b23 := q23
    change (r23 = 0 ∨ r23 = 1) ∧ (r23 = 1 ↔ st 170 3 = 3 ∧ st 170 6 = (43)) at b23
    refine ⟨fun h63 => (by exfalso; clear hQ; omega), fun h63 => ?_⟩
    have v23 := (show r23 = 0 from by omega)
    clear h63 b23
    refine ⟨rfl, fun r24 q24 => ?_⟩
    have b24 := q24
    change (r24 = 0 ∨ r24 = 1) ∧ (r24 = 1 ↔ st 170 3 = 3 ∧ st 170 6 = (45)) at b24
    refine ⟨fun h64 => (by exfalso; clear hQ; omega), fun h64 => ?_⟩
    have v24 := (show r24 = 0 from by omega)
    clear h64 b24
    refine ⟨rfl, fun r25 q25 => ?_⟩
    have b25 := q25
    change (r25 = 0 ∨ r25 = 1) ∧ (r25 = 1 ↔ st 170 3 = 3 ∧ st 170 6 = (42)) at b25
    refine ⟨fun h65 => (by exfalso; clear hQ; omega), fun h65 => ?_⟩
    have v25 := (show r25 = 0 from by omega)
    clear h65 b25
    refine ⟨rfl, fun r26 q26 => ?_⟩
    have b26 := q26
    change (r26 = 0 ∨ r26 = 1) ∧ (r26 = 1 ↔ st 170 3 = 3 ∧ st 170 6 = (47)) at b26
    refine ⟨fun h66 => (by exfalso; clear hQ; omega), fun h66 => ?_⟩
    have v26 := (show r26 = 0 from by omega)
    clear h66 b26
    refine ⟨rfl, fun r27 q27 => ?_⟩
    have b27 := q27
    change (r27 = 0 ∨ r27 = 1) ∧ (r27 = 1 ↔ st 170 3 = 3 ∧ st 170 6 = (37)) at b27
    refine ⟨fun h67 => ?_, fun h67 => (by exfalso; clear hQ; omega)⟩
    have v27 := (show r27 = 0 from by omega)
    clear h67 b27
    refine ⟨fun h68 => (by exfalso; clear hQ; omega), fun h68 => ?_⟩
    have v17 := (show r17 = 1 from by omega)
    clear h68
    refine ⟨by omega, ?_⟩
    refine ⟨fun h69 => ?_, fun h69 => (by exfalso; omega)⟩
    refine ⟨fun h70 => (by exfalso; omega), fun h70 => ?_⟩
    clear h70
    refine ⟨rfl, fun r28 q28 => ?_⟩
    have b28 := q28
    change (r28 = 0 ∨ r28 = 1) ∧ (r28 = 1 ↔ st 170 3 = 1 ∧ st 170 7 = (6385252)) at b28
    refine ⟨fun h71 => ?_, fun h71 => (by exfalso; clear hQ; omega)⟩
    have v28 := (show r28 = 1 from by omega)
    clear h71 b28
    refine ⟨by omega, ?_⟩
    refine ⟨fun h72 => ?_, fun h72 => (by exfalso; omega)⟩
    refine ⟨fun h73 => ?_, fun h73 => (by exfalso; omega)⟩
    refine ⟨rfl, fun r29 q29 => ?_⟩
    have b29 := q29
    change (r29 = 0 ∨ r29 = 1) ∧ (r29 = 1 ↔ st 170 3 = 1 ∧ st 170 7 = (6385252)) at b29
    refine ⟨fun h74 => (by exfalso; clear hQ; omega), fun h74 => ?_⟩
    have v29 := (show r29 = 1 from by omega)
    clear h74 b29
    refine ⟨rfl, ⟨hG, (show FR (st 192) (st 193) (st 194) (st 195) (st 196) (st 197) ((k, ph, bg, pr, uu ++ w) :: fs) (st 170 42) (st 170 45) from mfr), (show WB ((k, ph, bg, pr, uu ++ w) :: fs) from mwb), (show RG uu (2) from ht.2.2.2.1), (show TR w (2) from ht.2.2.2.2.1), (show CDr (st 170 35) (st 170 34) (st 188) (st 189) (c) from mcd), (show st 170 34 + st 170 45 ≤ 1600 ∧ 0 ≤ st 170 43 ∧ st 170 43 ≤ 7 ∧ st 170 42 ≤ 9 from by omega)⟩, fun s30 q30 => ?_⟩
    obtain ⟨gs30, fs30, yq30, fr30, cd30, op30, cm30⟩ := q30
    change FR (s30 192) (s30 193) (s30 194) (s30 195) (s30 196) (s30 197) ((k, ph, bg, pr, w) :: fs) (s30 170 42) (s30 170 45) at fr30
    have e75 : s30 170 42 = st 170 42 := fs30 170 42 rfl rfl
    have g76 := g_opMany gs30
    change CDr (s30 170 35) (s30 170 34) (s30 188) (s30 189) (c ++ uu) at cd30
    have e77 : s30 170 35 = st 170 35 := fs30 170 35 rfl rfl
    have g78 := g_codes gs30
    change s30 170 43 = st 170 43 - nots uu at op30
    have g79 := g_open gs30
    change s30 170 34 + s30 170 45 = st 170 34 + st 170 45 at cm30
    have mwj : WB ((k, ph, bg, pr, w) :: fs) := WB_c (by have q := WB_hd mwb; rw [List.length_append] at q; omega) (fun x hx => WB_el mwb x (List.mem_append_right _ hx)) (WB_tl mwb)
    have mbj := FR_bnd _ _ _ mwj fr30
    simp only [List.length_cons] at mbj
    have mcj := cd30.1
    rw [List.length_append] at mcj
    have e80 : s30 170 3 = st 170 3 := fs30 170 3 rfl rfl
    have e81 : s30 170 6 = st 170 6 := fs30 170 6 rfl rfl
    have e82 : s30 170 7 = st 170 7 := fs30 170 7 rfl rfl
    have e83 : s30 170 12 = st 170 12 := fs30 170 12 rfl rfl
    have e84 : s30 170 8 = st 170 8 := fs30 170 8 rfl rfl
    have e85 : s30 170 4 = st 170 4 := fs30 170 4 rfl rfl
    have e86 : s30 170 5 = st 170 5 := fs30 170 5 rfl rfl
    refine ⟨fun h87 => (by exfalso; omega), fun h87 => ?_⟩
    clear h87
    refine ⟨rfl, ⟨gs30, (show 0 ≤ s30 170 45 ∧ s30 170 45 ≤ 499 from by omega)⟩, ?_⟩
    refine ⟨by omega, ?_⟩
    refine ⟨by omega, ?_⟩
    refine ⟨by omega, ?_⟩
    refine ⟨rfl, ⟨(gInv_up (gInv_up (gInv_up (gInv_up gs30 (p_ops (by omega))) (p_opMany (by omega))) (p_phase (by omega))) (p_begins (by omega))), (show RDr (zup (zup (zup (zup s30 197 (s30 170 45 : Int).toNat (41)) 170 45 ((s30 170 45) + 1)) 193 ((st 170 42) - 1 : Int).toNat 0) 194 ((st 170 42) - 1 : Int).toNat 1) t n from (show RDr (zup (zup (zup (zup s30 197 (s30 170 45 : Int).toNat (41)) 170 45 ((s30 170 45) + 1)) 193 ((st 170 42) - 1 : Int).toNat 0) 194 ((st 170 42) - 1 : Int).toNat 1) t n from (RDr_of (fs30 170 2 rfl rfl) (fun i => fs30 171 i rfl rfl) (fs30 170 3 rfl rfl) (fs30 170 4 rfl rfl) (fs30 170 5 rfl rfl) (fs30 170 6 rfl rfl) (fs30 170 7 rfl rfl) (fs30 170 12 rfl rfl) mrd))), (show s30 170 12 = -1 from by omega)⟩, fun s32 q32 => ?_⟩
    obtain ⟨gs32, fs32, rd32, nx32⟩ := q32
    change RDr s32 t n at rd32
    change NXr (zup (zup (zup (zup s30 197 (s30 170 45 : Int).toNat (41)) 170 45 ((s30 170 45) + 1)) 193 ((st 170 42) - 1 : Int).toNat 0) 194 ((st 170 42) - 1 : Int).toNat 1) s32 t n at nx32
    refine ⟨by omega, ?_⟩
    refine ⟨by omega, ?_⟩
    have e88 : s32 170 8 = s30 170 8 := fs32 170 8 rfl rfl
    have e89 : s32 170 43 = s30 170 43 := fs32 170 43 rfl rfl
    have e90 : s32 170 34 = s30 170 34 := fs32 170 34 rfl rfl
    have e91 : s32 170 45 = ((s30 170 45) + 1) := fs32 170 45 rfl rfl
    have e92 : s32 170 42 = s30 170 42 := fs32 170 42 rfl rfl
    have g93 := g_signAt gs32
    exact hQ _ _ ⟨(gInv_up gs32 (p_operand (by omega))), (fr_f (fr_tr (fr_a (fr_a (fr_f (fr_a (fr_tr (fr_rf _ _) fs30 rfl) rfl) rfl) rfl) rfl) fs32 rfl) rfl), (Z9_up (Z9_tr (Z9_up (Z9_up (Z9_up (Z9_up yq30 (by decide)) (by decide)) (by decide)) (by decide)) ((show aFr m_rGo441 st (zup (zup (zup (zup s30 197 (s30 170 45 : Int).toNat (41)) 170 45 ((s30 170 45) + 1)) 193 ((st 170 42) - 1 : Int).toNat 0) 194 ((st 170 42) - 1 : Int).toNat 1) from (fr_a (fr_a (fr_f (fr_a (fr_tr (fr_rf _ _) fs30 rfl) rfl) rfl) rfl) rfl)) 170 35 rfl rfl) (Z9_fr fs32 (fun _ => rfl) rfl)) (by decide)), (show (1 : Int) = 1 ∧ mcP t n (zup s32 170 46 0) ((k, 0, 1, pr, 41 :: w) :: fs) 0 (o) (c ++ uu) (e) from (by
            have tkk := ht.1
            have hp : s32 170 4 = e := NXr_e (st := (zup (zup (zup (zup s30 197 (s30 170 45 : Int).toNat (41)) 170 45 ((s30 170 45) + 1)) 193 ((st 170 42) - 1 : Int).toNat 0) 194 ((st 170 42) - 1 : Int).toNat 1)) (show NXr (zup (zup (zup (zup s30 197 (s30 170 45 : Int).toNat (41)) 170 45 ((s30 170 45) + 1)) 193 ((st 170 42) - 1 : Int).toNat 0) 194 ((st 170 42) - 1 : Int).toNat 1) s32 t n from nx32) (show tk t n ((zup (zup (zup (zup s30 197 (s30 170 45 : Int).toNat (41)) 170 45 ((s30 170 45) + 1)) 193 ((st 170 42) - 1 : Int).toNat 0) 194 ((st 170 42) - 1 : Int).toNat 1) 170 4) _ _ e from by rw [show (zup (zup (zup (zup s30 197 (s30 170 45 : Int).toNat (41)) 170 45 ((s30 170 45) + 1)) 193 ((st 170 42) - 1 : Int).toNat 0) 194 ((st 170 42) - 1 : Int).toNat 1) 170 4 = p from (show s30 170 4 = p from by omega)]; exact tkk) (by omega)
            have hl := tk_lt tkk (show 0 ≤ p from by rw [← mpp]; exact mrd.2.1.1) (by omega)
            refine ⟨rfl, (show s32 170 8 = 0 from by omega), (show (0 : Int) = 0 from rfl), (show s32 170 43 = o from by omega), hp, (show RDr _ t n from rd32), ?_, (show s32 170 34 + s32 170 45 + s32 170 42 ≤ e from by omega), by omega, by omega, by first | omega | (simp only [List.length_cons]; omega) | (simp only [List.length_cons] at mz3 ⊢; omega)⟩
            exact (mcQ_of (fun i => fs32 192 i rfl rfl) (fun i => fs32 193 i rfl rfl) (fun i => fs32 194 i rfl rfl) (fun i => fs32 195 i rfl rfl) (fun i => fs32 196 i rfl rfl) (fun i => fs32 197 i rfl rfl) (fs32 170 42 rfl rfl) (fs32 170 45 rfl rfl) (fs32 170 35 rfl rfl) (fs32 170 34 rfl rfl) (fun i => fs32 188 i rfl rfl) (fun i => fs32 189 i rfl rfl) (show mcQ (zup (zup (zup (zup s30 197 (s30 170 45 : Int).toNat (41)) 170 45 ((s30 170 45) + 1)) 193 ((st 170 42) - 1 : Int).toNat 0) 194 ((st 170 42) - 1 : Int).toNat 1) ((k, 0, 1, pr, 41 :: w) :: fs) (c ++ uu) from ⟨(by have q := FR_bg 1 (by omega) (FR_ph 0 (by omega) (FR_hold 41 mbj.2.1 fr30)); rw [show (s30 170 42 - 1 : Int).toNat = (st 170 42 - 1 : Int).toNat from by omega] at q; exact q), WB_c (by rw [List.length_cons]; omega) (fun x hx => by rcases List.mem_cons.mp hx with z | z; omega; exact WB_el mwj x z) (WB_tl mwj), cd30⟩))))⟩
theorem k_rGo441_m (hTb : aTb zSh rx_tb cl) {t : Int → Int} {n k ph bg pr o p e : Int} {w c : List Int} {fs : List mFr} {uu : List Int} {x : Int} {D : Nat} (hD : 3 ≤ D) : ∀ as st (Q Q' : zQ), (∀ r st', Q r st' → Q' r st') → (k_rGo441 t n k ph bg pr o p e w c fs uu x) 197 as st Q → cl D 197 as st Q' := by
  intro as st Q Q' hQ h
  unfold k_rGo441 at h
  split at h
  · obtain ⟨rfl, h⟩ := h
    exact c_rGo441 hTb hD (ct_rGo441_m hQ h)
  · exact h.elim
set_option maxHeartbeats 4000000 in
set_option maxRecDepth 100000 in
theorem c_rGo442 (hTb : aTb zSh rx_tb cl) {t : Int → Int} {n k ph bg pr o p e : Int} {w c : List Int} {fs : List mFr} {uu : List Int} {x : Int} {D : Nat} (hD : 3 ≤ D) {st : zS} {Q : zQ} (h : ct_rGo442 t n k ph bg pr o p e w c fs uu x st Q) : cl D 197 [.inr (.inr (.inl 170))] st Q := by
  obtain ⟨d, rfl⟩ : ∃ d, D = d + 1 := ⟨D - 1, by omega⟩
  refine hTb d 197 (rx_m197, 5, 0, 0, 2) rfl _ _ _ (Nat.le_of_ble_eq_true rfl) (fun K hcl hsf hsl => ?_)
  have hcm : zmo (wcL [(181, k_rLex), (195, k_isTest), (183, k_isWord), (182, k_isSign), (149, k_rNext t n), (189, k_add), (192, k_holdsBack), (191, k_rJoins k ph bg pr uu w fs c)]) (cl d) := (wcL_m (wm_cons (k_rLex_m hTb (by omega)) (wm_cons (k_isTest_m hTb (by omega)) (wm_cons (k_isWord_m hTb (by omega)) (wm_cons (k_isSign_m hTb (by omega)) (wm_cons (k_rNext_m hTb (by omega)) (wm_cons (k_add_m hTb (by omega)) (wm_cons (k_holdsBack_m hTb (by omega)) (wm_cons (k_rJoins_m hTb (by omega)) wm_nil)))))))))
  obtain ⟨hR, hQ⟩ := h
  obtain ⟨hG, mp, ht⟩ := hR
  change mcP t n st ((k, ph, bg, pr, uu ++ w) :: fs) 1 (x) (c) (p) at mp
  change tk t n p 1 28530 e ∧ isT k ∧ ¬ ph = 0 ∧ RG uu 1 ∧ TR w 1 ∧ w.length ≤ 14 ∧ x = o + nots uu ∧ 0 ≤ o at ht
  obtain ⟨mf, mo, mn, mpp, mrd, mq, mbd, mz1, mz2, mz3⟩ := mp
  simp only [List.length_cons] at mz3
  have mq0 := mq
  obtain ⟨mfr, mwb, mcd⟩ := mq
  have mt := FR_top mfr
  have mb := FR_bnd _ _ _ mwb mfr
  simp only [List.length_cons] at mb
  have ml := WB_hd mwb
  have mcl := mcd.1
  have mlw := FR_len mb.2.1 mfr
  have mnb := nots_b w
  have mnu := nots_b uu
  have tf := r_wrd mrd (by rw [mpp]; exact ht.1)
  have tkT : k = 1 ∨ k = 5 ∨ k = 6 := ht.2.1
  have g1 := g_codes hG
  have g2 := g_in hG
  have g3 := g_isClever hG
  have g4 := g_deep hG
  have g5 := g_open hG
  have g6 := g_opMany hG
  have g7 := g_signAt hG
  have g8 := g_signEnd hG
  have g9 := g_faultKind hG
  have g10 := g_size hG
  have g11 := g_sign hG
  have g12 := g_lexAt hG
  have g13 := g_value hG
  have g14 := g_word hG
  have g15 := g_operand hG
  refine yr1_ok (Rt := Q) (wc := (wcL [(181, k_rLex), (195, k_isTest), (183, k_isWord), (182, k_isSign), (149, k_rNext t n), (189, k_add), (192, k_holdsBack), (191, k_rJoins k ph bg pr uu w fs c)])) (stp := []) hcm hcl [] 500 ?_
  show (170 = 170 ∧ (rq_rLex  st ∧ (((st 170 8 ≤ (0 : Int) → ((-2147483648 ≤ (st 170 42) - 1 ∧ (st 170 42) - 1 ≤ 2147483647) ∧ ((0 ≤ (st 170 42) - 1 ∧ (st 170 42) - 1 < 20) ∧ (∀ (r17 : Int), en_isTest (st 192 ((st 170 42) - 1 : Int).toNat) st r17 → ((0 ≤ (st 170 42) - 1 ∧ (st 170 42) - 1 < 20) ∧ (((2 : Int) ≤ st 193 ((st 170 42) - 1 : Int).toNat → ((r17 = (0 : Int) → _) ∧ (¬ (r17 = (0 : Int)) → ((0 ≤ (st 170 42) - 1 ∧ (st 170 42) - 1 < 20) ∧ ((¬ st 193 ((st 170 42) - 1 : Int).toNat = (0 : Int) → ((r17 = (0 : Int) → _) ∧ (¬ (r17 = (0 : Int)) → (170 = 170 ∧ (∀ (r18 : Int), en_isWord (6385252) st r18 → ((¬ r18 = (0 : Int) → _) ∧ (¬ (¬ r18 = (0 : Int)) → (170 = 170 ∧ (∀ (r19 : Int), en_isWord (28530) st r19 → ((r19 = (0 : Int) → _) ∧ (¬ (r19 = (0 : Int)) → ((0 ≤ (st 170 42) - 1 ∧ (st 170 42) - 1 < 20) ∧ ((¬ st 193 ((st 170 42) - 1 : Int).toNat = (0 : Int) → ((st 170 8 ≤ (0 : Int) → (170 = 170 ∧ (∀ (r20 : Int), en_isWord (6385252) st r20 → ((r20 = (0 : Int) → (170 = 170 ∧ (rq_rJoins k ph bg pr uu w fs c (1) st ∧ (∀ (s21 : zS), en_rJoins k ph bg pr uu w fs c (1) st s21 → ((r20 = (0 : Int) → (170 = 170 ∧ (rq_holdsBack (42) s21 ∧ (((0 ≤ (st 170 42) - 1 ∧ (st 170 42) - 1 < 20) ∧ ((0 ≤ (st 170 42) - 1 ∧ (st 170 42) - 1 < 20) ∧ ((1 = (0 : Int) ∨ 1 = (1 : Int)) ∧ (170 = 170 ∧ (rq_rNext t n  (zup (zup (zup (zup s21 197 (s21 170 45 : Int).toNat (42)) 170 45 ((s21 170 45) + 1)) 193 ((st 170 42) - 1 : Int).toNat 0) 194 ((st 170 42) - 1 : Int).toNat 1) ∧ (∀ (s23 : zS), en_rNext t n  (zup (zup (zup (zup s21 197 (s21 170 45 : Int).toNat (42)) 170 45 ((s21 170 45) + 1)) 193 ((st 170 42) - 1 : Int).toNat 0) 194 ((st 170 42) - 1 : Int).toNat 1) s23 → ((0 = (0 : Int) ∨ 0 = (1 : Int)) ∧ ((1 = (0 : Int) ∨ 1 = (1 : Int)) ∧ Q (some (.inl 1)) (zup s23 170 46 0))))))))))))) ∧ (¬ (r20 = (0 : Int)) → _)))))) ∧ (¬ (r20 = (0 : Int)) → _))))) ∧ (¬ (st 170 8 ≤ (0 : Int)) → _))) ∧ (¬ (¬ st 193 ((st 170 42) - 1 : Int).toNat = (0 : Int)) → _)))))))))))))) ∧ (¬ (¬ st 193 ((st 170 42) - 1 : Int).toNat = (0 : Int)) → _)))))) ∧ (¬ ((2 : Int) ≤ st 193 ((st 170 42) - 1 : Int).toNat) → (170 = 170 ∧ (∀ (r24 : Int), en_isSign (43) st r24 → ((¬ r24 = (0 : Int) → _) ∧ (¬ (¬ r24 = (0 : Int)) → (170 = 170 ∧ (∀ (r25 : Int), en_isSign (45) st r25 → ((¬ r25 = (0 : Int) → _) ∧ (¬ (¬ r25 = (0 : Int)) → (170 = 170 ∧ (∀ (r26 : Int), en_isSign (42) st r26 → ((¬ r26 = (0 : Int) → _) ∧ (¬ (¬ r26 = (0 : Int)) → (170 = 170 ∧ (∀ (r27 : Int), en_isSign (47) st r27 → ((¬ r27 = (0 : Int) → _) ∧ (¬ (¬ r27 = (0 : Int)) → (170 = 170 ∧ (∀ (r28 : Int), en_isSign (37) st r28 → ((r28 = (0 : Int) → ((r17 = (0 : Int) → _) ∧ (¬ (r17 = (0 : Int)) → ((0 ≤ (st 170 42) - 1 ∧ (st 170 42) - 1 < 20) ∧ ((¬ st 193 ((st 170 42) - 1 : Int).toNat = (0 : Int) → ((r17 = (0 : Int) → _) ∧ (¬ (r17 = (0 : Int)) → (170 = 170 ∧ (∀ (r29 : Int), en_isWord (6385252) st r29 → ((¬ r29 = (0 : Int) → _) ∧ (¬ (¬ r29 = (0 : Int)) → (170 = 170 ∧ (∀ (r30 : Int), en_isWord (28530) st r30 → ((r30 = (0 : Int) → _) ∧ (¬ (r30 = (0 : Int)) → ((0 ≤ (st 170 42) - 1 ∧ (st 170 42) - 1 < 20) ∧ ((¬ st 193 ((st 170 42) - 1 : Int).toNat = (0 : Int) → ((st 170 8 ≤ (0 : Int) → (170 = 170 ∧ (∀ (r31 : Int), en_isWord (6385252) st r31 → ((r31 = (0 : Int) → (170 = 170 ∧ (rq_rJoins k ph bg pr uu w fs c (1) st ∧ (∀ (s32 : zS), en_rJoins k ph bg pr uu w fs c (1) st s32 → ((r31 = (0 : Int) → (170 = 170 ∧ (rq_holdsBack (42) s32 ∧ (((0 ≤ (st 170 42) - 1 ∧ (st 170 42) - 1 < 20) ∧ ((0 ≤ (st 170 42) - 1 ∧ (st 170 42) - 1 < 20) ∧ ((1 = (0 : Int) ∨ 1 = (1 : Int)) ∧ (170 = 170 ∧ (rq_rNext t n  (zup (zup (zup (zup s32 197 (s32 170 45 : Int).toNat (42)) 170 45 ((s32 170 45) + 1)) 193 ((st 170 42) - 1 : Int).toNat 0) 194 ((st 170 42) - 1 : Int).toNat 1) ∧ (∀ (s34 : zS), en_rNext t n  (zup (zup (zup (zup s32 197 (s32 170 45 : Int).toNat (42)) 170 45 ((s32 170 45) + 1)) 193 ((st 170 42) - 1 : Int).toNat 0) 194 ((st 170 42) - 1 : Int).toNat 1) s34 → ((0 = (0 : Int) ∨ 0 = (1 : Int)) ∧ ((1 = (0 : Int) ∨ 1 = (1 : Int)) ∧ Q (some (.inl 1)) (zup s34 170 46 0))))))))))))) ∧ (¬ (r31 = (0 : Int)) → _)))))) ∧ (¬ (r31 = (0 : Int)) → _))))) ∧ (¬ (st 170 8 ≤ (0 : Int)) → _))) ∧ (¬ (¬ st 193 ((st 170 42) - 1 : Int).toNat = (0 : Int)) → _)))))))))))))) ∧ (¬ (¬ st 193 ((st 170 42) - 1 : Int).toNat = (0 : Int)) → _)))))) ∧ (¬ (r28 = (0 : Int)) → _))))))))))))))))))))))))))) ∧ (¬ (st 170 8 ≤ (0 : Int)) → _)))))
  refine ⟨rfl, ⟨hG, (show st 170 12 = -1 from by omega)⟩, ?_⟩
  refine ⟨fun h35 => ?_, fun h35 => (by exfalso; omega)⟩
  refine ⟨by omega, ?_⟩
  have g36 := g_frame hG ((st 170 42) - 1 : Int).toNat
  refine ⟨by omega, ?_⟩
  refine fun r17 q17 => ?_
  have b17 := q17
  change (r17 = 0 ∨ r17 = 1) ∧ (r17 = 1 ↔ (st 192 ((st 170 42) - 1 : Int).toNat) = 1 ∨ (st 192 ((st 170 42) - 1 : Int).toNat) = 5 ∨ (st 192 ((st 170 42) - 1 : Int).toNat) = 6) at b17
  have g37 := g_phase hG ((st 170 42) - 1 : Int).toNat
  refine ⟨by omega, ?_⟩
  refine ⟨fun h38 => ?_, fun h38 => ?_⟩
  · refine ⟨fun h39 => (by exfalso; clear hQ; omega), fun h39 => ?_⟩
    have v17 := (show r17 = 1 from by omega)
    clear h39
    refine ⟨by omega, ?_⟩
    refine ⟨fun h40 => ?_, fun h40 => (by exfalso; omega)⟩
    refine ⟨fun h41 => (by exfalso; omega), fun h41 => ?_⟩
    clear h41
    refine ⟨rfl, fun r18 q18 => ?_⟩
    have b18 := q18
    change (r18 = 0 ∨ r18 = 1) ∧ (r18 = 1 ↔ st 170 3 = 1 ∧ st 170 7 = (6385252)) at b18
    refine ⟨fun h42 => (by exfalso; clear hQ; omega), fun h42 => ?_⟩
    have v18 := (show r18 = 0 from by omega)
    clear h42 b18
    refine ⟨rfl, fun r19 q19 => ?_⟩
    have b19 := q19
    change (r19 = 0 ∨ r19 = 1) ∧ (r19 = 1 ↔ st 170 3 = 1 ∧ st 170 7 = (28530)) at b19
    refine ⟨fun h43 => (by exfalso; clear hQ; omega), fun h43 => ?_⟩
    have v19 := (show r19 = 1 from by omega)
    clear h43 b19
    refine ⟨by omega, ?_⟩
    refine ⟨fun h44 => ?_, fun h44 => (by exfalso; omega)⟩
    refine ⟨fun h45 => ?_, fun h45 => (by exfalso; omega)⟩
    refine ⟨rfl, fun r20 q20 => ?_⟩
    have b20 := q20
    change (r20 = 0 ∨ r20 = 1) ∧ (r20 = 1 ↔ st 170 3 = 1 ∧ st 170 7 = (6385252)) at b20
    refine ⟨fun h46 => ?_, fun h46 => (by exfalso; clear hQ; omega)⟩
    have v20 := (show r20 = 0 from by omega)
    clear h46 b20
    refine ⟨rfl, ⟨hG, (show FR (st 192) (st 193) (st 194) (st 195) (st 196) (st 197) ((k, ph, bg, pr, uu ++ w) :: fs) (st 170 42) (st 170 45) from mfr), (show WB ((k, ph, bg, pr, uu ++ w) :: fs) from mwb), (show RG uu (1) from ht.2.2.2.1), (show TR w (1) from ht.2.2.2.2.1), (show CDr (st 170 35) (st 170 34) (st 188) (st 189) (c) from mcd), (show st 170 34 + st 170 45 ≤ 1600 ∧ 0 ≤ st 170 43 ∧ st 170 43 ≤ 7 ∧ st 170 42 ≤ 9 from by omega)⟩, fun s21 q21 => ?_⟩
    obtain ⟨gs21, fs21, yq21, fr21, cd21, op21, cm21⟩ := q21
    change FR (s21 192) (s21 193) (s21 194) (s21 195) (s21 196) (s21 197) ((k, ph, bg, pr, w) :: fs) (s21 170 42) (s21 170 45) at fr21
    have e47 : s21 170 42 = st 170 42 := fs21 170 42 rfl rfl
    have g48 := g_opMany gs21
    change CDr (s21 170 35) (s21 170 34) (s21 188) (s21 189) (c ++ uu) at cd21
    have e49 : s21 170 35 = st 170 35 := fs21 170 35 rfl rfl
    have g50 := g_codes gs21
    change s21 170 43 = st 170 43 - nots uu at op21
    have g51 := g_open gs21
    change s21 170 34 + s21 170 45 = st 170 34 + st 170 45 at cm21
    have mwj : WB ((k, ph, bg, pr, w) :: fs) := WB_c (by have q := WB_hd mwb; rw [List.length_append] at q; omega) (fun x hx => WB_el mwb x (List.mem_append_right _ hx)) (WB_tl mwb)
    have mbj := FR_bnd _ _ _ mwj fr21
    simp only [List.length_cons] at mbj
    have mcj := cd21.1
    rw [List.length_append] at mcj
    have e52 : s21 170 3 = st 170 3 := fs21 170 3 rfl rfl
    have e53 : s21 170 6 = st 170 6 := fs21 170 6 rfl rfl
    have e54 : s21 170 7 = st 170 7 := fs21 170 7 rfl rfl
    have e55 : s21 170 12 = st 170 12 := fs21 170 12 rfl rfl
    have e56 : s21 170 8 = st 170 8 := fs21 170 8 rfl rfl
    have e57 : s21 170 4 = st 170 4 := fs21 170 4 rfl rfl
    have e58 : s21 170 5 = st 170 5 := fs21 170 5 rfl rfl
    refine ⟨fun h59 => ?_, fun h59 => (by exfalso; omega)⟩
    clear h59
    refine ⟨rfl, ⟨gs21, (show 0 ≤ s21 170 45 ∧ s21 170 45 ≤ 499 from by omega)⟩, ?_⟩
    refine ⟨by omega, ?_⟩
    refine ⟨by omega, ?_⟩
    refine ⟨by omega, ?_⟩
    refine ⟨rfl, ⟨(gInv_up (gInv_up (gInv_up (gInv_up gs21 (p_ops (by omega))) (p_opMany (by omega))) (p_phase (by omega))) (p_begins (by omega))), (show RDr (zup (zup (zup (zup s21 197 (s21 170 45 : Int).toNat (42)) 170 45 ((s21 170 45) + 1)) 193 ((st 170 42) - 1 : Int).toNat 0) 194 ((st 170 42) - 1 : Int).toNat 1) t n from (show RDr (zup (zup (zup (zup s21 197 (s21 170 45 : Int).toNat (42)) 170 45 ((s21 170 45) + 1)) 193 ((st 170 42) - 1 : Int).toNat 0) 194 ((st 170 42) - 1 : Int).toNat 1) t n from (RDr_of (fs21 170 2 rfl rfl) (fun i => fs21 171 i rfl rfl) (fs21 170 3 rfl rfl) (fs21 170 4 rfl rfl) (fs21 170 5 rfl rfl) (fs21 170 6 rfl rfl) (fs21 170 7 rfl rfl) (fs21 170 12 rfl rfl) mrd))), (show s21 170 12 = -1 from by omega)⟩, fun s23 q23 => ?_⟩
    obtain ⟨gs23, fs23, rd23, nx23⟩ := q23
    change RDr s23 t n at rd23
    change NXr (zup (zup (zup (zup s21 197 (s21 170 45 : Int).toNat (42)) 170 45 ((s21 170 45) + 1)) 193 ((st 170 42) - 1 : Int).toNat 0) 194 ((st 170 42) - 1 : Int).toNat 1) s23 t n at nx23
    refine ⟨by omega, ?_⟩
    refine ⟨by omega, ?_⟩
    have e60 : s23 170 8 = s21 170 8 := fs23 170 8 rfl rfl
    have e61 : s23 170 43 = s21 170 43 := fs23 170 43 rfl rfl
    have e62 : s23 170 34 = s21 170 34 := fs23 170 34 rfl rfl
    have e63 : s23 170 45 = ((s21 170 45) + 1) := fs23 170 45 rfl rfl
    have e64 : s23 170 42 = s21 170 42 := fs23 170 42 rfl rfl
    have g65 := g_signAt gs23
    exact hQ _ _ ⟨(gInv_up gs23 (p_operand (by omega))), (fr_f (fr_tr (fr_a (fr_a (fr_f (fr_a (fr_tr (fr_rf _ _) fs21 rfl) rfl) rfl) rfl) rfl) fs23 rfl) rfl), (Z9_up (Z9_tr (Z9_up (Z9_up (Z9_up (Z9_up yq21 (by decide)) (by decide)) (by decide)) (by decide)) ((show aFr m_rGo442 st (zup (zup (zup (zup s21 197 (s21 170 45 : Int).toNat (42)) 170 45 ((s21 170 45) + 1)) 193 ((st 170 42) - 1 : Int).toNat 0) 194 ((st 170 42) - 1 : Int).toNat 1) from (fr_a (fr_a (fr_f (fr_a (fr_tr (fr_rf _ _) fs21 rfl) rfl) rfl) rfl) rfl)) 170 35 rfl rfl) (Z9_fr fs23 (fun _ => rfl) rfl)) (by decide)), (show (1 : Int) = 1 ∧ mcP t n (zup s23 170 46 0) ((k, 0, 1, pr, 42 :: w) :: fs) 0 (o) (c ++ uu) (e) from (by
            have tkk := ht.1
            have hp : s23 170 4 = e := NXr_e (st := (zup (zup (zup (zup s21 197 (s21 170 45 : Int).toNat (42)) 170 45 ((s21 170 45) + 1)) 193 ((st 170 42) - 1 : Int).toNat 0) 194 ((st 170 42) - 1 : Int).toNat 1)) (show NXr (zup (zup (zup (zup s21 197 (s21 170 45 : Int).toNat (42)) 170 45 ((s21 170 45) + 1)) 193 ((st 170 42) - 1 : Int).toNat 0) 194 ((st 170 42) - 1 : Int).toNat 1) s23 t n from nx23) (show tk t n ((zup (zup (zup (zup s21 197 (s21 170 45 : Int).toNat (42)) 170 45 ((s21 170 45) + 1)) 193 ((st 170 42) - 1 : Int).toNat 0) 194 ((st 170 42) - 1 : Int).toNat 1) 170 4) _ _ e from by rw [show (zup (zup (zup (zup s21 197 (s21 170 45 : Int).toNat (42)) 170 45 ((s21 170 45) + 1)) 193 ((st 170 42) - 1 : Int).toNat 0) 194 ((st 170 42) - 1 : Int).toNat 1) 170 4 = p from (show s21 170 4 = p from by omega)]; exact tkk) (by omega)
            have hl := tk_lt tkk (show 0 ≤ p from by rw [← mpp]; exact mrd.2.1.1) (by omega)
            refine ⟨rfl, (show s23 170 8 = 0 from by omega), (show (0 : Int) = 0 from rfl), (show s23 170 43 = o from by omega), hp, (show RDr _ t n from rd23), ?_, (show s23 170 34 + s23 170 45 + s23 170 42 ≤ e from by omega), by omega, by omega, by first | omega | (simp only [List.length_cons]; omega) | (simp only [List.length_cons] at mz3 ⊢; omega)⟩
            exact (mcQ_of (fun i => fs23 192 i rfl rfl) (fun i => fs23 193 i rfl rfl) (fun i => fs23 194 i rfl rfl) (fun i => fs23 195 i rfl rfl) (fun i => fs23 196 i rfl rfl) (fun i => fs23 197 i rfl rfl) (fs23 170 42 rfl rfl) (fs23 170 45 rfl rfl) (fs23 170 35 rfl rfl) (fs23 170 34 rfl rfl) (fun i => fs23 188 i rfl rfl) (fun i => fs23 189 i rfl rfl) (show mcQ (zup (zup (zup (zup s21 197 (s21 170 45 : Int).toNat (42)) 170 45 ((s21 170 45) + 1)) 193 ((st 170 42) - 1 : Int).toNat 0) 194 ((st 170 42) - 1 : Int).toNat 1) ((k, 0, 1, pr, 42 :: w) :: fs) (c ++ uu) from ⟨(by have q := FR_bg 1 (by omega) (FR_ph 0 (by omega) (FR_hold 42 mbj.2.1 fr21)); rw [show (s21 170 42 - 1 : Int).toNat = (st 170 42 - 1 : Int).toNat from by omega] at q; exact q), WB_c (by rw [List.length_cons]; omega) (fun x hx => by rcases List.mem_cons.mp hx with z | z; omega; exact WB_el mwj x z) (WB_tl mwj), cd21⟩))))⟩
  · refine ⟨rfl, fun r24 q24 => ?_⟩
    have b24 := q24
    change (r24 = 0 ∨ r24 = 1) ∧ (r24 = 1 ↔ st 170 3 = 3 ∧ st 170 6 = (43)) at b24
    refine ⟨fun h66 => (by exfalso; clear hQ; omega), fun h66 => ?_⟩
    have v24 := (show r24 = 0 from by omega)
    clear h66 b24
    refine ⟨rfl, fun r25 q25 => ?_⟩
    have b25 := q25
    change (r25 = 0 ∨ r25 = 1) ∧ (r25 = 1 ↔ st 170 3 = 3 ∧ st 170 6 = (45)) at b25
    refine ⟨fun h67 => (by exfalso; clear hQ; omega), fun h67 => ?_⟩
    have v25 := (show r25 = 0 from by omega)
    clear h67 b25
    refine ⟨rfl, fun r26 q26 => ?_⟩
    have b26 := q26
    change (r26 = 0 ∨ r26 = 1) ∧ (r26 = 1 ↔ st 170 3 = 3 ∧ st 170 6 = (42)) at b26
    refine ⟨fun h68 => (by exfalso; clear hQ; omega), fun h68 => ?_⟩
    have v26 := (show r26 = 0 from by omega)
    clear h68 b26
    refine ⟨rfl, fun r27 q27 => ?_⟩
    have b27 := q27
    change (r27 = 0 ∨ r27 = 1) ∧ (r27 = 1 ↔ st 170 3 = 3 ∧ st 170 6 = (47)) at b27
    refine ⟨fun h69 => (by exfalso; clear hQ; omega), fun h69 => ?_⟩
    have v27 := (show r27 = 0 from by omega)
    clear h69 b27
    refine ⟨rfl, fun r28 q28 => ?_⟩
    have b28 := q28
    change (r28 = 0 ∨ r28 = 1) ∧ (r28 = 1 ↔ st 170 3 = 3 ∧ st 170 6 = (37)) at b28
    refine ⟨fun h70 => ?_, fun h70 => (by exfalso; clear hQ; omega)⟩
    have v28 := (show r28 = 0 from by omega)
    clear h70 b28
    refine ⟨fun h71 => (by exfalso; clear hQ; omega), fun h71 => ?_⟩
    have v17 := (show r17 = 1 from by omega)
    clear h71
    refine ⟨by omega, ?_⟩
    refine ⟨fun h72 => ?_, fun h72 => (by exfalso; omega)⟩
    refine ⟨fun h73 => (by exfalso; omega), fun h73 => ?_⟩
    clear h73
    refine ⟨rfl, fun r29 q29 => ?_⟩
    have b29 := q29
    change (r29 = 0 ∨ r29 = 1) ∧ (r29 = 1 ↔ st 170 3 = 1 ∧ st 170 7 = (6385252)) at b29
    refine ⟨fun h74 => (by exfalso; clear hQ; omega), fun h74 => ?_⟩
    have v29 := (show r29 = 0 from by omega)
    clear h74 b29
    refine ⟨rfl, fun r30 q30 => ?_⟩
    have b30 := q30
    change (r30 = 0 ∨ r30 = 1) ∧ (r30 = 1 ↔ st 170 3 = 1 ∧ st 170 7 = (28530)) at b30
    refine ⟨fun h75 => (by exfalso; clear hQ; omega), fun h75 => ?_⟩
    have v30 := (show r30 = 1 from by omega)
    clear h75 b30
    refine ⟨by omega, ?_⟩
    refine ⟨fun h76 => ?_, fun h76 => (by exfalso; omega)⟩
    refine ⟨fun h77 => ?_, fun h77 => (by exfalso; omega)⟩
    refine ⟨rfl, fun r31 q31 => ?_⟩
    have b31 := q31
    change (r31 = 0 ∨ r31 = 1) ∧ (r31 = 1 ↔ st 170 3 = 1 ∧ st 170 7 = (6385252)) at b31
    refine ⟨fun h78 => ?_, fun h78 => (by exfalso; clear hQ; omega)⟩
    have v31 := (show r31 = 0 from by omega)
    clear h78 b31
    refine ⟨rfl, ⟨hG, (show FR (st 192) (st 193) (st 194) (st 195) (st 196) (st 197) ((k, ph, bg, pr, uu ++ w) :: fs) (st 170 42) (st 170 45) from mfr), (show WB ((k, ph, bg, pr, uu ++ w) :: fs) from mwb), (show RG uu (1) from ht.2.2.2.1), (show TR w (1) from ht.2.2.2.2.1), (show CDr (st 170 35) (st 170 34) (st 188) (st 189) (c) from mcd), (show st 170 34 + st 170 45 ≤ 1600 ∧ 0 ≤ st 170 43 ∧ st 170 43 ≤ 7 ∧ st 170 42 ≤ 9 from by omega)⟩, fun s32 q32 => ?_⟩
    obtain ⟨gs32, fs32, yq32, fr32, cd32, op32, cm32⟩ := q32
    change FR (s32 192) (s32 193) (s32 194) (s32 195) (s32 196) (s32 197) ((k, ph, bg, pr, w) :: fs) (s32 170 42) (s32 170 45) at fr32
    have e79 : s32 170 42 = st 170 42 := fs32 170 42 rfl rfl
    have g80 := g_opMany gs32
    change CDr (s32 170 35) (s32 170 34) (s32 188) (s32 189) (c ++ uu) at cd32
    have e81 : s32 170 35 = st 170 35 := fs32 170 35 rfl rfl
    have g82 := g_codes gs32
    change s32 170 43 = st 170 43 - nots uu at op32
    have g83 := g_open gs32
    change s32 170 34 + s32 170 45 = st 170 34 + st 170 45 at cm32
    have mwj : WB ((k, ph, bg, pr, w) :: fs) := WB_c (by have q := WB_hd mwb; rw [List.length_append] at q; omega) (fun x hx => WB_el mwb x (List.mem_append_right _ hx)) (WB_tl mwb)
    have mbj := FR_bnd _ _ _ mwj fr32
    simp only [List.length_cons] at mbj
    have mcj := cd32.1
    rw [List.length_append] at mcj
    have e84 : s32 170 3 = st 170 3 := fs32 170 3 rfl rfl
    have e85 : s32 170 6 = st 170 6 := fs32 170 6 rfl rfl
    have e86 : s32 170 7 = st 170 7 := fs32 170 7 rfl rfl
    have e87 : s32 170 12 = st 170 12 := fs32 170 12 rfl rfl
    have e88 : s32 170 8 = st 170 8 := fs32 170 8 rfl rfl
    have e89 : s32 170 4 = st 170 4 := fs32 170 4 rfl rfl
    have e90 : s32 170 5 = st 170 5 := fs32 170 5 rfl rfl
    refine ⟨fun h91 => ?_, fun h91 => (by exfalso; omega)⟩
    clear h91
    refine ⟨rfl, ⟨gs32, (show 0 ≤ s32 170 45 ∧ s32 170 45 ≤ 499 from by omega)⟩, ?_⟩
    refine ⟨by omega, ?_⟩
    refine ⟨by omega, ?_⟩
    refine ⟨by omega, ?_⟩
    refine ⟨rfl, ⟨(gInv_up (gInv_up (gInv_up (gInv_up gs32 (p_ops (by omega))) (p_opMany (by omega))) (p_phase (by omega))) (p_begins (by omega))), (show RDr (zup (zup (zup (zup s32 197 (s32 170 45 : Int).toNat (42)) 170 45 ((s32 170 45) + 1)) 193 ((st 170 42) - 1 : Int).toNat 0) 194 ((st 170 42) - 1 : Int).toNat 1) t n from (show RDr (zup (zup (zup (zup s32 197 (s32 170 45 : Int).toNat (42)) 170 45 ((s32 170 45) + 1)) 193 ((st 170 42) - 1 : Int).toNat 0) 194 ((st 170 42) - 1 : Int).toNat 1) t n from (RDr_of (fs32 170 2 rfl rfl) (fun i => fs32 171 i rfl rfl) (fs32 170 3 rfl rfl) (fs32 170 4 rfl rfl) (fs32 170 5 rfl rfl) (fs32 170 6 rfl rfl) (fs32 170 7 rfl rfl) (fs32 170 12 rfl rfl) mrd))), (show s32 170 12 = -1 from by omega)⟩, fun s34 q34 => ?_⟩
    obtain ⟨gs34, fs34, rd34, nx34⟩ := q34
    change RDr s34 t n at rd34
    change NXr (zup (zup (zup (zup s32 197 (s32 170 45 : Int).toNat (42)) 170 45 ((s32 170 45) + 1)) 193 ((st 170 42) - 1 : Int).toNat 0) 194 ((st 170 42) - 1 : Int).toNat 1) s34 t n at nx34
    refine ⟨by omega, ?_⟩
    refine ⟨by omega, ?_⟩
    have e92 : s34 170 8 = s32 170 8 := fs34 170 8 rfl rfl
    have e93 : s34 170 43 = s32 170 43 := fs34 170 43 rfl rfl
    have e94 : s34 170 34 = s32 170 34 := fs34 170 34 rfl rfl
    have e95 : s34 170 45 = ((s32 170 45) + 1) := fs34 170 45 rfl rfl
    have e96 : s34 170 42 = s32 170 42 := fs34 170 42 rfl rfl
    have g97 := g_signAt gs34
    exact hQ _ _ ⟨(gInv_up gs34 (p_operand (by omega))), (fr_f (fr_tr (fr_a (fr_a (fr_f (fr_a (fr_tr (fr_rf _ _) fs32 rfl) rfl) rfl) rfl) rfl) fs34 rfl) rfl), (Z9_up (Z9_tr (Z9_up (Z9_up (Z9_up (Z9_up yq32 (by decide)) (by decide)) (by decide)) (by decide)) ((show aFr m_rGo442 st (zup (zup (zup (zup s32 197 (s32 170 45 : Int).toNat (42)) 170 45 ((s32 170 45) + 1)) 193 ((st 170 42) - 1 : Int).toNat 0) 194 ((st 170 42) - 1 : Int).toNat 1) from (fr_a (fr_a (fr_f (fr_a (fr_tr (fr_rf _ _) fs32 rfl) rfl) rfl) rfl) rfl)) 170 35 rfl rfl) (Z9_fr fs34 (fun _ => rfl) rfl)) (by decide)), (show (1 : Int) = 1 ∧ mcP t n (zup s34 170 46 0) ((k, 0, 1, pr, 42 :: w) :: fs) 0 (o) (c ++ uu) (e) from (by
            have tkk := ht.1
            have hp : s34 170 4 = e := NXr_e (st := (zup (zup (zup (zup s32 197 (s32 170 45 : Int).toNat (42)) 170 45 ((s32 170 45) + 1)) 193 ((st 170 42) - 1 : Int).toNat 0) 194 ((st 170 42) - 1 : Int).toNat 1)) (show NXr (zup (zup (zup (zup s32 197 (s32 170 45 : Int).toNat (42)) 170 45 ((s32 170 45) + 1)) 193 ((st 170 42) - 1 : Int).toNat 0) 194 ((st 170 42) - 1 : Int).toNat 1) s34 t n from nx34) (show tk t n ((zup (zup (zup (zup s32 197 (s32 170 45 : Int).toNat (42)) 170 45 ((s32 170 45) + 1)) 193 ((st 170 42) - 1 : Int).toNat 0) 194 ((st 170 42) - 1 : Int).toNat 1) 170 4) _ _ e from by rw [show (zup (zup (zup (zup s32 197 (s32 170 45 : Int).toNat (42)) 170 45 ((s32 170 45) + 1)) 193 ((st 170 42) - 1 : Int).toNat 0) 194 ((st 170 42) - 1 : Int).toNat 1) 170 4 = p from (show s32 170 4 = p from by omega)]; exact tkk) (by omega)
            have hl := tk_lt tkk (show 0 ≤ p from by rw [← mpp]; exact mrd.2.1.1) (by omega)
            refine ⟨rfl, (show s34 170 8 = 0 from by omega), (show (0 : Int) = 0 from rfl), (show s34 170 43 = o from by omega), hp, (show RDr _ t n from rd34), ?_, (show s34 170 34 + s34 170 45 + s34 170 42 ≤ e from by omega), by omega, by omega, by first | omega | (simp only [List.length_cons]; omega) | (simp only [List.length_cons] at mz3 ⊢; omega)⟩
            exact (mcQ_of (fun i => fs34 192 i rfl rfl) (fun i => fs34 193 i rfl rfl) (fun i => fs34 194 i rfl rfl) (fun i => fs34 195 i rfl rfl) (fun i => fs34 196 i rfl rfl) (fun i => fs34 197 i rfl rfl) (fs34 170 42 rfl rfl) (fs34 170 45 rfl rfl) (fs34 170 35 rfl rfl) (fs34 170 34 rfl rfl) (fun i => fs34 188 i rfl rfl) (fun i => fs34 189 i rfl rfl) (show mcQ (zup (zup (zup (zup s32 197 (s32 170 45 : Int).toNat (42)) 170 45 ((s32 170 45) + 1)) 193 ((st 170 42) - 1 : Int).toNat 0) 194 ((st 170 42) - 1 : Int).toNat 1) ((k, 0, 1, pr, 42 :: w) :: fs) (c ++ uu) from ⟨(by have q := FR_bg 1 (by omega) (FR_ph 0 (by omega) (FR_hold 42 mbj.2.1 fr32)); rw [show (s32 170 42 - 1 : Int).toNat = (st 170 42 - 1 : Int).toNat from by omega] at q; exact q), WB_c (by rw [List.length_cons]; omega) (fun x hx => by rcases List.mem_cons.mp hx with z | z; omega; exact WB_el mwj x z) (WB_tl mwj), cd32⟩))))⟩
theorem k_rGo442_m (hTb : aTb zSh rx_tb cl) {t : Int → Int} {n k ph bg pr o p e : Int} {w c : List Int} {fs : List mFr} {uu : List Int} {x : Int} {D : Nat} (hD : 3 ≤ D) : ∀ as st (Q Q' : zQ), (∀ r st', Q r st' → Q' r st') → (k_rGo442 t n k ph bg pr o p e w c fs uu x) 197 as st Q → cl D 197 as st Q' := by
  intro as st Q Q' hQ h
  unfold k_rGo442 at h
  split at h
  · obtain ⟨rfl, h⟩ := h
    exact c_rGo442 hTb hD (ct_rGo442_m hQ h)
  · exact h.elim
set_option maxHeartbeats 4000000 in
set_option maxRecDepth 100000 in
theorem c_rGo50 (hTb : aTb zSh rx_tb cl) {t : Int → Int} {n k ph bg pr o p e : Int} {w c : List Int} {fs : List mFr} {kk v : Int} {D : Nat} (hD : 3 ≤ D) {st : zS} {Q : zQ} (h : ct_rGo50 t n k ph bg pr o p e w c fs kk v st Q) : cl D 197 [.inr (.inr (.inl 170))] st Q := by
  obtain ⟨d, rfl⟩ : ∃ d, D = d + 1 := ⟨D - 1, by omega⟩
  refine hTb d 197 (rx_m197, 5, 0, 0, 2) rfl _ _ _ (Nat.le_of_ble_eq_true rfl) (fun K hcl hsf hsl => ?_)
  have hcm : zmo (wcL [(181, k_rLex), (195, k_isTest), (183, k_isWord), (182, k_isSign), (149, k_rNext t n), (189, k_add), (192, k_holdsBack), (191, k_rJoins k ph bg pr w [] fs c)]) (cl d) := (wcL_m (wm_cons (k_rLex_m hTb (by omega)) (wm_cons (k_isTest_m hTb (by omega)) (wm_cons (k_isWord_m hTb (by omega)) (wm_cons (k_isSign_m hTb (by omega)) (wm_cons (k_rNext_m hTb (by omega)) (wm_cons (k_add_m hTb (by omega)) (wm_cons (k_holdsBack_m hTb (by omega)) (wm_cons (k_rJoins_m hTb (by omega)) wm_nil)))))))))
  obtain ⟨hR, hQ⟩ := h
  obtain ⟨hG, mp, ht⟩ := hR
  change mcP t n st ((k, ph, bg, pr, w) :: fs) 1 (o) (c) (p) at mp
  change tk t n p kk v e ∧ ¬ kk = 5 ∧ k = 0 ∧ (ph < 2 → ¬ arS kk v) at ht
  obtain ⟨mf, mo, mn, mpp, mrd, mq, mbd, mz1, mz2, mz3⟩ := mp
  simp only [List.length_cons] at mz3
  have mq0 := mq
  obtain ⟨mfr, mwb, mcd⟩ := mq
  have mt := FR_top mfr
  have mb := FR_bnd _ _ _ mwb mfr
  simp only [List.length_cons] at mb
  have ml := WB_hd mwb
  have mcl := mcd.1
  have mlw := FR_len mb.2.1 mfr
  have mnb := nots_b w
  have tf := RDr_rv mrd (by rw [mpp]; exact ht.1)
  have n5 := RV_5 tf ht.2.1
  have cs_43 : ph < 2 → NSq st 43 := fun hp => RV_s ht.2.1 tf (fun z => ht.2.2.2 hp ⟨z.1, by have := z.2; omega⟩)
  have cs_45 : ph < 2 → NSq st 45 := fun hp => RV_s ht.2.1 tf (fun z => ht.2.2.2 hp ⟨z.1, by have := z.2; omega⟩)
  have cs_42 : ph < 2 → NSq st 42 := fun hp => RV_s ht.2.1 tf (fun z => ht.2.2.2 hp ⟨z.1, by have := z.2; omega⟩)
  have cs_47 : ph < 2 → NSq st 47 := fun hp => RV_s ht.2.1 tf (fun z => ht.2.2.2 hp ⟨z.1, by have := z.2; omega⟩)
  have cs_37 : ph < 2 → NSq st 37 := fun hp => RV_s ht.2.1 tf (fun z => ht.2.2.2 hp ⟨z.1, by have := z.2; omega⟩)
  clear tf
  have g1 := g_codes hG
  have g2 := g_in hG
  have g3 := g_isClever hG
  have g4 := g_deep hG
  have g5 := g_open hG
  have g6 := g_opMany hG
  have g7 := g_signAt hG
  have g8 := g_signEnd hG
  have g9 := g_faultKind hG
  have g10 := g_size hG
  have g11 := g_sign hG
  have g12 := g_lexAt hG
  have g13 := g_value hG
  have g14 := g_word hG
  have g15 := g_operand hG
  refine yr1_ok (Rt := Q) (wc := (wcL [(181, k_rLex), (195, k_isTest), (183, k_isWord), (182, k_isSign), (149, k_rNext t n), (189, k_add), (192, k_holdsBack), (191, k_rJoins k ph bg pr w [] fs c)])) (stp := []) hcm hcl [] 500 ?_
  show (170 = 170 ∧ (rq_rLex  st ∧ (((st 170 8 ≤ (0 : Int) → ((-2147483648 ≤ (st 170 42) - 1 ∧ (st 170 42) - 1 ≤ 2147483647) ∧ ((0 ≤ (st 170 42) - 1 ∧ (st 170 42) - 1 < 20) ∧ (∀ (r17 : Int), en_isTest (st 192 ((st 170 42) - 1 : Int).toNat) st r17 → ((0 ≤ (st 170 42) - 1 ∧ (st 170 42) - 1 < 20) ∧ (((2 : Int) ≤ st 193 ((st 170 42) - 1 : Int).toNat → ((r17 = (0 : Int) → ((r17 = (0 : Int) → ((r17 = (0 : Int) → (((2 : Int) ≤ st 192 ((st 170 42) - 1 : Int).toNat → _) ∧ (¬ ((2 : Int) ≤ st 192 ((st 170 42) - 1 : Int).toNat) → ((¬ st 170 8 = (0 : Int) → _) ∧ (¬ (¬ st 170 8 = (0 : Int)) → (170 = 170 ∧ (rq_rJoins k ph bg pr w [] fs c (1) st ∧ (∀ (s18 : zS), en_rJoins k ph bg pr w [] fs c (1) st s18 → ((0 = (0 : Int) ∨ 0 = (1 : Int)) ∧ Q (some (.inl 0)) s18))))))))) ∧ (¬ (r17 = (0 : Int)) → _))) ∧ (¬ (r17 = (0 : Int)) → _))) ∧ (¬ (r17 = (0 : Int)) → _))) ∧ (¬ ((2 : Int) ≤ st 193 ((st 170 42) - 1 : Int).toNat) → (170 = 170 ∧ (∀ (r19 : Int), en_isSign (43) st r19 → ((¬ r19 = (0 : Int) → _) ∧ (¬ (¬ r19 = (0 : Int)) → (170 = 170 ∧ (∀ (r20 : Int), en_isSign (45) st r20 → ((¬ r20 = (0 : Int) → _) ∧ (¬ (¬ r20 = (0 : Int)) → (170 = 170 ∧ (∀ (r21 : Int), en_isSign (42) st r21 → ((¬ r21 = (0 : Int) → _) ∧ (¬ (¬ r21 = (0 : Int)) → (170 = 170 ∧ (∀ (r22 : Int), en_isSign (47) st r22 → ((¬ r22 = (0 : Int) → _) ∧ (¬ (¬ r22 = (0 : Int)) → (170 = 170 ∧ (∀ (r23 : Int), en_isSign (37) st r23 → ((r23 = (0 : Int) → ((r17 = (0 : Int) → ((r17 = (0 : Int) → ((r17 = (0 : Int) → (((2 : Int) ≤ st 192 ((st 170 42) - 1 : Int).toNat → _) ∧ (¬ ((2 : Int) ≤ st 192 ((st 170 42) - 1 : Int).toNat) → ((¬ st 170 8 = (0 : Int) → _) ∧ (¬ (¬ st 170 8 = (0 : Int)) → (170 = 170 ∧ (rq_rJoins k ph bg pr w [] fs c (1) st ∧ (∀ (s24 : zS), en_rJoins k ph bg pr w [] fs c (1) st s24 → ((0 = (0 : Int) ∨ 0 = (1 : Int)) ∧ Q (some (.inl 0)) s24))))))))) ∧ (¬ (r17 = (0 : Int)) → _))) ∧ (¬ (r17 = (0 : Int)) → _))) ∧ (¬ (r17 = (0 : Int)) → _))) ∧ (¬ (r23 = (0 : Int)) → _))))))))))))))))))))))))))) ∧ (¬ (st 170 8 ≤ (0 : Int)) → _)))))
  refine ⟨rfl, ⟨hG, (show st 170 12 = -1 from by omega)⟩, ?_⟩
  refine ⟨fun h25 => ?_, fun h25 => (by exfalso; omega)⟩
  refine ⟨by omega, ?_⟩
  have g26 := g_frame hG ((st 170 42) - 1 : Int).toNat
  refine ⟨by omega, ?_⟩
  refine fun r17 q17 => ?_
  have b17 := q17
  change (r17 = 0 ∨ r17 = 1) ∧ (r17 = 1 ↔ (st 192 ((st 170 42) - 1 : Int).toNat) = 1 ∨ (st 192 ((st 170 42) - 1 : Int).toNat) = 5 ∨ (st 192 ((st 170 42) - 1 : Int).toNat) = 6) at b17
  have g27 := g_phase hG ((st 170 42) - 1 : Int).toNat
  refine ⟨by omega, ?_⟩
  refine ⟨fun h28 => ?_, fun h28 => ?_⟩
  · refine ⟨fun h29 => ?_, fun h29 => (by exfalso; clear hQ; omega)⟩
    clear h29
    refine ⟨fun h30 => ?_, fun h30 => (by exfalso; clear hQ; omega)⟩
    clear h30
    refine ⟨fun h31 => ?_, fun h31 => (by exfalso; clear hQ; omega)⟩
    clear h31
    refine ⟨fun h32 => (by exfalso; omega), fun h32 => ?_⟩
    refine ⟨fun h33 => (by exfalso; omega), fun h33 => ?_⟩
    refine ⟨rfl, ⟨hG, (show FR (st 192) (st 193) (st 194) (st 195) (st 196) (st 197) ((k, ph, bg, pr, w ++ []) :: fs) (st 170 42) (st 170 45) from (by rw [List.append_nil]; exact mfr)), (show WB ((k, ph, bg, pr, w ++ []) :: fs) from (by rw [List.append_nil]; exact mwb)), (show RG w (1) from RG_1 _), (show TR [] (1) from TR_nil _), (show CDr (st 170 35) (st 170 34) (st 188) (st 189) (c) from mcd), (show st 170 34 + st 170 45 ≤ 1600 ∧ 0 ≤ st 170 43 ∧ st 170 43 ≤ 7 ∧ st 170 42 ≤ 9 from by omega)⟩, fun s18 q18 => ?_⟩
    obtain ⟨gs18, fs18, yq18, fr18, cd18, op18, cm18⟩ := q18
    change FR (s18 192) (s18 193) (s18 194) (s18 195) (s18 196) (s18 197) ((k, ph, bg, pr, []) :: fs) (s18 170 42) (s18 170 45) at fr18
    have e34 : s18 170 42 = st 170 42 := fs18 170 42 rfl rfl
    have g35 := g_opMany gs18
    change CDr (s18 170 35) (s18 170 34) (s18 188) (s18 189) (c ++ w) at cd18
    have e36 : s18 170 35 = st 170 35 := fs18 170 35 rfl rfl
    have g37 := g_codes gs18
    change s18 170 43 = st 170 43 - nots w at op18
    have g38 := g_open gs18
    change s18 170 34 + s18 170 45 = st 170 34 + st 170 45 at cm18
    have mwj : WB ((k, ph, bg, pr, []) :: fs) := WB_c (by rw [List.length_nil]; omega) (fun x hx => by cases hx) (WB_tl mwb)
    have mbj := FR_bnd _ _ _ mwj fr18
    simp only [List.length_cons] at mbj
    have mcj := cd18.1
    rw [List.length_append] at mcj
    have e39 : s18 170 3 = st 170 3 := fs18 170 3 rfl rfl
    have e40 : s18 170 6 = st 170 6 := fs18 170 6 rfl rfl
    have e41 : s18 170 7 = st 170 7 := fs18 170 7 rfl rfl
    have e42 : s18 170 12 = st 170 12 := fs18 170 12 rfl rfl
    have e43 : s18 170 8 = st 170 8 := fs18 170 8 rfl rfl
    have e44 : s18 170 4 = st 170 4 := fs18 170 4 rfl rfl
    have e45 : s18 170 5 = st 170 5 := fs18 170 5 rfl rfl
    refine ⟨by omega, ?_⟩
    have e46 : s18 170 46 = st 170 46 := fs18 170 46 rfl rfl
    exact hQ _ _ ⟨gs18, (fr_tr (fr_rf _ _) fs18 rfl), yq18, (show (0 : Int) = 0 ∧ s18 170 8 = 0 ∧ s18 170 4 = p ∧ RDr s18 t n ∧ CDr (s18 170 35) (s18 170 34) (s18 188) (s18 189) (c ++ w) from (by
            refine ⟨rfl, by omega, by omega, (RDr_of (fs18 170 2 rfl rfl) (fun i => fs18 171 i rfl rfl) (fs18 170 3 rfl rfl) (fs18 170 4 rfl rfl) (fs18 170 5 rfl rfl) (fs18 170 6 rfl rfl) (fs18 170 7 rfl rfl) (fs18 170 12 rfl rfl) mrd), cd18⟩))⟩
  · refine ⟨rfl, fun r19 q19 => ?_⟩
    have b19 := q19
    change (r19 = 0 ∨ r19 = 1) ∧ (r19 = 1 ↔ st 170 3 = 3 ∧ st 170 6 = (43)) at b19
    refine ⟨fun h47 => (by exfalso; have cx := cs_43 (by omega); unfold NSq at cx; clear hQ; omega), fun h47 => ?_⟩
    clear h47 b19
    refine ⟨rfl, fun r20 q20 => ?_⟩
    have b20 := q20
    change (r20 = 0 ∨ r20 = 1) ∧ (r20 = 1 ↔ st 170 3 = 3 ∧ st 170 6 = (45)) at b20
    refine ⟨fun h48 => (by exfalso; have cx := cs_45 (by omega); unfold NSq at cx; clear hQ; omega), fun h48 => ?_⟩
    clear h48 b20
    refine ⟨rfl, fun r21 q21 => ?_⟩
    have b21 := q21
    change (r21 = 0 ∨ r21 = 1) ∧ (r21 = 1 ↔ st 170 3 = 3 ∧ st 170 6 = (42)) at b21
    refine ⟨fun h49 => (by exfalso; have cx := cs_42 (by omega); unfold NSq at cx; clear hQ; omega), fun h49 => ?_⟩
    clear h49 b21
    refine ⟨rfl, fun r22 q22 => ?_⟩
    have b22 := q22
    change (r22 = 0 ∨ r22 = 1) ∧ (r22 = 1 ↔ st 170 3 = 3 ∧ st 170 6 = (47)) at b22
    refine ⟨fun h50 => (by exfalso; have cx := cs_47 (by omega); unfold NSq at cx; clear hQ; omega), fun h50 => ?_⟩
    clear h50 b22
    refine ⟨rfl, fun r23 q23 => ?_⟩
    have b23 := q23
    change (r23 = 0 ∨ r23 = 1) ∧ (r23 = 1 ↔ st 170 3 = 3 ∧ st 170 6 = (37)) at b23
    refine ⟨fun h51 => ?_, fun h51 => (by exfalso; have cx := cs_37 (by omega); unfold NSq at cx; clear hQ; omega)⟩
    clear h51 b23
    refine ⟨fun h52 => ?_, fun h52 => (by exfalso; clear hQ; omega)⟩
    clear h52
    refine ⟨fun h53 => ?_, fun h53 => (by exfalso; clear hQ; omega)⟩
    clear h53
    refine ⟨fun h54 => ?_, fun h54 => (by exfalso; clear hQ; omega)⟩
    clear h54
    refine ⟨fun h55 => (by exfalso; omega), fun h55 => ?_⟩
    refine ⟨fun h56 => (by exfalso; omega), fun h56 => ?_⟩
    refine ⟨rfl, ⟨hG, (show FR (st 192) (st 193) (st 194) (st 195) (st 196) (st 197) ((k, ph, bg, pr, w ++ []) :: fs) (st 170 42) (st 170 45) from (by rw [List.append_nil]; exact mfr)), (show WB ((k, ph, bg, pr, w ++ []) :: fs) from (by rw [List.append_nil]; exact mwb)), (show RG w (1) from RG_1 _), (show TR [] (1) from TR_nil _), (show CDr (st 170 35) (st 170 34) (st 188) (st 189) (c) from mcd), (show st 170 34 + st 170 45 ≤ 1600 ∧ 0 ≤ st 170 43 ∧ st 170 43 ≤ 7 ∧ st 170 42 ≤ 9 from by omega)⟩, fun s24 q24 => ?_⟩
    obtain ⟨gs24, fs24, yq24, fr24, cd24, op24, cm24⟩ := q24
    change FR (s24 192) (s24 193) (s24 194) (s24 195) (s24 196) (s24 197) ((k, ph, bg, pr, []) :: fs) (s24 170 42) (s24 170 45) at fr24
    have e57 : s24 170 42 = st 170 42 := fs24 170 42 rfl rfl
    have g58 := g_opMany gs24
    change CDr (s24 170 35) (s24 170 34) (s24 188) (s24 189) (c ++ w) at cd24
    have e59 : s24 170 35 = st 170 35 := fs24 170 35 rfl rfl
    have g60 := g_codes gs24
    change s24 170 43 = st 170 43 - nots w at op24
    have g61 := g_open gs24
    change s24 170 34 + s24 170 45 = st 170 34 + st 170 45 at cm24
    have mwj : WB ((k, ph, bg, pr, []) :: fs) := WB_c (by rw [List.length_nil]; omega) (fun x hx => by cases hx) (WB_tl mwb)
    have mbj := FR_bnd _ _ _ mwj fr24
    simp only [List.length_cons] at mbj
    have mcj := cd24.1
    rw [List.length_append] at mcj
    have e62 : s24 170 3 = st 170 3 := fs24 170 3 rfl rfl
    have e63 : s24 170 6 = st 170 6 := fs24 170 6 rfl rfl
    have e64 : s24 170 7 = st 170 7 := fs24 170 7 rfl rfl
    have e65 : s24 170 12 = st 170 12 := fs24 170 12 rfl rfl
    have e66 : s24 170 8 = st 170 8 := fs24 170 8 rfl rfl
    have e67 : s24 170 4 = st 170 4 := fs24 170 4 rfl rfl
    have e68 : s24 170 5 = st 170 5 := fs24 170 5 rfl rfl
    refine ⟨by omega, ?_⟩
    have e69 : s24 170 46 = st 170 46 := fs24 170 46 rfl rfl
    exact hQ _ _ ⟨gs24, (fr_tr (fr_rf _ _) fs24 rfl), yq24, (show (0 : Int) = 0 ∧ s24 170 8 = 0 ∧ s24 170 4 = p ∧ RDr s24 t n ∧ CDr (s24 170 35) (s24 170 34) (s24 188) (s24 189) (c ++ w) from (by
            refine ⟨rfl, by omega, by omega, (RDr_of (fs24 170 2 rfl rfl) (fun i => fs24 171 i rfl rfl) (fs24 170 3 rfl rfl) (fs24 170 4 rfl rfl) (fs24 170 5 rfl rfl) (fs24 170 6 rfl rfl) (fs24 170 7 rfl rfl) (fs24 170 12 rfl rfl) mrd), cd24⟩))⟩
theorem k_rGo50_m (hTb : aTb zSh rx_tb cl) {t : Int → Int} {n k ph bg pr o p e : Int} {w c : List Int} {fs : List mFr} {kk v : Int} {D : Nat} (hD : 3 ≤ D) : ∀ as st (Q Q' : zQ), (∀ r st', Q r st' → Q' r st') → (k_rGo50 t n k ph bg pr o p e w c fs kk v) 197 as st Q → cl D 197 as st Q' := by
  intro as st Q Q' hQ h
  unfold k_rGo50 at h
  split at h
  · obtain ⟨rfl, h⟩ := h
    exact c_rGo50 hTb hD (ct_rGo50_m hQ h)
  · exact h.elim
set_option maxHeartbeats 4000000 in
set_option maxRecDepth 100000 in
theorem c_rGo51 (hTb : aTb zSh rx_tb cl) {t : Int → Int} {n k ph bg pr o p e : Int} {w c : List Int} {fs : List mFr} {kk v : Int} {D : Nat} (hD : 3 ≤ D) {st : zS} {Q : zQ} (h : ct_rGo51 t n k ph bg pr o p e w c fs kk v st Q) : cl D 197 [.inr (.inr (.inl 170))] st Q := by
  obtain ⟨d, rfl⟩ : ∃ d, D = d + 1 := ⟨D - 1, by omega⟩
  refine hTb d 197 (rx_m197, 5, 0, 0, 2) rfl _ _ _ (Nat.le_of_ble_eq_true rfl) (fun K hcl hsf hsl => ?_)
  have hcm : zmo (wcL [(181, k_rLex), (195, k_isTest), (183, k_isWord), (182, k_isSign), (149, k_rNext t n), (189, k_add), (192, k_holdsBack), (191, k_rJoins k ph bg pr w [] fs c)]) (cl d) := (wcL_m (wm_cons (k_rLex_m hTb (by omega)) (wm_cons (k_isTest_m hTb (by omega)) (wm_cons (k_isWord_m hTb (by omega)) (wm_cons (k_isSign_m hTb (by omega)) (wm_cons (k_rNext_m hTb (by omega)) (wm_cons (k_add_m hTb (by omega)) (wm_cons (k_holdsBack_m hTb (by omega)) (wm_cons (k_rJoins_m hTb (by omega)) wm_nil)))))))))
  obtain ⟨hR, hQ⟩ := h
  obtain ⟨hG, mp, ht⟩ := hR
  change mcP t n st ((k, ph, bg, pr, w) :: fs) 1 (o) (c) (p) at mp
  change tk t n p kk v e ∧ ¬ kk = 5 ∧ k = 1 ∧ (ph < 2 → ¬ arS kk v) ∧ ¬ ph = 0 ∧ ¬ aoS kk v at ht
  obtain ⟨mf, mo, mn, mpp, mrd, mq, mbd, mz1, mz2, mz3⟩ := mp
  simp only [List.length_cons] at mz3
  have mq0 := mq
  obtain ⟨mfr, mwb, mcd⟩ := mq
  have mt := FR_top mfr
  have mb := FR_bnd _ _ _ mwb mfr
  simp only [List.length_cons] at mb
  have ml := WB_hd mwb
  have mcl := mcd.1
  have mlw := FR_len mb.2.1 mfr
  have mnb := nots_b w
  have tf := RDr_rv mrd (by rw [mpp]; exact ht.1)
  have n5 := RV_5 tf ht.2.1
  have cs_43 : ph < 2 → NSq st 43 := fun hp => RV_s ht.2.1 tf (fun z => ht.2.2.2.1 hp ⟨z.1, by have := z.2; omega⟩)
  have cs_45 : ph < 2 → NSq st 45 := fun hp => RV_s ht.2.1 tf (fun z => ht.2.2.2.1 hp ⟨z.1, by have := z.2; omega⟩)
  have cs_42 : ph < 2 → NSq st 42 := fun hp => RV_s ht.2.1 tf (fun z => ht.2.2.2.1 hp ⟨z.1, by have := z.2; omega⟩)
  have cs_47 : ph < 2 → NSq st 47 := fun hp => RV_s ht.2.1 tf (fun z => ht.2.2.2.1 hp ⟨z.1, by have := z.2; omega⟩)
  have cs_37 : ph < 2 → NSq st 37 := fun hp => RV_s ht.2.1 tf (fun z => ht.2.2.2.1 hp ⟨z.1, by have := z.2; omega⟩)
  have cw_6385252 := RV_w (c := 6385252) ht.2.1 tf (fun z => ht.2.2.2.2.2 ⟨z.1, by have := z.2; omega⟩)
  have cw_28530 := RV_w (c := 28530) ht.2.1 tf (fun z => ht.2.2.2.2.2 ⟨z.1, by have := z.2; omega⟩)
  clear tf
  have tkT : k = 1 ∨ k = 5 ∨ k = 6 := Or.inl ht.2.2.1
  have g1 := g_codes hG
  have g2 := g_in hG
  have g3 := g_isClever hG
  have g4 := g_deep hG
  have g5 := g_open hG
  have g6 := g_opMany hG
  have g7 := g_signAt hG
  have g8 := g_signEnd hG
  have g9 := g_faultKind hG
  have g10 := g_size hG
  have g11 := g_sign hG
  have g12 := g_lexAt hG
  have g13 := g_value hG
  have g14 := g_word hG
  have g15 := g_operand hG
  refine yr1_ok (Rt := Q) (wc := (wcL [(181, k_rLex), (195, k_isTest), (183, k_isWord), (182, k_isSign), (149, k_rNext t n), (189, k_add), (192, k_holdsBack), (191, k_rJoins k ph bg pr w [] fs c)])) (stp := []) hcm hcl [] 500 ?_
  show (170 = 170 ∧ (rq_rLex  st ∧ (((st 170 8 ≤ (0 : Int) → ((-2147483648 ≤ (st 170 42) - 1 ∧ (st 170 42) - 1 ≤ 2147483647) ∧ ((0 ≤ (st 170 42) - 1 ∧ (st 170 42) - 1 < 20) ∧ (∀ (r17 : Int), en_isTest (st 192 ((st 170 42) - 1 : Int).toNat) st r17 → ((0 ≤ (st 170 42) - 1 ∧ (st 170 42) - 1 < 20) ∧ (((2 : Int) ≤ st 193 ((st 170 42) - 1 : Int).toNat → ((r17 = (0 : Int) → _) ∧ (¬ (r17 = (0 : Int)) → ((0 ≤ (st 170 42) - 1 ∧ (st 170 42) - 1 < 20) ∧ ((¬ st 193 ((st 170 42) - 1 : Int).toNat = (0 : Int) → ((r17 = (0 : Int) → _) ∧ (¬ (r17 = (0 : Int)) → (170 = 170 ∧ (∀ (r18 : Int), en_isWord (6385252) st r18 → ((¬ r18 = (0 : Int) → _) ∧ (¬ (¬ r18 = (0 : Int)) → (170 = 170 ∧ (∀ (r19 : Int), en_isWord (28530) st r19 → ((r19 = (0 : Int) → ((r17 = (0 : Int) → _) ∧ (¬ (r17 = (0 : Int)) → ((0 ≤ (st 170 42) - 1 ∧ (st 170 42) - 1 < 20) ∧ ((¬ st 193 ((st 170 42) - 1 : Int).toNat = (0 : Int) → (((2 : Int) ≤ st 192 ((st 170 42) - 1 : Int).toNat → _) ∧ (¬ ((2 : Int) ≤ st 192 ((st 170 42) - 1 : Int).toNat) → ((¬ st 170 8 = (0 : Int) → _) ∧ (¬ (¬ st 170 8 = (0 : Int)) → (170 = 170 ∧ (rq_rJoins k ph bg pr w [] fs c (1) st ∧ (∀ (s20 : zS), en_rJoins k ph bg pr w [] fs c (1) st s20 → ((0 = (0 : Int) ∨ 0 = (1 : Int)) ∧ Q (some (.inl 0)) s20))))))))) ∧ (¬ (¬ st 193 ((st 170 42) - 1 : Int).toNat = (0 : Int)) → _)))))) ∧ (¬ (r19 = (0 : Int)) → _))))))))))) ∧ (¬ (¬ st 193 ((st 170 42) - 1 : Int).toNat = (0 : Int)) → _)))))) ∧ (¬ ((2 : Int) ≤ st 193 ((st 170 42) - 1 : Int).toNat) → (170 = 170 ∧ (∀ (r21 : Int), en_isSign (43) st r21 → ((¬ r21 = (0 : Int) → _) ∧ (¬ (¬ r21 = (0 : Int)) → (170 = 170 ∧ (∀ (r22 : Int), en_isSign (45) st r22 → ((¬ r22 = (0 : Int) → _) ∧ (¬ (¬ r22 = (0 : Int)) → (170 = 170 ∧ (∀ (r23 : Int), en_isSign (42) st r23 → ((¬ r23 = (0 : Int) → _) ∧ (¬ (¬ r23 = (0 : Int)) → (170 = 170 ∧ (∀ (r24 : Int), en_isSign (47) st r24 → ((¬ r24 = (0 : Int) → _) ∧ (¬ (¬ r24 = (0 : Int)) → (170 = 170 ∧ (∀ (r25 : Int), en_isSign (37) st r25 → ((r25 = (0 : Int) → ((r17 = (0 : Int) → _) ∧ (¬ (r17 = (0 : Int)) → ((0 ≤ (st 170 42) - 1 ∧ (st 170 42) - 1 < 20) ∧ ((¬ st 193 ((st 170 42) - 1 : Int).toNat = (0 : Int) → ((r17 = (0 : Int) → _) ∧ (¬ (r17 = (0 : Int)) → (170 = 170 ∧ (∀ (r26 : Int), en_isWord (6385252) st r26 → ((¬ r26 = (0 : Int) → _) ∧ (¬ (¬ r26 = (0 : Int)) → (170 = 170 ∧ (∀ (r27 : Int), en_isWord (28530) st r27 → ((r27 = (0 : Int) → ((r17 = (0 : Int) → _) ∧ (¬ (r17 = (0 : Int)) → ((0 ≤ (st 170 42) - 1 ∧ (st 170 42) - 1 < 20) ∧ ((¬ st 193 ((st 170 42) - 1 : Int).toNat = (0 : Int) → (((2 : Int) ≤ st 192 ((st 170 42) - 1 : Int).toNat → _) ∧ (¬ ((2 : Int) ≤ st 192 ((st 170 42) - 1 : Int).toNat) → ((¬ st 170 8 = (0 : Int) → _) ∧ (¬ (¬ st 170 8 = (0 : Int)) → (170 = 170 ∧ (rq_rJoins k ph bg pr w [] fs c (1) st ∧ (∀ (s28 : zS), en_rJoins k ph bg pr w [] fs c (1) st s28 → ((0 = (0 : Int) ∨ 0 = (1 : Int)) ∧ Q (some (.inl 0)) s28))))))))) ∧ (¬ (¬ st 193 ((st 170 42) - 1 : Int).toNat = (0 : Int)) → _)))))) ∧ (¬ (r27 = (0 : Int)) → _))))))))))) ∧ (¬ (¬ st 193 ((st 170 42) - 1 : Int).toNat = (0 : Int)) → _)))))) ∧ (¬ (r25 = (0 : Int)) → _))))))))))))))))))))))))))) ∧ (¬ (st 170 8 ≤ (0 : Int)) → _)))))
  refine ⟨rfl, ⟨hG, (show st 170 12 = -1 from by omega)⟩, ?_⟩
  refine ⟨fun h29 => ?_, fun h29 => (by exfalso; omega)⟩
  refine ⟨by omega, ?_⟩
  have g30 := g_frame hG ((st 170 42) - 1 : Int).toNat
  refine ⟨by omega, ?_⟩
  refine fun r17 q17 => ?_
  have b17 := q17
  change (r17 = 0 ∨ r17 = 1) ∧ (r17 = 1 ↔ (st 192 ((st 170 42) - 1 : Int).toNat) = 1 ∨ (st 192 ((st 170 42) - 1 : Int).toNat) = 5 ∨ (st 192 ((st 170 42) - 1 : Int).toNat) = 6) at b17
  have g31 := g_phase hG ((st 170 42) - 1 : Int).toNat
  refine ⟨by omega, ?_⟩
  refine ⟨fun h32 => ?_, fun h32 => ?_⟩
  · refine ⟨fun h33 => (by exfalso; clear hQ; omega), fun h33 => ?_⟩
    clear h33
    refine ⟨by omega, ?_⟩
    refine ⟨fun h34 => ?_, fun h34 => (by exfalso; omega)⟩
    refine ⟨fun h35 => (by exfalso; clear hQ; omega), fun h35 => ?_⟩
    clear h35
    refine ⟨rfl, fun r18 q18 => ?_⟩
    have b18 := q18
    change (r18 = 0 ∨ r18 = 1) ∧ (r18 = 1 ↔ st 170 3 = 1 ∧ st 170 7 = (6385252)) at b18
    refine ⟨fun h36 => (by exfalso; have cx := cw_6385252; unfold NWq at cx; clear hQ; omega), fun h36 => ?_⟩
    clear h36 b18
    refine ⟨rfl, fun r19 q19 => ?_⟩
    have b19 := q19
    change (r19 = 0 ∨ r19 = 1) ∧ (r19 = 1 ↔ st 170 3 = 1 ∧ st 170 7 = (28530)) at b19
    refine ⟨fun h37 => ?_, fun h37 => (by exfalso; have cx := cw_28530; unfold NWq at cx; clear hQ; omega)⟩
    clear h37 b19
    refine ⟨fun h38 => (by exfalso; clear hQ; omega), fun h38 => ?_⟩
    clear h38
    refine ⟨by omega, ?_⟩
    refine ⟨fun h39 => ?_, fun h39 => (by exfalso; omega)⟩
    refine ⟨fun h40 => (by exfalso; omega), fun h40 => ?_⟩
    refine ⟨fun h41 => (by exfalso; omega), fun h41 => ?_⟩
    refine ⟨rfl, ⟨hG, (show FR (st 192) (st 193) (st 194) (st 195) (st 196) (st 197) ((k, ph, bg, pr, w ++ []) :: fs) (st 170 42) (st 170 45) from (by rw [List.append_nil]; exact mfr)), (show WB ((k, ph, bg, pr, w ++ []) :: fs) from (by rw [List.append_nil]; exact mwb)), (show RG w (1) from RG_1 _), (show TR [] (1) from TR_nil _), (show CDr (st 170 35) (st 170 34) (st 188) (st 189) (c) from mcd), (show st 170 34 + st 170 45 ≤ 1600 ∧ 0 ≤ st 170 43 ∧ st 170 43 ≤ 7 ∧ st 170 42 ≤ 9 from by omega)⟩, fun s20 q20 => ?_⟩
    obtain ⟨gs20, fs20, yq20, fr20, cd20, op20, cm20⟩ := q20
    change FR (s20 192) (s20 193) (s20 194) (s20 195) (s20 196) (s20 197) ((k, ph, bg, pr, []) :: fs) (s20 170 42) (s20 170 45) at fr20
    have e42 : s20 170 42 = st 170 42 := fs20 170 42 rfl rfl
    have g43 := g_opMany gs20
    change CDr (s20 170 35) (s20 170 34) (s20 188) (s20 189) (c ++ w) at cd20
    have e44 : s20 170 35 = st 170 35 := fs20 170 35 rfl rfl
    have g45 := g_codes gs20
    change s20 170 43 = st 170 43 - nots w at op20
    have g46 := g_open gs20
    change s20 170 34 + s20 170 45 = st 170 34 + st 170 45 at cm20
    have mwj : WB ((k, ph, bg, pr, []) :: fs) := WB_c (by rw [List.length_nil]; omega) (fun x hx => by cases hx) (WB_tl mwb)
    have mbj := FR_bnd _ _ _ mwj fr20
    simp only [List.length_cons] at mbj
    have mcj := cd20.1
    rw [List.length_append] at mcj
    have e47 : s20 170 3 = st 170 3 := fs20 170 3 rfl rfl
    have e48 : s20 170 6 = st 170 6 := fs20 170 6 rfl rfl
    have e49 : s20 170 7 = st 170 7 := fs20 170 7 rfl rfl
    have e50 : s20 170 12 = st 170 12 := fs20 170 12 rfl rfl
    have e51 : s20 170 8 = st 170 8 := fs20 170 8 rfl rfl
    have e52 : s20 170 4 = st 170 4 := fs20 170 4 rfl rfl
    have e53 : s20 170 5 = st 170 5 := fs20 170 5 rfl rfl
    refine ⟨by omega, ?_⟩
    have e54 : s20 170 46 = st 170 46 := fs20 170 46 rfl rfl
    exact hQ _ _ ⟨gs20, (fr_tr (fr_rf _ _) fs20 rfl), yq20, (show (0 : Int) = 0 ∧ s20 170 8 = 0 ∧ s20 170 4 = p ∧ RDr s20 t n ∧ CDr (s20 170 35) (s20 170 34) (s20 188) (s20 189) (c ++ w) from (by
            refine ⟨rfl, by omega, by omega, (RDr_of (fs20 170 2 rfl rfl) (fun i => fs20 171 i rfl rfl) (fs20 170 3 rfl rfl) (fs20 170 4 rfl rfl) (fs20 170 5 rfl rfl) (fs20 170 6 rfl rfl) (fs20 170 7 rfl rfl) (fs20 170 12 rfl rfl) mrd), cd20⟩))⟩
  · refine ⟨rfl, fun r21 q21 => ?_⟩
    have b21 := q21
    change (r21 = 0 ∨ r21 = 1) ∧ (r21 = 1 ↔ st 170 3 = 3 ∧ st 170 6 = (43)) at b21
    refine ⟨fun h55 => (by exfalso; have cx := cs_43 (by omega); unfold NSq at cx; clear hQ; omega), fun h55 => ?_⟩
    clear h55 b21
    refine ⟨rfl, fun r22 q22 => ?_⟩
    have b22 := q22
    change (r22 = 0 ∨ r22 = 1) ∧ (r22 = 1 ↔ st 170 3 = 3 ∧ st 170 6 = (45)) at b22
    refine ⟨fun h56 => (by exfalso; have cx := cs_45 (by omega); unfold NSq at cx; clear hQ; omega), fun h56 => ?_⟩
    clear h56 b22
    refine ⟨rfl, fun r23 q23 => ?_⟩
    have b23 := q23
    change (r23 = 0 ∨ r23 = 1) ∧ (r23 = 1 ↔ st 170 3 = 3 ∧ st 170 6 = (42)) at b23
    refine ⟨fun h57 => (by exfalso; have cx := cs_42 (by omega); unfold NSq at cx; clear hQ; omega), fun h57 => ?_⟩
    clear h57 b23
    refine ⟨rfl, fun r24 q24 => ?_⟩
    have b24 := q24
    change (r24 = 0 ∨ r24 = 1) ∧ (r24 = 1 ↔ st 170 3 = 3 ∧ st 170 6 = (47)) at b24
    refine ⟨fun h58 => (by exfalso; have cx := cs_47 (by omega); unfold NSq at cx; clear hQ; omega), fun h58 => ?_⟩
    clear h58 b24
    refine ⟨rfl, fun r25 q25 => ?_⟩
    have b25 := q25
    change (r25 = 0 ∨ r25 = 1) ∧ (r25 = 1 ↔ st 170 3 = 3 ∧ st 170 6 = (37)) at b25
    refine ⟨fun h59 => ?_, fun h59 => (by exfalso; have cx := cs_37 (by omega); unfold NSq at cx; clear hQ; omega)⟩
    clear h59 b25
    refine ⟨fun h60 => (by exfalso; clear hQ; omega), fun h60 => ?_⟩
    clear h60
    refine ⟨by omega, ?_⟩
    refine ⟨fun h61 => ?_, fun h61 => (by exfalso; omega)⟩
    refine ⟨fun h62 => (by exfalso; clear hQ; omega), fun h62 => ?_⟩
    clear h62
    refine ⟨rfl, fun r26 q26 => ?_⟩
    have b26 := q26
    change (r26 = 0 ∨ r26 = 1) ∧ (r26 = 1 ↔ st 170 3 = 1 ∧ st 170 7 = (6385252)) at b26
    refine ⟨fun h63 => (by exfalso; have cx := cw_6385252; unfold NWq at cx; clear hQ; omega), fun h63 => ?_⟩
    clear h63 b26
    refine ⟨rfl, fun r27 q27 => ?_⟩
    have b27 := q27
    change (r27 = 0 ∨ r27 = 1) ∧ (r27 = 1 ↔ st 170 3 = 1 ∧ st 170 7 = (28530)) at b27
    refine ⟨fun h64 => ?_, fun h64 => (by exfalso; have cx := cw_28530; unfold NWq at cx; clear hQ; omega)⟩
    clear h64 b27
    refine ⟨fun h65 => (by exfalso; clear hQ; omega), fun h65 => ?_⟩
    clear h65
    refine ⟨by omega, ?_⟩
    refine ⟨fun h66 => ?_, fun h66 => (by exfalso; omega)⟩
    refine ⟨fun h67 => (by exfalso; omega), fun h67 => ?_⟩
    refine ⟨fun h68 => (by exfalso; omega), fun h68 => ?_⟩
    refine ⟨rfl, ⟨hG, (show FR (st 192) (st 193) (st 194) (st 195) (st 196) (st 197) ((k, ph, bg, pr, w ++ []) :: fs) (st 170 42) (st 170 45) from (by rw [List.append_nil]; exact mfr)), (show WB ((k, ph, bg, pr, w ++ []) :: fs) from (by rw [List.append_nil]; exact mwb)), (show RG w (1) from RG_1 _), (show TR [] (1) from TR_nil _), (show CDr (st 170 35) (st 170 34) (st 188) (st 189) (c) from mcd), (show st 170 34 + st 170 45 ≤ 1600 ∧ 0 ≤ st 170 43 ∧ st 170 43 ≤ 7 ∧ st 170 42 ≤ 9 from by omega)⟩, fun s28 q28 => ?_⟩
    obtain ⟨gs28, fs28, yq28, fr28, cd28, op28, cm28⟩ := q28
    change FR (s28 192) (s28 193) (s28 194) (s28 195) (s28 196) (s28 197) ((k, ph, bg, pr, []) :: fs) (s28 170 42) (s28 170 45) at fr28
    have e69 : s28 170 42 = st 170 42 := fs28 170 42 rfl rfl
    have g70 := g_opMany gs28
    change CDr (s28 170 35) (s28 170 34) (s28 188) (s28 189) (c ++ w) at cd28
    have e71 : s28 170 35 = st 170 35 := fs28 170 35 rfl rfl
    have g72 := g_codes gs28
    change s28 170 43 = st 170 43 - nots w at op28
    have g73 := g_open gs28
    change s28 170 34 + s28 170 45 = st 170 34 + st 170 45 at cm28
    have mwj : WB ((k, ph, bg, pr, []) :: fs) := WB_c (by rw [List.length_nil]; omega) (fun x hx => by cases hx) (WB_tl mwb)
    have mbj := FR_bnd _ _ _ mwj fr28
    simp only [List.length_cons] at mbj
    have mcj := cd28.1
    rw [List.length_append] at mcj
    have e74 : s28 170 3 = st 170 3 := fs28 170 3 rfl rfl
    have e75 : s28 170 6 = st 170 6 := fs28 170 6 rfl rfl
    have e76 : s28 170 7 = st 170 7 := fs28 170 7 rfl rfl
    have e77 : s28 170 12 = st 170 12 := fs28 170 12 rfl rfl
    have e78 : s28 170 8 = st 170 8 := fs28 170 8 rfl rfl
    have e79 : s28 170 4 = st 170 4 := fs28 170 4 rfl rfl
    have e80 : s28 170 5 = st 170 5 := fs28 170 5 rfl rfl
    refine ⟨by omega, ?_⟩
    have e81 : s28 170 46 = st 170 46 := fs28 170 46 rfl rfl
    exact hQ _ _ ⟨gs28, (fr_tr (fr_rf _ _) fs28 rfl), yq28, (show (0 : Int) = 0 ∧ s28 170 8 = 0 ∧ s28 170 4 = p ∧ RDr s28 t n ∧ CDr (s28 170 35) (s28 170 34) (s28 188) (s28 189) (c ++ w) from (by
            refine ⟨rfl, by omega, by omega, (RDr_of (fs28 170 2 rfl rfl) (fun i => fs28 171 i rfl rfl) (fs28 170 3 rfl rfl) (fs28 170 4 rfl rfl) (fs28 170 5 rfl rfl) (fs28 170 6 rfl rfl) (fs28 170 7 rfl rfl) (fs28 170 12 rfl rfl) mrd), cd28⟩))⟩
theorem k_rGo51_m (hTb : aTb zSh rx_tb cl) {t : Int → Int} {n k ph bg pr o p e : Int} {w c : List Int} {fs : List mFr} {kk v : Int} {D : Nat} (hD : 3 ≤ D) : ∀ as st (Q Q' : zQ), (∀ r st', Q r st' → Q' r st') → (k_rGo51 t n k ph bg pr o p e w c fs kk v) 197 as st Q → cl D 197 as st Q' := by
  intro as st Q Q' hQ h
  unfold k_rGo51 at h
  split at h
  · obtain ⟨rfl, h⟩ := h
    exact c_rGo51 hTb hD (ct_rGo51_m hQ h)
  · exact h.elim
set_option maxHeartbeats 4000000 in
set_option maxRecDepth 100000 in
theorem c_rGo63 (hTb : aTb zSh rx_tb cl) {t : Int → Int} {n k ph bg pr o p e : Int} {w c : List Int} {fs : List mFr} {x : Int} {D : Nat} (hD : 3 ≤ D) {st : zS} {Q : zQ} (h : ct_rGo63 t n k ph bg pr o p e w c fs x st Q) : cl D 197 [.inr (.inr (.inl 170))] st Q := by
  obtain ⟨d, rfl⟩ : ∃ d, D = d + 1 := ⟨D - 1, by omega⟩
  refine hTb d 197 (rx_m197, 5, 0, 0, 2) rfl _ _ _ (Nat.le_of_ble_eq_true rfl) (fun K hcl hsf hsl => ?_)
  have hcm : zmo (wcL [(181, k_rLex), (195, k_isTest), (183, k_isWord), (182, k_isSign), (149, k_rNext t n), (189, k_add), (192, k_holdsBack), (191, k_rJoins k ph bg pr w [] fs c)]) (cl d) := (wcL_m (wm_cons (k_rLex_m hTb (by omega)) (wm_cons (k_isTest_m hTb (by omega)) (wm_cons (k_isWord_m hTb (by omega)) (wm_cons (k_isSign_m hTb (by omega)) (wm_cons (k_rNext_m hTb (by omega)) (wm_cons (k_add_m hTb (by omega)) (wm_cons (k_holdsBack_m hTb (by omega)) (wm_cons (k_rJoins_m hTb (by omega)) wm_nil)))))))))
  obtain ⟨hR, hQ⟩ := h
  obtain ⟨hG, mp, ht⟩ := hR
  change mcP t n st ((k, ph, bg, pr, w) :: fs) 1 (x) (c) (p) at mp
  change tk t n p 3 44 e ∧ k = 3 ∧ x = o + nots w ∧ 0 ≤ o at ht
  obtain ⟨mf, mo, mn, mpp, mrd, mq, mbd, mz1, mz2, mz3⟩ := mp
  simp only [List.length_cons] at mz3
  have mq0 := mq
  obtain ⟨mfr, mwb, mcd⟩ := mq
  have mt := FR_top mfr
  have mb := FR_bnd _ _ _ mwb mfr
  simp only [List.length_cons] at mb
  have ml := WB_hd mwb
  have mcl := mcd.1
  have mlw := FR_len mb.2.1 mfr
  have mnb := nots_b w
  have tf := r_sig mrd (by rw [mpp]; exact ht.1)
  have g1 := g_codes hG
  have g2 := g_in hG
  have g3 := g_isClever hG
  have g4 := g_deep hG
  have g5 := g_open hG
  have g6 := g_opMany hG
  have g7 := g_signAt hG
  have g8 := g_signEnd hG
  have g9 := g_faultKind hG
  have g10 := g_size hG
  have g11 := g_sign hG
  have g12 := g_lexAt hG
  have g13 := g_value hG
  have g14 := g_word hG
  have g15 := g_operand hG
  refine yr1_ok (Rt := Q) (wc := (wcL [(181, k_rLex), (195, k_isTest), (183, k_isWord), (182, k_isSign), (149, k_rNext t n), (189, k_add), (192, k_holdsBack), (191, k_rJoins k ph bg pr w [] fs c)])) (stp := []) hcm hcl [] 500 ?_
  show (170 = 170 ∧ (rq_rLex  st ∧ (((st 170 8 ≤ (0 : Int) → ((-2147483648 ≤ (st 170 42) - 1 ∧ (st 170 42) - 1 ≤ 2147483647) ∧ ((0 ≤ (st 170 42) - 1 ∧ (st 170 42) - 1 < 20) ∧ (∀ (r17 : Int), en_isTest (st 192 ((st 170 42) - 1 : Int).toNat) st r17 → ((0 ≤ (st 170 42) - 1 ∧ (st 170 42) - 1 < 20) ∧ (((2 : Int) ≤ st 193 ((st 170 42) - 1 : Int).toNat → ((r17 = (0 : Int) → ((r17 = (0 : Int) → ((r17 = (0 : Int) → (((2 : Int) ≤ st 192 ((st 170 42) - 1 : Int).toNat → ((st 192 ((st 170 42) - 1 : Int).toNat = (3 : Int) → (170 = 170 ∧ (∀ (r18 : Int), en_isSign (44) st r18 → ((¬ r18 = (0 : Int) → ((st 170 8 ≤ (0 : Int) → (170 = 170 ∧ (rq_rJoins k ph bg pr w [] fs c (1) st ∧ (∀ (s19 : zS), en_rJoins k ph bg pr w [] fs c (1) st s19 → ((¬ st 192 ((st 170 42) - 1 : Int).toNat = (3 : Int) → _) ∧ (¬ (¬ st 192 ((st 170 42) - 1 : Int).toNat = (3 : Int)) → ((0 ≤ (st 170 42) - 1 ∧ (st 170 42) - 1 < 20) ∧ ((0 ≤ (st 170 42) - 1 ∧ (st 170 42) - 1 < 20) ∧ (170 = 170 ∧ (rq_rNext t n  (zup (zup s19 192 ((st 170 42) - 1 : Int).toNat 4) 193 ((st 170 42) - 1 : Int).toNat 0) ∧ (∀ (s20 : zS), en_rNext t n  (zup (zup s19 192 ((st 170 42) - 1 : Int).toNat 4) 193 ((st 170 42) - 1 : Int).toNat 0) s20 → ((0 = (0 : Int) ∨ 0 = (1 : Int)) ∧ ((1 = (0 : Int) ∨ 1 = (1 : Int)) ∧ Q (some (.inl 1)) (zup s20 170 46 0)))))))))))))) ∧ (¬ (st 170 8 ≤ (0 : Int)) → _))) ∧ (¬ (¬ r18 = (0 : Int)) → _))))) ∧ (¬ (st 192 ((st 170 42) - 1 : Int).toNat = (3 : Int)) → _))) ∧ (¬ ((2 : Int) ≤ st 192 ((st 170 42) - 1 : Int).toNat) → _))) ∧ (¬ (r17 = (0 : Int)) → _))) ∧ (¬ (r17 = (0 : Int)) → _))) ∧ (¬ (r17 = (0 : Int)) → _))) ∧ (¬ ((2 : Int) ≤ st 193 ((st 170 42) - 1 : Int).toNat) → (170 = 170 ∧ (∀ (r21 : Int), en_isSign (43) st r21 → ((¬ r21 = (0 : Int) → _) ∧ (¬ (¬ r21 = (0 : Int)) → (170 = 170 ∧ (∀ (r22 : Int), en_isSign (45) st r22 → ((¬ r22 = (0 : Int) → _) ∧ (¬ (¬ r22 = (0 : Int)) → (170 = 170 ∧ (∀ (r23 : Int), en_isSign (42) st r23 → ((¬ r23 = (0 : Int) → _) ∧ (¬ (¬ r23 = (0 : Int)) → (170 = 170 ∧ (∀ (r24 : Int), en_isSign (47) st r24 → ((¬ r24 = (0 : Int) → _) ∧ (¬ (¬ r24 = (0 : Int)) → (170 = 170 ∧ (∀ (r25 : Int), en_isSign (37) st r25 → ((r25 = (0 : Int) → ((r17 = (0 : Int) → ((r17 = (0 : Int) → ((r17 = (0 : Int) → (((2 : Int) ≤ st 192 ((st 170 42) - 1 : Int).toNat → ((st 192 ((st 170 42) - 1 : Int).toNat = (3 : Int) → (170 = 170 ∧ (∀ (r26 : Int), en_isSign (44) st r26 → ((¬ r26 = (0 : Int) → ((st 170 8 ≤ (0 : Int) → (170 = 170 ∧ (rq_rJoins k ph bg pr w [] fs c (1) st ∧ (∀ (s27 : zS), en_rJoins k ph bg pr w [] fs c (1) st s27 → ((¬ st 192 ((st 170 42) - 1 : Int).toNat = (3 : Int) → _) ∧ (¬ (¬ st 192 ((st 170 42) - 1 : Int).toNat = (3 : Int)) → ((0 ≤ (st 170 42) - 1 ∧ (st 170 42) - 1 < 20) ∧ ((0 ≤ (st 170 42) - 1 ∧ (st 170 42) - 1 < 20) ∧ (170 = 170 ∧ (rq_rNext t n  (zup (zup s27 192 ((st 170 42) - 1 : Int).toNat 4) 193 ((st 170 42) - 1 : Int).toNat 0) ∧ (∀ (s28 : zS), en_rNext t n  (zup (zup s27 192 ((st 170 42) - 1 : Int).toNat 4) 193 ((st 170 42) - 1 : Int).toNat 0) s28 → ((0 = (0 : Int) ∨ 0 = (1 : Int)) ∧ ((1 = (0 : Int) ∨ 1 = (1 : Int)) ∧ Q (some (.inl 1)) (zup s28 170 46 0)))))))))))))) ∧ (¬ (st 170 8 ≤ (0 : Int)) → _))) ∧ (¬ (¬ r26 = (0 : Int)) → _))))) ∧ (¬ (st 192 ((st 170 42) - 1 : Int).toNat = (3 : Int)) → _))) ∧ (¬ ((2 : Int) ≤ st 192 ((st 170 42) - 1 : Int).toNat) → _))) ∧ (¬ (r17 = (0 : Int)) → _))) ∧ (¬ (r17 = (0 : Int)) → _))) ∧ (¬ (r17 = (0 : Int)) → _))) ∧ (¬ (r25 = (0 : Int)) → _))))))))))))))))))))))))))) ∧ (¬ (st 170 8 ≤ (0 : Int)) → _)))))
  refine ⟨rfl, ⟨hG, (show st 170 12 = -1 from by omega)⟩, ?_⟩
  refine ⟨fun h29 => ?_, fun h29 => (by exfalso; omega)⟩
  refine ⟨by omega, ?_⟩
  have g30 := g_frame hG ((st 170 42) - 1 : Int).toNat
  refine ⟨by omega, ?_⟩
  refine fun r17 q17 => ?_
  have b17 := q17
  change (r17 = 0 ∨ r17 = 1) ∧ (r17 = 1 ↔ (st 192 ((st 170 42) - 1 : Int).toNat) = 1 ∨ (st 192 ((st 170 42) - 1 : Int).toNat) = 5 ∨ (st 192 ((st 170 42) - 1 : Int).toNat) = 6) at b17
  have g31 := g_phase hG ((st 170 42) - 1 : Int).toNat
  refine ⟨by omega, ?_⟩
  refine ⟨fun h32 => ?_, fun h32 => ?_⟩
  · refine ⟨fun h33 => ?_, fun h33 => (by exfalso; clear hQ; omega)⟩
    clear h33
    refine ⟨fun h34 => ?_, fun h34 => (by exfalso; clear hQ; omega)⟩
    clear h34
    refine ⟨fun h35 => ?_, fun h35 => (by exfalso; clear hQ; omega)⟩
    clear h35
    refine ⟨fun h36 => ?_, fun h36 => (by exfalso; omega)⟩
    refine ⟨fun h37 => ?_, fun h37 => (by exfalso; omega)⟩
    refine ⟨rfl, fun r18 q18 => ?_⟩
    have b18 := q18
    change (r18 = 0 ∨ r18 = 1) ∧ (r18 = 1 ↔ st 170 3 = 3 ∧ st 170 6 = (44)) at b18
    refine ⟨fun h38 => ?_, fun h38 => (by exfalso; clear hQ; omega)⟩
    clear h38 b18
    refine ⟨fun h39 => ?_, fun h39 => (by exfalso; omega)⟩
    refine ⟨rfl, ⟨hG, (show FR (st 192) (st 193) (st 194) (st 195) (st 196) (st 197) ((k, ph, bg, pr, w ++ []) :: fs) (st 170 42) (st 170 45) from (by rw [List.append_nil]; exact mfr)), (show WB ((k, ph, bg, pr, w ++ []) :: fs) from (by rw [List.append_nil]; exact mwb)), (show RG w (1) from RG_1 _), (show TR [] (1) from TR_nil _), (show CDr (st 170 35) (st 170 34) (st 188) (st 189) (c) from mcd), (show st 170 34 + st 170 45 ≤ 1600 ∧ 0 ≤ st 170 43 ∧ st 170 43 ≤ 7 ∧ st 170 42 ≤ 9 from by omega)⟩, fun s19 q19 => ?_⟩
    obtain ⟨gs19, fs19, yq19, fr19, cd19, op19, cm19⟩ := q19
    change FR (s19 192) (s19 193) (s19 194) (s19 195) (s19 196) (s19 197) ((k, ph, bg, pr, []) :: fs) (s19 170 42) (s19 170 45) at fr19
    have e40 : s19 170 42 = st 170 42 := fs19 170 42 rfl rfl
    have g41 := g_opMany gs19
    change CDr (s19 170 35) (s19 170 34) (s19 188) (s19 189) (c ++ w) at cd19
    have e42 : s19 170 35 = st 170 35 := fs19 170 35 rfl rfl
    have g43 := g_codes gs19
    change s19 170 43 = st 170 43 - nots w at op19
    have g44 := g_open gs19
    change s19 170 34 + s19 170 45 = st 170 34 + st 170 45 at cm19
    have mwj : WB ((k, ph, bg, pr, []) :: fs) := WB_c (by rw [List.length_nil]; omega) (fun x hx => by cases hx) (WB_tl mwb)
    have mbj := FR_bnd _ _ _ mwj fr19
    simp only [List.length_cons] at mbj
    have mcj := cd19.1
    rw [List.length_append] at mcj
    have e45 : s19 170 3 = st 170 3 := fs19 170 3 rfl rfl
    have e46 : s19 170 6 = st 170 6 := fs19 170 6 rfl rfl
    have e47 : s19 170 7 = st 170 7 := fs19 170 7 rfl rfl
    have e48 : s19 170 12 = st 170 12 := fs19 170 12 rfl rfl
    have e49 : s19 170 8 = st 170 8 := fs19 170 8 rfl rfl
    have e50 : s19 170 4 = st 170 4 := fs19 170 4 rfl rfl
    have e51 : s19 170 5 = st 170 5 := fs19 170 5 rfl rfl
    refine ⟨fun h52 => (by exfalso; omega), fun h52 => ?_⟩
    refine ⟨by omega, ?_⟩
    refine ⟨by omega, ?_⟩
    refine ⟨rfl, ⟨(gInv_up (gInv_up gs19 (p_frame (by omega))) (p_phase (by omega))), (show RDr (zup (zup s19 192 ((st 170 42) - 1 : Int).toNat 4) 193 ((st 170 42) - 1 : Int).toNat 0) t n from (show RDr (zup (zup s19 192 ((st 170 42) - 1 : Int).toNat 4) 193 ((st 170 42) - 1 : Int).toNat 0) t n from (RDr_of (fs19 170 2 rfl rfl) (fun i => fs19 171 i rfl rfl) (fs19 170 3 rfl rfl) (fs19 170 4 rfl rfl) (fs19 170 5 rfl rfl) (fs19 170 6 rfl rfl) (fs19 170 7 rfl rfl) (fs19 170 12 rfl rfl) mrd))), (show s19 170 12 = -1 from by omega)⟩, fun s20 q20 => ?_⟩
    obtain ⟨gs20, fs20, rd20, nx20⟩ := q20
    change RDr s20 t n at rd20
    change NXr (zup (zup s19 192 ((st 170 42) - 1 : Int).toNat 4) 193 ((st 170 42) - 1 : Int).toNat 0) s20 t n at nx20
    refine ⟨by omega, ?_⟩
    refine ⟨by omega, ?_⟩
    have e53 : s20 170 8 = s19 170 8 := fs20 170 8 rfl rfl
    have e54 : s20 170 43 = s19 170 43 := fs20 170 43 rfl rfl
    have e55 : s20 170 34 = s19 170 34 := fs20 170 34 rfl rfl
    have e56 : s20 170 45 = s19 170 45 := fs20 170 45 rfl rfl
    have e57 : s20 170 42 = s19 170 42 := fs20 170 42 rfl rfl
    have g58 := g_signAt gs20
    exact hQ _ _ ⟨(gInv_up gs20 (p_operand (by omega))), (fr_f (fr_tr (fr_a (fr_a (fr_tr (fr_rf _ _) fs19 rfl) rfl) rfl) fs20 rfl) rfl), (Z9_up (Z9_tr (Z9_up (Z9_up yq19 (by decide)) (by decide)) ((show aFr m_rGo63 st (zup (zup s19 192 ((st 170 42) - 1 : Int).toNat 4) 193 ((st 170 42) - 1 : Int).toNat 0) from (fr_a (fr_a (fr_tr (fr_rf _ _) fs19 rfl) rfl) rfl)) 170 35 rfl rfl) (Z9_fr fs20 (fun _ => rfl) rfl)) (by decide)), (show (1 : Int) = 1 ∧ mcP t n (zup s20 170 46 0) ((4, 0, bg, pr, []) :: fs) 0 (o) (c ++ w) (e) from (by
            have tkk := ht.1
            have hp : s20 170 4 = e := NXr_e (st := (zup (zup s19 192 ((st 170 42) - 1 : Int).toNat 4) 193 ((st 170 42) - 1 : Int).toNat 0)) (show NXr (zup (zup s19 192 ((st 170 42) - 1 : Int).toNat 4) 193 ((st 170 42) - 1 : Int).toNat 0) s20 t n from nx20) (show tk t n ((zup (zup s19 192 ((st 170 42) - 1 : Int).toNat 4) 193 ((st 170 42) - 1 : Int).toNat 0) 170 4) _ _ e from by rw [show (zup (zup s19 192 ((st 170 42) - 1 : Int).toNat 4) 193 ((st 170 42) - 1 : Int).toNat 0) 170 4 = p from (show s19 170 4 = p from by omega)]; exact tkk) (by omega)
            have hl := tk_lt tkk (show 0 ≤ p from by rw [← mpp]; exact mrd.2.1.1) (by omega)
            refine ⟨rfl, (show s20 170 8 = 0 from by omega), (show (0 : Int) = 0 from rfl), (show s20 170 43 = o from by omega), hp, (show RDr _ t n from rd20), ?_, (show s20 170 34 + s20 170 45 + s20 170 42 ≤ e from by omega), by omega, by omega, by first | omega | (simp only [List.length_cons]; omega) | (simp only [List.length_cons] at mz3 ⊢; omega)⟩
            exact (mcQ_of (fun i => fs20 192 i rfl rfl) (fun i => fs20 193 i rfl rfl) (fun i => fs20 194 i rfl rfl) (fun i => fs20 195 i rfl rfl) (fun i => fs20 196 i rfl rfl) (fun i => fs20 197 i rfl rfl) (fs20 170 42 rfl rfl) (fs20 170 45 rfl rfl) (fs20 170 35 rfl rfl) (fs20 170 34 rfl rfl) (fun i => fs20 188 i rfl rfl) (fun i => fs20 189 i rfl rfl) (show mcQ (zup (zup s19 192 ((st 170 42) - 1 : Int).toNat 4) 193 ((st 170 42) - 1 : Int).toNat 0) ((4, 0, bg, pr, []) :: fs) (c ++ w) from ⟨(by have q := FR_ph 0 (by omega) (FR_kd 4 (by omega) fr19); rw [show (s19 170 42 - 1 : Int).toNat = (st 170 42 - 1 : Int).toNat from by omega] at q; exact q), WB_c (by rw [List.length_nil]; omega) (fun x hx => by cases hx) (WB_tl mwj), cd19⟩))))⟩
  · refine ⟨rfl, fun r21 q21 => ?_⟩
    have b21 := q21
    change (r21 = 0 ∨ r21 = 1) ∧ (r21 = 1 ↔ st 170 3 = 3 ∧ st 170 6 = (43)) at b21
    refine ⟨fun h59 => (by exfalso; clear hQ; omega), fun h59 => ?_⟩
    clear h59 b21
    refine ⟨rfl, fun r22 q22 => ?_⟩
    have b22 := q22
    change (r22 = 0 ∨ r22 = 1) ∧ (r22 = 1 ↔ st 170 3 = 3 ∧ st 170 6 = (45)) at b22
    refine ⟨fun h60 => (by exfalso; clear hQ; omega), fun h60 => ?_⟩
    clear h60 b22
    refine ⟨rfl, fun r23 q23 => ?_⟩
    have b23 := q23
    change (r23 = 0 ∨ r23 = 1) ∧ (r23 = 1 ↔ st 170 3 = 3 ∧ st 170 6 = (42)) at b23
    refine ⟨fun h61 => (by exfalso; clear hQ; omega), fun h61 => ?_⟩
    clear h61 b23
    refine ⟨rfl, fun r24 q24 => ?_⟩
    have b24 := q24
    change (r24 = 0 ∨ r24 = 1) ∧ (r24 = 1 ↔ st 170 3 = 3 ∧ st 170 6 = (47)) at b24
    refine ⟨fun h62 => (by exfalso; clear hQ; omega), fun h62 => ?_⟩
    clear h62 b24
    refine ⟨rfl, fun r25 q25 => ?_⟩
    have b25 := q25
    change (r25 = 0 ∨ r25 = 1) ∧ (r25 = 1 ↔ st 170 3 = 3 ∧ st 170 6 = (37)) at b25
    refine ⟨fun h63 => ?_, fun h63 => (by exfalso; clear hQ; omega)⟩
    clear h63 b25
    refine ⟨fun h64 => ?_, fun h64 => (by exfalso; clear hQ; omega)⟩
    clear h64
    refine ⟨fun h65 => ?_, fun h65 => (by exfalso; clear hQ; omega)⟩
    clear h65
    refine ⟨fun h66 => ?_, fun h66 => (by exfalso; clear hQ; omega)⟩
    clear h66
    refine ⟨fun h67 => ?_, fun h67 => (by exfalso; omega)⟩
    refine ⟨fun h68 => ?_, fun h68 => (by exfalso; omega)⟩
    refine ⟨rfl, fun r26 q26 => ?_⟩
    have b26 := q26
    change (r26 = 0 ∨ r26 = 1) ∧ (r26 = 1 ↔ st 170 3 = 3 ∧ st 170 6 = (44)) at b26
    refine ⟨fun h69 => ?_, fun h69 => (by exfalso; clear hQ; omega)⟩
    clear h69 b26
    refine ⟨fun h70 => ?_, fun h70 => (by exfalso; omega)⟩
    refine ⟨rfl, ⟨hG, (show FR (st 192) (st 193) (st 194) (st 195) (st 196) (st 197) ((k, ph, bg, pr, w ++ []) :: fs) (st 170 42) (st 170 45) from (by rw [List.append_nil]; exact mfr)), (show WB ((k, ph, bg, pr, w ++ []) :: fs) from (by rw [List.append_nil]; exact mwb)), (show RG w (1) from RG_1 _), (show TR [] (1) from TR_nil _), (show CDr (st 170 35) (st 170 34) (st 188) (st 189) (c) from mcd), (show st 170 34 + st 170 45 ≤ 1600 ∧ 0 ≤ st 170 43 ∧ st 170 43 ≤ 7 ∧ st 170 42 ≤ 9 from by omega)⟩, fun s27 q27 => ?_⟩
    obtain ⟨gs27, fs27, yq27, fr27, cd27, op27, cm27⟩ := q27
    change FR (s27 192) (s27 193) (s27 194) (s27 195) (s27 196) (s27 197) ((k, ph, bg, pr, []) :: fs) (s27 170 42) (s27 170 45) at fr27
    have e71 : s27 170 42 = st 170 42 := fs27 170 42 rfl rfl
    have g72 := g_opMany gs27
    change CDr (s27 170 35) (s27 170 34) (s27 188) (s27 189) (c ++ w) at cd27
    have e73 : s27 170 35 = st 170 35 := fs27 170 35 rfl rfl
    have g74 := g_codes gs27
    change s27 170 43 = st 170 43 - nots w at op27
    have g75 := g_open gs27
    change s27 170 34 + s27 170 45 = st 170 34 + st 170 45 at cm27
    have mwj : WB ((k, ph, bg, pr, []) :: fs) := WB_c (by rw [List.length_nil]; omega) (fun x hx => by cases hx) (WB_tl mwb)
    have mbj := FR_bnd _ _ _ mwj fr27
    simp only [List.length_cons] at mbj
    have mcj := cd27.1
    rw [List.length_append] at mcj
    have e76 : s27 170 3 = st 170 3 := fs27 170 3 rfl rfl
    have e77 : s27 170 6 = st 170 6 := fs27 170 6 rfl rfl
    have e78 : s27 170 7 = st 170 7 := fs27 170 7 rfl rfl
    have e79 : s27 170 12 = st 170 12 := fs27 170 12 rfl rfl
    have e80 : s27 170 8 = st 170 8 := fs27 170 8 rfl rfl
    have e81 : s27 170 4 = st 170 4 := fs27 170 4 rfl rfl
    have e82 : s27 170 5 = st 170 5 := fs27 170 5 rfl rfl
    refine ⟨fun h83 => (by exfalso; omega), fun h83 => ?_⟩
    refine ⟨by omega, ?_⟩
    refine ⟨by omega, ?_⟩
    refine ⟨rfl, ⟨(gInv_up (gInv_up gs27 (p_frame (by omega))) (p_phase (by omega))), (show RDr (zup (zup s27 192 ((st 170 42) - 1 : Int).toNat 4) 193 ((st 170 42) - 1 : Int).toNat 0) t n from (show RDr (zup (zup s27 192 ((st 170 42) - 1 : Int).toNat 4) 193 ((st 170 42) - 1 : Int).toNat 0) t n from (RDr_of (fs27 170 2 rfl rfl) (fun i => fs27 171 i rfl rfl) (fs27 170 3 rfl rfl) (fs27 170 4 rfl rfl) (fs27 170 5 rfl rfl) (fs27 170 6 rfl rfl) (fs27 170 7 rfl rfl) (fs27 170 12 rfl rfl) mrd))), (show s27 170 12 = -1 from by omega)⟩, fun s28 q28 => ?_⟩
    obtain ⟨gs28, fs28, rd28, nx28⟩ := q28
    change RDr s28 t n at rd28
    change NXr (zup (zup s27 192 ((st 170 42) - 1 : Int).toNat 4) 193 ((st 170 42) - 1 : Int).toNat 0) s28 t n at nx28
    refine ⟨by omega, ?_⟩
    refine ⟨by omega, ?_⟩
    have e84 : s28 170 8 = s27 170 8 := fs28 170 8 rfl rfl
    have e85 : s28 170 43 = s27 170 43 := fs28 170 43 rfl rfl
    have e86 : s28 170 34 = s27 170 34 := fs28 170 34 rfl rfl
    have e87 : s28 170 45 = s27 170 45 := fs28 170 45 rfl rfl
    have e88 : s28 170 42 = s27 170 42 := fs28 170 42 rfl rfl
    have g89 := g_signAt gs28
    exact hQ _ _ ⟨(gInv_up gs28 (p_operand (by omega))), (fr_f (fr_tr (fr_a (fr_a (fr_tr (fr_rf _ _) fs27 rfl) rfl) rfl) fs28 rfl) rfl), (Z9_up (Z9_tr (Z9_up (Z9_up yq27 (by decide)) (by decide)) ((show aFr m_rGo63 st (zup (zup s27 192 ((st 170 42) - 1 : Int).toNat 4) 193 ((st 170 42) - 1 : Int).toNat 0) from (fr_a (fr_a (fr_tr (fr_rf _ _) fs27 rfl) rfl) rfl)) 170 35 rfl rfl) (Z9_fr fs28 (fun _ => rfl) rfl)) (by decide)), (show (1 : Int) = 1 ∧ mcP t n (zup s28 170 46 0) ((4, 0, bg, pr, []) :: fs) 0 (o) (c ++ w) (e) from (by
            have tkk := ht.1
            have hp : s28 170 4 = e := NXr_e (st := (zup (zup s27 192 ((st 170 42) - 1 : Int).toNat 4) 193 ((st 170 42) - 1 : Int).toNat 0)) (show NXr (zup (zup s27 192 ((st 170 42) - 1 : Int).toNat 4) 193 ((st 170 42) - 1 : Int).toNat 0) s28 t n from nx28) (show tk t n ((zup (zup s27 192 ((st 170 42) - 1 : Int).toNat 4) 193 ((st 170 42) - 1 : Int).toNat 0) 170 4) _ _ e from by rw [show (zup (zup s27 192 ((st 170 42) - 1 : Int).toNat 4) 193 ((st 170 42) - 1 : Int).toNat 0) 170 4 = p from (show s27 170 4 = p from by omega)]; exact tkk) (by omega)
            have hl := tk_lt tkk (show 0 ≤ p from by rw [← mpp]; exact mrd.2.1.1) (by omega)
            refine ⟨rfl, (show s28 170 8 = 0 from by omega), (show (0 : Int) = 0 from rfl), (show s28 170 43 = o from by omega), hp, (show RDr _ t n from rd28), ?_, (show s28 170 34 + s28 170 45 + s28 170 42 ≤ e from by omega), by omega, by omega, by first | omega | (simp only [List.length_cons]; omega) | (simp only [List.length_cons] at mz3 ⊢; omega)⟩
            exact (mcQ_of (fun i => fs28 192 i rfl rfl) (fun i => fs28 193 i rfl rfl) (fun i => fs28 194 i rfl rfl) (fun i => fs28 195 i rfl rfl) (fun i => fs28 196 i rfl rfl) (fun i => fs28 197 i rfl rfl) (fs28 170 42 rfl rfl) (fs28 170 45 rfl rfl) (fs28 170 35 rfl rfl) (fs28 170 34 rfl rfl) (fun i => fs28 188 i rfl rfl) (fun i => fs28 189 i rfl rfl) (show mcQ (zup (zup s27 192 ((st 170 42) - 1 : Int).toNat 4) 193 ((st 170 42) - 1 : Int).toNat 0) ((4, 0, bg, pr, []) :: fs) (c ++ w) from ⟨(by have q := FR_ph 0 (by omega) (FR_kd 4 (by omega) fr27); rw [show (s27 170 42 - 1 : Int).toNat = (st 170 42 - 1 : Int).toNat from by omega] at q; exact q), WB_c (by rw [List.length_nil]; omega) (fun x hx => by cases hx) (WB_tl mwj), cd27⟩))))⟩
theorem k_rGo63_m (hTb : aTb zSh rx_tb cl) {t : Int → Int} {n k ph bg pr o p e : Int} {w c : List Int} {fs : List mFr} {x : Int} {D : Nat} (hD : 3 ≤ D) : ∀ as st (Q Q' : zQ), (∀ r st', Q r st' → Q' r st') → (k_rGo63 t n k ph bg pr o p e w c fs x) 197 as st Q → cl D 197 as st Q' := by
  intro as st Q Q' hQ h
  unfold k_rGo63 at h
  split at h
  · obtain ⟨rfl, h⟩ := h
    exact c_rGo63 hTb hD (ct_rGo63_m hQ h)
  · exact h.elim
set_option maxHeartbeats 4000000 in
set_option maxRecDepth 100000 in
theorem c_rGo66 (hTb : aTb zSh rx_tb cl) {t : Int → Int} {n k ph bg pr o p e : Int} {w c : List Int} {fs : List mFr} {x : Int} {D : Nat} (hD : 3 ≤ D) {st : zS} {Q : zQ} (h : ct_rGo66 t n k ph bg pr o p e w c fs x st Q) : cl D 197 [.inr (.inr (.inl 170))] st Q := by
  obtain ⟨d, rfl⟩ : ∃ d, D = d + 1 := ⟨D - 1, by omega⟩
  refine hTb d 197 (rx_m197, 5, 0, 0, 2) rfl _ _ _ (Nat.le_of_ble_eq_true rfl) (fun K hcl hsf hsl => ?_)
  have hcm : zmo (wcL [(181, k_rLex), (195, k_isTest), (183, k_isWord), (182, k_isSign), (149, k_rNext t n), (189, k_add), (192, k_holdsBack), (191, k_rJoins k ph bg pr w [] fs c)]) (cl d) := (wcL_m (wm_cons (k_rLex_m hTb (by omega)) (wm_cons (k_isTest_m hTb (by omega)) (wm_cons (k_isWord_m hTb (by omega)) (wm_cons (k_isSign_m hTb (by omega)) (wm_cons (k_rNext_m hTb (by omega)) (wm_cons (k_add_m hTb (by omega)) (wm_cons (k_holdsBack_m hTb (by omega)) (wm_cons (k_rJoins_m hTb (by omega)) wm_nil)))))))))
  obtain ⟨hR, hQ⟩ := h
  obtain ⟨hG, mp, ht⟩ := hR
  change mcP t n st ((k, ph, bg, pr, w) :: fs) 1 (x) (c) (p) at mp
  change tk t n p 3 44 e ∧ k = 6 ∧ x = o + nots w ∧ 0 ≤ o ∧ ¬ ph = 0 at ht
  obtain ⟨mf, mo, mn, mpp, mrd, mq, mbd, mz1, mz2, mz3⟩ := mp
  simp only [List.length_cons] at mz3
  have mq0 := mq
  obtain ⟨mfr, mwb, mcd⟩ := mq
  have mt := FR_top mfr
  have mb := FR_bnd _ _ _ mwb mfr
  simp only [List.length_cons] at mb
  have ml := WB_hd mwb
  have mcl := mcd.1
  have mlw := FR_len mb.2.1 mfr
  have mnb := nots_b w
  have tf := r_sig mrd (by rw [mpp]; exact ht.1)
  have tkT : k = 1 ∨ k = 5 ∨ k = 6 := Or.inr (Or.inr ht.2.1)
  have g1 := g_codes hG
  have g2 := g_in hG
  have g3 := g_isClever hG
  have g4 := g_deep hG
  have g5 := g_open hG
  have g6 := g_opMany hG
  have g7 := g_signAt hG
  have g8 := g_signEnd hG
  have g9 := g_faultKind hG
  have g10 := g_size hG
  have g11 := g_sign hG
  have g12 := g_lexAt hG
  have g13 := g_value hG
  have g14 := g_word hG
  have g15 := g_operand hG
  refine yr1_ok (Rt := Q) (wc := (wcL [(181, k_rLex), (195, k_isTest), (183, k_isWord), (182, k_isSign), (149, k_rNext t n), (189, k_add), (192, k_holdsBack), (191, k_rJoins k ph bg pr w [] fs c)])) (stp := []) hcm hcl [] 500 ?_
  show (170 = 170 ∧ (rq_rLex  st ∧ (((st 170 8 ≤ (0 : Int) → ((-2147483648 ≤ (st 170 42) - 1 ∧ (st 170 42) - 1 ≤ 2147483647) ∧ ((0 ≤ (st 170 42) - 1 ∧ (st 170 42) - 1 < 20) ∧ (∀ (r17 : Int), en_isTest (st 192 ((st 170 42) - 1 : Int).toNat) st r17 → ((0 ≤ (st 170 42) - 1 ∧ (st 170 42) - 1 < 20) ∧ (((2 : Int) ≤ st 193 ((st 170 42) - 1 : Int).toNat → ((r17 = (0 : Int) → _) ∧ (¬ (r17 = (0 : Int)) → ((0 ≤ (st 170 42) - 1 ∧ (st 170 42) - 1 < 20) ∧ ((¬ st 193 ((st 170 42) - 1 : Int).toNat = (0 : Int) → ((r17 = (0 : Int) → _) ∧ (¬ (r17 = (0 : Int)) → (170 = 170 ∧ (∀ (r18 : Int), en_isWord (6385252) st r18 → ((¬ r18 = (0 : Int) → _) ∧ (¬ (¬ r18 = (0 : Int)) → (170 = 170 ∧ (∀ (r19 : Int), en_isWord (28530) st r19 → ((r19 = (0 : Int) → ((r17 = (0 : Int) → _) ∧ (¬ (r17 = (0 : Int)) → ((0 ≤ (st 170 42) - 1 ∧ (st 170 42) - 1 < 20) ∧ ((¬ st 193 ((st 170 42) - 1 : Int).toNat = (0 : Int) → (((2 : Int) ≤ st 192 ((st 170 42) - 1 : Int).toNat → ((st 192 ((st 170 42) - 1 : Int).toNat = (3 : Int) → _) ∧ (¬ (st 192 ((st 170 42) - 1 : Int).toNat = (3 : Int)) → ((¬ st 192 ((st 170 42) - 1 : Int).toNat = (6 : Int) → _) ∧ (¬ (¬ st 192 ((st 170 42) - 1 : Int).toNat = (6 : Int)) → (170 = 170 ∧ (∀ (r20 : Int), en_isSign (44) st r20 → ((¬ r20 = (0 : Int) → ((st 170 8 ≤ (0 : Int) → (170 = 170 ∧ (rq_rJoins k ph bg pr w [] fs c (1) st ∧ (∀ (s21 : zS), en_rJoins k ph bg pr w [] fs c (1) st s21 → ((¬ st 192 ((st 170 42) - 1 : Int).toNat = (3 : Int) → ((0 ≤ (st 170 42) - 1 ∧ (st 170 42) - 1 < 20) ∧ ((0 ≤ (st 170 42) - 1 ∧ (st 170 42) - 1 < 20) ∧ (170 = 170 ∧ (rq_rNext t n  (zup (zup s21 192 ((st 170 42) - 1 : Int).toNat 3) 193 ((st 170 42) - 1 : Int).toNat 0) ∧ (∀ (s22 : zS), en_rNext t n  (zup (zup s21 192 ((st 170 42) - 1 : Int).toNat 3) 193 ((st 170 42) - 1 : Int).toNat 0) s22 → ((0 = (0 : Int) ∨ 0 = (1 : Int)) ∧ ((1 = (0 : Int) ∨ 1 = (1 : Int)) ∧ Q (some (.inl 1)) (zup s22 170 46 0))))))))) ∧ (¬ (¬ st 192 ((st 170 42) - 1 : Int).toNat = (3 : Int)) → _)))))) ∧ (¬ (st 170 8 ≤ (0 : Int)) → _))) ∧ (¬ (¬ r20 = (0 : Int)) → _))))))))) ∧ (¬ ((2 : Int) ≤ st 192 ((st 170 42) - 1 : Int).toNat) → _))) ∧ (¬ (¬ st 193 ((st 170 42) - 1 : Int).toNat = (0 : Int)) → _)))))) ∧ (¬ (r19 = (0 : Int)) → _))))))))))) ∧ (¬ (¬ st 193 ((st 170 42) - 1 : Int).toNat = (0 : Int)) → _)))))) ∧ (¬ ((2 : Int) ≤ st 193 ((st 170 42) - 1 : Int).toNat) → (170 = 170 ∧ (∀ (r23 : Int), en_isSign (43) st r23 → ((¬ r23 = (0 : Int) → _) ∧ (¬ (¬ r23 = (0 : Int)) → (170 = 170 ∧ (∀ (r24 : Int), en_isSign (45) st r24 → ((¬ r24 = (0 : Int) → _) ∧ (¬ (¬ r24 = (0 : Int)) → (170 = 170 ∧ (∀ (r25 : Int), en_isSign (42) st r25 → ((¬ r25 = (0 : Int) → _) ∧ (¬ (¬ r25 = (0 : Int)) → (170 = 170 ∧ (∀ (r26 : Int), en_isSign (47) st r26 → ((¬ r26 = (0 : Int) → _) ∧ (¬ (¬ r26 = (0 : Int)) → (170 = 170 ∧ (∀ (r27 : Int), en_isSign (37) st r27 → ((r27 = (0 : Int) → ((r17 = (0 : Int) → _) ∧ (¬ (r17 = (0 : Int)) → ((0 ≤ (st 170 42) - 1 ∧ (st 170 42) - 1 < 20) ∧ ((¬ st 193 ((st 170 42) - 1 : Int).toNat = (0 : Int) → ((r17 = (0 : Int) → _) ∧ (¬ (r17 = (0 : Int)) → (170 = 170 ∧ (∀ (r28 : Int), en_isWord (6385252) st r28 → ((¬ r28 = (0 : Int) → _) ∧ (¬ (¬ r28 = (0 : Int)) → (170 = 170 ∧ (∀ (r29 : Int), en_isWord (28530) st r29 → ((r29 = (0 : Int) → ((r17 = (0 : Int) → _) ∧ (¬ (r17 = (0 : Int)) → ((0 ≤ (st 170 42) - 1 ∧ (st 170 42) - 1 < 20) ∧ ((¬ st 193 ((st 170 42) - 1 : Int).toNat = (0 : Int) → (((2 : Int) ≤ st 192 ((st 170 42) - 1 : Int).toNat → ((st 192 ((st 170 42) - 1 : Int).toNat = (3 : Int) → _) ∧ (¬ (st 192 ((st 170 42) - 1 : Int).toNat = (3 : Int)) → ((¬ st 192 ((st 170 42) - 1 : Int).toNat = (6 : Int) → _) ∧ (¬ (¬ st 192 ((st 170 42) - 1 : Int).toNat = (6 : Int)) → (170 = 170 ∧ (∀ (r30 : Int), en_isSign (44) st r30 → ((¬ r30 = (0 : Int) → ((st 170 8 ≤ (0 : Int) → (170 = 170 ∧ (rq_rJoins k ph bg pr w [] fs c (1) st ∧ (∀ (s31 : zS), en_rJoins k ph bg pr w [] fs c (1) st s31 → ((¬ st 192 ((st 170 42) - 1 : Int).toNat = (3 : Int) → ((0 ≤ (st 170 42) - 1 ∧ (st 170 42) - 1 < 20) ∧ ((0 ≤ (st 170 42) - 1 ∧ (st 170 42) - 1 < 20) ∧ (170 = 170 ∧ (rq_rNext t n  (zup (zup s31 192 ((st 170 42) - 1 : Int).toNat 3) 193 ((st 170 42) - 1 : Int).toNat 0) ∧ (∀ (s32 : zS), en_rNext t n  (zup (zup s31 192 ((st 170 42) - 1 : Int).toNat 3) 193 ((st 170 42) - 1 : Int).toNat 0) s32 → ((0 = (0 : Int) ∨ 0 = (1 : Int)) ∧ ((1 = (0 : Int) ∨ 1 = (1 : Int)) ∧ Q (some (.inl 1)) (zup s32 170 46 0))))))))) ∧ (¬ (¬ st 192 ((st 170 42) - 1 : Int).toNat = (3 : Int)) → _)))))) ∧ (¬ (st 170 8 ≤ (0 : Int)) → _))) ∧ (¬ (¬ r30 = (0 : Int)) → _))))))))) ∧ (¬ ((2 : Int) ≤ st 192 ((st 170 42) - 1 : Int).toNat) → _))) ∧ (¬ (¬ st 193 ((st 170 42) - 1 : Int).toNat = (0 : Int)) → _)))))) ∧ (¬ (r29 = (0 : Int)) → _))))))))))) ∧ (¬ (¬ st 193 ((st 170 42) - 1 : Int).toNat = (0 : Int)) → _)))))) ∧ (¬ (r27 = (0 : Int)) → _))))))))))))))))))))))))))) ∧ (¬ (st 170 8 ≤ (0 : Int)) → _)))))
  refine ⟨rfl, ⟨hG, (show st 170 12 = -1 from by omega)⟩, ?_⟩
  refine ⟨fun h33 => ?_, fun h33 => (by exfalso; omega)⟩
  refine ⟨by omega, ?_⟩
  have g34 := g_frame hG ((st 170 42) - 1 : Int).toNat
  refine ⟨by omega, ?_⟩
  refine fun r17 q17 => ?_
  have b17 := q17
  change (r17 = 0 ∨ r17 = 1) ∧ (r17 = 1 ↔ (st 192 ((st 170 42) - 1 : Int).toNat) = 1 ∨ (st 192 ((st 170 42) - 1 : Int).toNat) = 5 ∨ (st 192 ((st 170 42) - 1 : Int).toNat) = 6) at b17
  have g35 := g_phase hG ((st 170 42) - 1 : Int).toNat
  refine ⟨by omega, ?_⟩
  refine ⟨fun h36 => ?_, fun h36 => ?_⟩
  · refine ⟨fun h37 => (by exfalso; clear hQ; omega), fun h37 => ?_⟩
    clear h37
    refine ⟨by omega, ?_⟩
    refine ⟨fun h38 => ?_, fun h38 => (by exfalso; omega)⟩
    refine ⟨fun h39 => (by exfalso; clear hQ; omega), fun h39 => ?_⟩
    clear h39
    refine ⟨rfl, fun r18 q18 => ?_⟩
    have b18 := q18
    change (r18 = 0 ∨ r18 = 1) ∧ (r18 = 1 ↔ st 170 3 = 1 ∧ st 170 7 = (6385252)) at b18
    refine ⟨fun h40 => (by exfalso; clear hQ; omega), fun h40 => ?_⟩
    clear h40 b18
    refine ⟨rfl, fun r19 q19 => ?_⟩
    have b19 := q19
    change (r19 = 0 ∨ r19 = 1) ∧ (r19 = 1 ↔ st 170 3 = 1 ∧ st 170 7 = (28530)) at b19
    refine ⟨fun h41 => ?_, fun h41 => (by exfalso; clear hQ; omega)⟩
    clear h41 b19
    refine ⟨fun h42 => (by exfalso; clear hQ; omega), fun h42 => ?_⟩
    clear h42
    refine ⟨by omega, ?_⟩
    refine ⟨fun h43 => ?_, fun h43 => (by exfalso; omega)⟩
    refine ⟨fun h44 => ?_, fun h44 => (by exfalso; omega)⟩
    refine ⟨fun h45 => (by exfalso; omega), fun h45 => ?_⟩
    refine ⟨fun h46 => (by exfalso; omega), fun h46 => ?_⟩
    refine ⟨rfl, fun r20 q20 => ?_⟩
    have b20 := q20
    change (r20 = 0 ∨ r20 = 1) ∧ (r20 = 1 ↔ st 170 3 = 3 ∧ st 170 6 = (44)) at b20
    refine ⟨fun h47 => ?_, fun h47 => (by exfalso; clear hQ; omega)⟩
    clear h47 b20
    refine ⟨fun h48 => ?_, fun h48 => (by exfalso; omega)⟩
    refine ⟨rfl, ⟨hG, (show FR (st 192) (st 193) (st 194) (st 195) (st 196) (st 197) ((k, ph, bg, pr, w ++ []) :: fs) (st 170 42) (st 170 45) from (by rw [List.append_nil]; exact mfr)), (show WB ((k, ph, bg, pr, w ++ []) :: fs) from (by rw [List.append_nil]; exact mwb)), (show RG w (1) from RG_1 _), (show TR [] (1) from TR_nil _), (show CDr (st 170 35) (st 170 34) (st 188) (st 189) (c) from mcd), (show st 170 34 + st 170 45 ≤ 1600 ∧ 0 ≤ st 170 43 ∧ st 170 43 ≤ 7 ∧ st 170 42 ≤ 9 from by omega)⟩, fun s21 q21 => ?_⟩
    obtain ⟨gs21, fs21, yq21, fr21, cd21, op21, cm21⟩ := q21
    change FR (s21 192) (s21 193) (s21 194) (s21 195) (s21 196) (s21 197) ((k, ph, bg, pr, []) :: fs) (s21 170 42) (s21 170 45) at fr21
    have e49 : s21 170 42 = st 170 42 := fs21 170 42 rfl rfl
    have g50 := g_opMany gs21
    change CDr (s21 170 35) (s21 170 34) (s21 188) (s21 189) (c ++ w) at cd21
    have e51 : s21 170 35 = st 170 35 := fs21 170 35 rfl rfl
    have g52 := g_codes gs21
    change s21 170 43 = st 170 43 - nots w at op21
    have g53 := g_open gs21
    change s21 170 34 + s21 170 45 = st 170 34 + st 170 45 at cm21
    have mwj : WB ((k, ph, bg, pr, []) :: fs) := WB_c (by rw [List.length_nil]; omega) (fun x hx => by cases hx) (WB_tl mwb)
    have mbj := FR_bnd _ _ _ mwj fr21
    simp only [List.length_cons] at mbj
    have mcj := cd21.1
    rw [List.length_append] at mcj
    have e54 : s21 170 3 = st 170 3 := fs21 170 3 rfl rfl
    have e55 : s21 170 6 = st 170 6 := fs21 170 6 rfl rfl
    have e56 : s21 170 7 = st 170 7 := fs21 170 7 rfl rfl
    have e57 : s21 170 12 = st 170 12 := fs21 170 12 rfl rfl
    have e58 : s21 170 8 = st 170 8 := fs21 170 8 rfl rfl
    have e59 : s21 170 4 = st 170 4 := fs21 170 4 rfl rfl
    have e60 : s21 170 5 = st 170 5 := fs21 170 5 rfl rfl
    refine ⟨fun h61 => ?_, fun h61 => (by exfalso; omega)⟩
    refine ⟨by omega, ?_⟩
    refine ⟨by omega, ?_⟩
    refine ⟨rfl, ⟨(gInv_up (gInv_up gs21 (p_frame (by omega))) (p_phase (by omega))), (show RDr (zup (zup s21 192 ((st 170 42) - 1 : Int).toNat 3) 193 ((st 170 42) - 1 : Int).toNat 0) t n from (show RDr (zup (zup s21 192 ((st 170 42) - 1 : Int).toNat 3) 193 ((st 170 42) - 1 : Int).toNat 0) t n from (RDr_of (fs21 170 2 rfl rfl) (fun i => fs21 171 i rfl rfl) (fs21 170 3 rfl rfl) (fs21 170 4 rfl rfl) (fs21 170 5 rfl rfl) (fs21 170 6 rfl rfl) (fs21 170 7 rfl rfl) (fs21 170 12 rfl rfl) mrd))), (show s21 170 12 = -1 from by omega)⟩, fun s22 q22 => ?_⟩
    obtain ⟨gs22, fs22, rd22, nx22⟩ := q22
    change RDr s22 t n at rd22
    change NXr (zup (zup s21 192 ((st 170 42) - 1 : Int).toNat 3) 193 ((st 170 42) - 1 : Int).toNat 0) s22 t n at nx22
    refine ⟨by omega, ?_⟩
    refine ⟨by omega, ?_⟩
    have e62 : s22 170 8 = s21 170 8 := fs22 170 8 rfl rfl
    have e63 : s22 170 43 = s21 170 43 := fs22 170 43 rfl rfl
    have e64 : s22 170 34 = s21 170 34 := fs22 170 34 rfl rfl
    have e65 : s22 170 45 = s21 170 45 := fs22 170 45 rfl rfl
    have e66 : s22 170 42 = s21 170 42 := fs22 170 42 rfl rfl
    have g67 := g_signAt gs22
    exact hQ _ _ ⟨(gInv_up gs22 (p_operand (by omega))), (fr_f (fr_tr (fr_a (fr_a (fr_tr (fr_rf _ _) fs21 rfl) rfl) rfl) fs22 rfl) rfl), (Z9_up (Z9_tr (Z9_up (Z9_up yq21 (by decide)) (by decide)) ((show aFr m_rGo66 st (zup (zup s21 192 ((st 170 42) - 1 : Int).toNat 3) 193 ((st 170 42) - 1 : Int).toNat 0) from (fr_a (fr_a (fr_tr (fr_rf _ _) fs21 rfl) rfl) rfl)) 170 35 rfl rfl) (Z9_fr fs22 (fun _ => rfl) rfl)) (by decide)), (show (1 : Int) = 1 ∧ mcP t n (zup s22 170 46 0) ((3, 0, bg, pr, []) :: fs) 0 (o) (c ++ w) (e) from (by
            have tkk := ht.1
            have hp : s22 170 4 = e := NXr_e (st := (zup (zup s21 192 ((st 170 42) - 1 : Int).toNat 3) 193 ((st 170 42) - 1 : Int).toNat 0)) (show NXr (zup (zup s21 192 ((st 170 42) - 1 : Int).toNat 3) 193 ((st 170 42) - 1 : Int).toNat 0) s22 t n from nx22) (show tk t n ((zup (zup s21 192 ((st 170 42) - 1 : Int).toNat 3) 193 ((st 170 42) - 1 : Int).toNat 0) 170 4) _ _ e from by rw [show (zup (zup s21 192 ((st 170 42) - 1 : Int).toNat 3) 193 ((st 170 42) - 1 : Int).toNat 0) 170 4 = p from (show s21 170 4 = p from by omega)]; exact tkk) (by omega)
            have hl := tk_lt tkk (show 0 ≤ p from by rw [← mpp]; exact mrd.2.1.1) (by omega)
            refine ⟨rfl, (show s22 170 8 = 0 from by omega), (show (0 : Int) = 0 from rfl), (show s22 170 43 = o from by omega), hp, (show RDr _ t n from rd22), ?_, (show s22 170 34 + s22 170 45 + s22 170 42 ≤ e from by omega), by omega, by omega, by first | omega | (simp only [List.length_cons]; omega) | (simp only [List.length_cons] at mz3 ⊢; omega)⟩
            exact (mcQ_of (fun i => fs22 192 i rfl rfl) (fun i => fs22 193 i rfl rfl) (fun i => fs22 194 i rfl rfl) (fun i => fs22 195 i rfl rfl) (fun i => fs22 196 i rfl rfl) (fun i => fs22 197 i rfl rfl) (fs22 170 42 rfl rfl) (fs22 170 45 rfl rfl) (fs22 170 35 rfl rfl) (fs22 170 34 rfl rfl) (fun i => fs22 188 i rfl rfl) (fun i => fs22 189 i rfl rfl) (show mcQ (zup (zup s21 192 ((st 170 42) - 1 : Int).toNat 3) 193 ((st 170 42) - 1 : Int).toNat 0) ((3, 0, bg, pr, []) :: fs) (c ++ w) from ⟨(by have q := FR_ph 0 (by omega) (FR_kd 3 (by omega) fr21); rw [show (s21 170 42 - 1 : Int).toNat = (st 170 42 - 1 : Int).toNat from by omega] at q; exact q), WB_c (by rw [List.length_nil]; omega) (fun x hx => by cases hx) (WB_tl mwj), cd21⟩))))⟩
  · refine ⟨rfl, fun r23 q23 => ?_⟩
    have b23 := q23
    change (r23 = 0 ∨ r23 = 1) ∧ (r23 = 1 ↔ st 170 3 = 3 ∧ st 170 6 = (43)) at b23
    refine ⟨fun h68 => (by exfalso; clear hQ; omega), fun h68 => ?_⟩
    clear h68 b23
    refine ⟨rfl, fun r24 q24 => ?_⟩
    have b24 := q24
    change (r24 = 0 ∨ r24 = 1) ∧ (r24 = 1 ↔ st 170 3 = 3 ∧ st 170 6 = (45)) at b24
    refine ⟨fun h69 => (by exfalso; clear hQ; omega), fun h69 => ?_⟩
    clear h69 b24
    refine ⟨rfl, fun r25 q25 => ?_⟩
    have b25 := q25
    change (r25 = 0 ∨ r25 = 1) ∧ (r25 = 1 ↔ st 170 3 = 3 ∧ st 170 6 = (42)) at b25
    refine ⟨fun h70 => (by exfalso; clear hQ; omega), fun h70 => ?_⟩
    clear h70 b25
    refine ⟨rfl, fun r26 q26 => ?_⟩
    have b26 := q26
    change (r26 = 0 ∨ r26 = 1) ∧ (r26 = 1 ↔ st 170 3 = 3 ∧ st 170 6 = (47)) at b26
    refine ⟨fun h71 => (by exfalso; clear hQ; omega), fun h71 => ?_⟩
    clear h71 b26
    refine ⟨rfl, fun r27 q27 => ?_⟩
    have b27 := q27
    change (r27 = 0 ∨ r27 = 1) ∧ (r27 = 1 ↔ st 170 3 = 3 ∧ st 170 6 = (37)) at b27
    refine ⟨fun h72 => ?_, fun h72 => (by exfalso; clear hQ; omega)⟩
    clear h72 b27
    refine ⟨fun h73 => (by exfalso; clear hQ; omega), fun h73 => ?_⟩
    clear h73
    refine ⟨by omega, ?_⟩
    refine ⟨fun h74 => ?_, fun h74 => (by exfalso; omega)⟩
    refine ⟨fun h75 => (by exfalso; clear hQ; omega), fun h75 => ?_⟩
    clear h75
    refine ⟨rfl, fun r28 q28 => ?_⟩
    have b28 := q28
    change (r28 = 0 ∨ r28 = 1) ∧ (r28 = 1 ↔ st 170 3 = 1 ∧ st 170 7 = (6385252)) at b28
    refine ⟨fun h76 => (by exfalso; clear hQ; omega), fun h76 => ?_⟩
    clear h76 b28
    refine ⟨rfl, fun r29 q29 => ?_⟩
    have b29 := q29
    change (r29 = 0 ∨ r29 = 1) ∧ (r29 = 1 ↔ st 170 3 = 1 ∧ st 170 7 = (28530)) at b29
    refine ⟨fun h77 => ?_, fun h77 => (by exfalso; clear hQ; omega)⟩
    clear h77 b29
    refine ⟨fun h78 => (by exfalso; clear hQ; omega), fun h78 => ?_⟩
    clear h78
    refine ⟨by omega, ?_⟩
    refine ⟨fun h79 => ?_, fun h79 => (by exfalso; omega)⟩
    refine ⟨fun h80 => ?_, fun h80 => (by exfalso; omega)⟩
    refine ⟨fun h81 => (by exfalso; omega), fun h81 => ?_⟩
    refine ⟨fun h82 => (by exfalso; omega), fun h82 => ?_⟩
    refine ⟨rfl, fun r30 q30 => ?_⟩
    have b30 := q30
    change (r30 = 0 ∨ r30 = 1) ∧ (r30 = 1 ↔ st 170 3 = 3 ∧ st 170 6 = (44)) at b30
    refine ⟨fun h83 => ?_, fun h83 => (by exfalso; clear hQ; omega)⟩
    clear h83 b30
    refine ⟨fun h84 => ?_, fun h84 => (by exfalso; omega)⟩
    refine ⟨rfl, ⟨hG, (show FR (st 192) (st 193) (st 194) (st 195) (st 196) (st 197) ((k, ph, bg, pr, w ++ []) :: fs) (st 170 42) (st 170 45) from (by rw [List.append_nil]; exact mfr)), (show WB ((k, ph, bg, pr, w ++ []) :: fs) from (by rw [List.append_nil]; exact mwb)), (show RG w (1) from RG_1 _), (show TR [] (1) from TR_nil _), (show CDr (st 170 35) (st 170 34) (st 188) (st 189) (c) from mcd), (show st 170 34 + st 170 45 ≤ 1600 ∧ 0 ≤ st 170 43 ∧ st 170 43 ≤ 7 ∧ st 170 42 ≤ 9 from by omega)⟩, fun s31 q31 => ?_⟩
    obtain ⟨gs31, fs31, yq31, fr31, cd31, op31, cm31⟩ := q31
    change FR (s31 192) (s31 193) (s31 194) (s31 195) (s31 196) (s31 197) ((k, ph, bg, pr, []) :: fs) (s31 170 42) (s31 170 45) at fr31
    have e85 : s31 170 42 = st 170 42 := fs31 170 42 rfl rfl
    have g86 := g_opMany gs31
    change CDr (s31 170 35) (s31 170 34) (s31 188) (s31 189) (c ++ w) at cd31
    have e87 : s31 170 35 = st 170 35 := fs31 170 35 rfl rfl
    have g88 := g_codes gs31
    change s31 170 43 = st 170 43 - nots w at op31
    have g89 := g_open gs31
    change s31 170 34 + s31 170 45 = st 170 34 + st 170 45 at cm31
    have mwj : WB ((k, ph, bg, pr, []) :: fs) := WB_c (by rw [List.length_nil]; omega) (fun x hx => by cases hx) (WB_tl mwb)
    have mbj := FR_bnd _ _ _ mwj fr31
    simp only [List.length_cons] at mbj
    have mcj := cd31.1
    rw [List.length_append] at mcj
    have e90 : s31 170 3 = st 170 3 := fs31 170 3 rfl rfl
    have e91 : s31 170 6 = st 170 6 := fs31 170 6 rfl rfl
    have e92 : s31 170 7 = st 170 7 := fs31 170 7 rfl rfl
    have e93 : s31 170 12 = st 170 12 := fs31 170 12 rfl rfl
    have e94 : s31 170 8 = st 170 8 := fs31 170 8 rfl rfl
    have e95 : s31 170 4 = st 170 4 := fs31 170 4 rfl rfl
    have e96 : s31 170 5 = st 170 5 := fs31 170 5 rfl rfl
    refine ⟨fun h97 => ?_, fun h97 => (by exfalso; omega)⟩
    refine ⟨by omega, ?_⟩
    refine ⟨by omega, ?_⟩
    refine ⟨rfl, ⟨(gInv_up (gInv_up gs31 (p_frame (by omega))) (p_phase (by omega))), (show RDr (zup (zup s31 192 ((st 170 42) - 1 : Int).toNat 3) 193 ((st 170 42) - 1 : Int).toNat 0) t n from (show RDr (zup (zup s31 192 ((st 170 42) - 1 : Int).toNat 3) 193 ((st 170 42) - 1 : Int).toNat 0) t n from (RDr_of (fs31 170 2 rfl rfl) (fun i => fs31 171 i rfl rfl) (fs31 170 3 rfl rfl) (fs31 170 4 rfl rfl) (fs31 170 5 rfl rfl) (fs31 170 6 rfl rfl) (fs31 170 7 rfl rfl) (fs31 170 12 rfl rfl) mrd))), (show s31 170 12 = -1 from by omega)⟩, fun s32 q32 => ?_⟩
    obtain ⟨gs32, fs32, rd32, nx32⟩ := q32
    change RDr s32 t n at rd32
    change NXr (zup (zup s31 192 ((st 170 42) - 1 : Int).toNat 3) 193 ((st 170 42) - 1 : Int).toNat 0) s32 t n at nx32
    refine ⟨by omega, ?_⟩
    refine ⟨by omega, ?_⟩
    have e98 : s32 170 8 = s31 170 8 := fs32 170 8 rfl rfl
    have e99 : s32 170 43 = s31 170 43 := fs32 170 43 rfl rfl
    have e100 : s32 170 34 = s31 170 34 := fs32 170 34 rfl rfl
    have e101 : s32 170 45 = s31 170 45 := fs32 170 45 rfl rfl
    have e102 : s32 170 42 = s31 170 42 := fs32 170 42 rfl rfl
    have g103 := g_signAt gs32
    exact hQ _ _ ⟨(gInv_up gs32 (p_operand (by omega))), (fr_f (fr_tr (fr_a (fr_a (fr_tr (fr_rf _ _) fs31 rfl) rfl) rfl) fs32 rfl) rfl), (Z9_up (Z9_tr (Z9_up (Z9_up yq31 (by decide)) (by decide)) ((show aFr m_rGo66 st (zup (zup s31 192 ((st 170 42) - 1 : Int).toNat 3) 193 ((st 170 42) - 1 : Int).toNat 0) from (fr_a (fr_a (fr_tr (fr_rf _ _) fs31 rfl) rfl) rfl)) 170 35 rfl rfl) (Z9_fr fs32 (fun _ => rfl) rfl)) (by decide)), (show (1 : Int) = 1 ∧ mcP t n (zup s32 170 46 0) ((3, 0, bg, pr, []) :: fs) 0 (o) (c ++ w) (e) from (by
            have tkk := ht.1
            have hp : s32 170 4 = e := NXr_e (st := (zup (zup s31 192 ((st 170 42) - 1 : Int).toNat 3) 193 ((st 170 42) - 1 : Int).toNat 0)) (show NXr (zup (zup s31 192 ((st 170 42) - 1 : Int).toNat 3) 193 ((st 170 42) - 1 : Int).toNat 0) s32 t n from nx32) (show tk t n ((zup (zup s31 192 ((st 170 42) - 1 : Int).toNat 3) 193 ((st 170 42) - 1 : Int).toNat 0) 170 4) _ _ e from by rw [show (zup (zup s31 192 ((st 170 42) - 1 : Int).toNat 3) 193 ((st 170 42) - 1 : Int).toNat 0) 170 4 = p from (show s31 170 4 = p from by omega)]; exact tkk) (by omega)
            have hl := tk_lt tkk (show 0 ≤ p from by rw [← mpp]; exact mrd.2.1.1) (by omega)
            refine ⟨rfl, (show s32 170 8 = 0 from by omega), (show (0 : Int) = 0 from rfl), (show s32 170 43 = o from by omega), hp, (show RDr _ t n from rd32), ?_, (show s32 170 34 + s32 170 45 + s32 170 42 ≤ e from by omega), by omega, by omega, by first | omega | (simp only [List.length_cons]; omega) | (simp only [List.length_cons] at mz3 ⊢; omega)⟩
            exact (mcQ_of (fun i => fs32 192 i rfl rfl) (fun i => fs32 193 i rfl rfl) (fun i => fs32 194 i rfl rfl) (fun i => fs32 195 i rfl rfl) (fun i => fs32 196 i rfl rfl) (fun i => fs32 197 i rfl rfl) (fs32 170 42 rfl rfl) (fs32 170 45 rfl rfl) (fs32 170 35 rfl rfl) (fs32 170 34 rfl rfl) (fun i => fs32 188 i rfl rfl) (fun i => fs32 189 i rfl rfl) (show mcQ (zup (zup s31 192 ((st 170 42) - 1 : Int).toNat 3) 193 ((st 170 42) - 1 : Int).toNat 0) ((3, 0, bg, pr, []) :: fs) (c ++ w) from ⟨(by have q := FR_ph 0 (by omega) (FR_kd 3 (by omega) fr31); rw [show (s31 170 42 - 1 : Int).toNat = (st 170 42 - 1 : Int).toNat from by omega] at q; exact q), WB_c (by rw [List.length_nil]; omega) (fun x hx => by cases hx) (WB_tl mwj), cd31⟩))))⟩
theorem k_rGo66_m (hTb : aTb zSh rx_tb cl) {t : Int → Int} {n k ph bg pr o p e : Int} {w c : List Int} {fs : List mFr} {x : Int} {D : Nat} (hD : 3 ≤ D) : ∀ as st (Q Q' : zQ), (∀ r st', Q r st' → Q' r st') → (k_rGo66 t n k ph bg pr o p e w c fs x) 197 as st Q → cl D 197 as st Q' := by
  intro as st Q Q' hQ h
  unfold k_rGo66 at h
  split at h
  · obtain ⟨rfl, h⟩ := h
    exact c_rGo66 hTb hD (ct_rGo66_m hQ h)
  · exact h.elim
set_option maxHeartbeats 4000000 in
set_option maxRecDepth 100000 in
theorem c_rGo72 (hTb : aTb zSh rx_tb cl) {t : Int → Int} {n k ph bg pr o p e : Int} {w c : List Int} {fs : List mFr} {x : Int} {D : Nat} (hD : 3 ≤ D) {st : zS} {Q : zQ} (h : ct_rGo72 t n k ph bg pr o p e w c fs x st Q) : cl D 197 [.inr (.inr (.inl 170))] st Q := by
  obtain ⟨d, rfl⟩ : ∃ d, D = d + 1 := ⟨D - 1, by omega⟩
  refine hTb d 197 (rx_m197, 5, 0, 0, 2) rfl _ _ _ (Nat.le_of_ble_eq_true rfl) (fun K hcl hsf hsl => ?_)
  have hcm : zmo (wcL [(181, k_rLex), (195, k_isTest), (183, k_isWord), (182, k_isSign), (149, k_rNext t n), (189, k_add), (192, k_holdsBack), (191, k_rJoins k ph bg pr w [] fs c)]) (cl d) := (wcL_m (wm_cons (k_rLex_m hTb (by omega)) (wm_cons (k_isTest_m hTb (by omega)) (wm_cons (k_isWord_m hTb (by omega)) (wm_cons (k_isSign_m hTb (by omega)) (wm_cons (k_rNext_m hTb (by omega)) (wm_cons (k_add_m hTb (by omega)) (wm_cons (k_holdsBack_m hTb (by omega)) (wm_cons (k_rJoins_m hTb (by omega)) wm_nil)))))))))
  obtain ⟨hR, hQ⟩ := h
  obtain ⟨hG, mp, ht⟩ := hR
  change mcP t n st ((k, ph, bg, pr, w) :: fs) 1 (x) (c) (p) at mp
  change tk t n p 3 41 e ∧ k = 2 ∧ x = o + 1 + nots w ∧ 0 ≤ o at ht
  obtain ⟨mf, mo, mn, mpp, mrd, mq, mbd, mz1, mz2, mz3⟩ := mp
  simp only [List.length_cons] at mz3
  have mq0 := mq
  obtain ⟨mfr, mwb, mcd⟩ := mq
  have mt := FR_top mfr
  have mb := FR_bnd _ _ _ mwb mfr
  simp only [List.length_cons] at mb
  have ml := WB_hd mwb
  have mcl := mcd.1
  have mlw := FR_len mb.2.1 mfr
  have mnb := nots_b w
  have tf := r_sig mrd (by rw [mpp]; exact ht.1)
  have g1 := g_codes hG
  have g2 := g_in hG
  have g3 := g_isClever hG
  have g4 := g_deep hG
  have g5 := g_open hG
  have g6 := g_opMany hG
  have g7 := g_signAt hG
  have g8 := g_signEnd hG
  have g9 := g_faultKind hG
  have g10 := g_size hG
  have g11 := g_sign hG
  have g12 := g_lexAt hG
  have g13 := g_value hG
  have g14 := g_word hG
  have g15 := g_operand hG
  refine yr1_ok (Rt := Q) (wc := (wcL [(181, k_rLex), (195, k_isTest), (183, k_isWord), (182, k_isSign), (149, k_rNext t n), (189, k_add), (192, k_holdsBack), (191, k_rJoins k ph bg pr w [] fs c)])) (stp := []) hcm hcl [] 500 ?_
  show (170 = 170 ∧ (rq_rLex  st ∧ (((st 170 8 ≤ (0 : Int) → ((-2147483648 ≤ (st 170 42) - 1 ∧ (st 170 42) - 1 ≤ 2147483647) ∧ ((0 ≤ (st 170 42) - 1 ∧ (st 170 42) - 1 < 20) ∧ (∀ (r17 : Int), en_isTest (st 192 ((st 170 42) - 1 : Int).toNat) st r17 → ((0 ≤ (st 170 42) - 1 ∧ (st 170 42) - 1 < 20) ∧ (((2 : Int) ≤ st 193 ((st 170 42) - 1 : Int).toNat → ((r17 = (0 : Int) → ((r17 = (0 : Int) → ((r17 = (0 : Int) → (((2 : Int) ≤ st 192 ((st 170 42) - 1 : Int).toNat → ((st 192 ((st 170 42) - 1 : Int).toNat = (3 : Int) → _) ∧ (¬ (st 192 ((st 170 42) - 1 : Int).toNat = (3 : Int)) → ((¬ st 192 ((st 170 42) - 1 : Int).toNat = (6 : Int) → ((¬ st 192 ((st 170 42) - 1 : Int).toNat = (5 : Int) → (170 = 170 ∧ (∀ (r18 : Int), en_isSign (41) st r18 → ((¬ r18 = (0 : Int) → ((st 170 8 ≤ (0 : Int) → (170 = 170 ∧ (rq_rJoins k ph bg pr w [] fs c (1) st ∧ (∀ (s19 : zS), en_rJoins k ph bg pr w [] fs c (1) st s19 → ((-2147483648 ≤ (s19 170 42) - 1 ∧ (s19 170 42) - 1 ≤ 2147483647) ∧ ((-2147483648 ≤ (s19 170 43) - 1 ∧ (s19 170 43) - 1 ≤ 2147483647) ∧ ((¬ st 192 ((st 170 42) - 1 : Int).toNat = (4 : Int) → ((¬ st 192 ((st 170 42) - 1 : Int).toNat = (5 : Int) → (170 = 170 ∧ (rq_rNext t n  (zup (zup s19 170 42 ((s19 170 42) - 1)) 170 43 ((s19 170 43) - 1)) ∧ (∀ (s20 : zS), en_rNext t n  (zup (zup s19 170 42 ((s19 170 42) - 1)) 170 43 ((s19 170 43) - 1)) s20 → ((1 = (0 : Int) ∨ 1 = (1 : Int)) ∧ Q (some (.inl 1)) s20))))) ∧ (¬ (¬ st 192 ((st 170 42) - 1 : Int).toNat = (5 : Int)) → _))) ∧ (¬ (¬ st 192 ((st 170 42) - 1 : Int).toNat = (4 : Int)) → _)))))))) ∧ (¬ (st 170 8 ≤ (0 : Int)) → _))) ∧ (¬ (¬ r18 = (0 : Int)) → _))))) ∧ (¬ (¬ st 192 ((st 170 42) - 1 : Int).toNat = (5 : Int)) → _))) ∧ (¬ (¬ st 192 ((st 170 42) - 1 : Int).toNat = (6 : Int)) → _))))) ∧ (¬ ((2 : Int) ≤ st 192 ((st 170 42) - 1 : Int).toNat) → _))) ∧ (¬ (r17 = (0 : Int)) → _))) ∧ (¬ (r17 = (0 : Int)) → _))) ∧ (¬ (r17 = (0 : Int)) → _))) ∧ (¬ ((2 : Int) ≤ st 193 ((st 170 42) - 1 : Int).toNat) → (170 = 170 ∧ (∀ (r21 : Int), en_isSign (43) st r21 → ((¬ r21 = (0 : Int) → _) ∧ (¬ (¬ r21 = (0 : Int)) → (170 = 170 ∧ (∀ (r22 : Int), en_isSign (45) st r22 → ((¬ r22 = (0 : Int) → _) ∧ (¬ (¬ r22 = (0 : Int)) → (170 = 170 ∧ (∀ (r23 : Int), en_isSign (42) st r23 → ((¬ r23 = (0 : Int) → _) ∧ (¬ (¬ r23 = (0 : Int)) → (170 = 170 ∧ (∀ (r24 : Int), en_isSign (47) st r24 → ((¬ r24 = (0 : Int) → _) ∧ (¬ (¬ r24 = (0 : Int)) → (170 = 170 ∧ (∀ (r25 : Int), en_isSign (37) st r25 → ((r25 = (0 : Int) → ((r17 = (0 : Int) → ((r17 = (0 : Int) → ((r17 = (0 : Int) → (((2 : Int) ≤ st 192 ((st 170 42) - 1 : Int).toNat → ((st 192 ((st 170 42) - 1 : Int).toNat = (3 : Int) → _) ∧ (¬ (st 192 ((st 170 42) - 1 : Int).toNat = (3 : Int)) → ((¬ st 192 ((st 170 42) - 1 : Int).toNat = (6 : Int) → ((¬ st 192 ((st 170 42) - 1 : Int).toNat = (5 : Int) → (170 = 170 ∧ (∀ (r26 : Int), en_isSign (41) st r26 → ((¬ r26 = (0 : Int) → ((st 170 8 ≤ (0 : Int) → (170 = 170 ∧ (rq_rJoins k ph bg pr w [] fs c (1) st ∧ (∀ (s27 : zS), en_rJoins k ph bg pr w [] fs c (1) st s27 → ((-2147483648 ≤ (s27 170 42) - 1 ∧ (s27 170 42) - 1 ≤ 2147483647) ∧ ((-2147483648 ≤ (s27 170 43) - 1 ∧ (s27 170 43) - 1 ≤ 2147483647) ∧ ((¬ st 192 ((st 170 42) - 1 : Int).toNat = (4 : Int) → ((¬ st 192 ((st 170 42) - 1 : Int).toNat = (5 : Int) → (170 = 170 ∧ (rq_rNext t n  (zup (zup s27 170 42 ((s27 170 42) - 1)) 170 43 ((s27 170 43) - 1)) ∧ (∀ (s28 : zS), en_rNext t n  (zup (zup s27 170 42 ((s27 170 42) - 1)) 170 43 ((s27 170 43) - 1)) s28 → ((1 = (0 : Int) ∨ 1 = (1 : Int)) ∧ Q (some (.inl 1)) s28))))) ∧ (¬ (¬ st 192 ((st 170 42) - 1 : Int).toNat = (5 : Int)) → _))) ∧ (¬ (¬ st 192 ((st 170 42) - 1 : Int).toNat = (4 : Int)) → _)))))))) ∧ (¬ (st 170 8 ≤ (0 : Int)) → _))) ∧ (¬ (¬ r26 = (0 : Int)) → _))))) ∧ (¬ (¬ st 192 ((st 170 42) - 1 : Int).toNat = (5 : Int)) → _))) ∧ (¬ (¬ st 192 ((st 170 42) - 1 : Int).toNat = (6 : Int)) → _))))) ∧ (¬ ((2 : Int) ≤ st 192 ((st 170 42) - 1 : Int).toNat) → _))) ∧ (¬ (r17 = (0 : Int)) → _))) ∧ (¬ (r17 = (0 : Int)) → _))) ∧ (¬ (r17 = (0 : Int)) → _))) ∧ (¬ (r25 = (0 : Int)) → _))))))))))))))))))))))))))) ∧ (¬ (st 170 8 ≤ (0 : Int)) → _)))))
  refine ⟨rfl, ⟨hG, (show st 170 12 = -1 from by omega)⟩, ?_⟩
  refine ⟨fun h29 => ?_, fun h29 => (by exfalso; omega)⟩
  refine ⟨by omega, ?_⟩
  have g30 := g_frame hG ((st 170 42) - 1 : Int).toNat
  refine ⟨by omega, ?_⟩
  refine fun r17 q17 => ?_
  have b17 := q17
  change (r17 = 0 ∨ r17 = 1) ∧ (r17 = 1 ↔ (st 192 ((st 170 42) - 1 : Int).toNat) = 1 ∨ (st 192 ((st 170 42) - 1 : Int).toNat) = 5 ∨ (st 192 ((st 170 42) - 1 : Int).toNat) = 6) at b17
  have g31 := g_phase hG ((st 170 42) - 1 : Int).toNat
  refine ⟨by omega, ?_⟩
  refine ⟨fun h32 => ?_, fun h32 => ?_⟩
  · refine ⟨fun h33 => ?_, fun h33 => (by exfalso; clear hQ; omega)⟩
    clear h33
    refine ⟨fun h34 => ?_, fun h34 => (by exfalso; clear hQ; omega)⟩
    clear h34
    refine ⟨fun h35 => ?_, fun h35 => (by exfalso; clear hQ; omega)⟩
    clear h35
    refine ⟨fun h36 => ?_, fun h36 => (by exfalso; omega)⟩
    refine ⟨fun h37 => (by exfalso; omega), fun h37 => ?_⟩
    refine ⟨fun h38 => ?_, fun h38 => (by exfalso; omega)⟩
    refine ⟨fun h39 => ?_, fun h39 => (by exfalso; omega)⟩
    refine ⟨rfl, fun r18 q18 => ?_⟩
    have b18 := q18
    change (r18 = 0 ∨ r18 = 1) ∧ (r18 = 1 ↔ st 170 3 = 3 ∧ st 170 6 = (41)) at b18
    refine ⟨fun h40 => ?_, fun h40 => (by exfalso; clear hQ; omega)⟩
    clear h40 b18
    refine ⟨fun h41 => ?_, fun h41 => (by exfalso; omega)⟩
    refine ⟨rfl, ⟨hG, (show FR (st 192) (st 193) (st 194) (st 195) (st 196) (st 197) ((k, ph, bg, pr, w ++ []) :: fs) (st 170 42) (st 170 45) from (by rw [List.append_nil]; exact mfr)), (show WB ((k, ph, bg, pr, w ++ []) :: fs) from (by rw [List.append_nil]; exact mwb)), (show RG w (1) from RG_1 _), (show TR [] (1) from TR_nil _), (show CDr (st 170 35) (st 170 34) (st 188) (st 189) (c) from mcd), (show st 170 34 + st 170 45 ≤ 1600 ∧ 0 ≤ st 170 43 ∧ st 170 43 ≤ 7 ∧ st 170 42 ≤ 9 from by omega)⟩, fun s19 q19 => ?_⟩
    obtain ⟨gs19, fs19, yq19, fr19, cd19, op19, cm19⟩ := q19
    change FR (s19 192) (s19 193) (s19 194) (s19 195) (s19 196) (s19 197) ((k, ph, bg, pr, []) :: fs) (s19 170 42) (s19 170 45) at fr19
    have e42 : s19 170 42 = st 170 42 := fs19 170 42 rfl rfl
    have g43 := g_opMany gs19
    change CDr (s19 170 35) (s19 170 34) (s19 188) (s19 189) (c ++ w) at cd19
    have e44 : s19 170 35 = st 170 35 := fs19 170 35 rfl rfl
    have g45 := g_codes gs19
    change s19 170 43 = st 170 43 - nots w at op19
    have g46 := g_open gs19
    change s19 170 34 + s19 170 45 = st 170 34 + st 170 45 at cm19
    have mwj : WB ((k, ph, bg, pr, []) :: fs) := WB_c (by rw [List.length_nil]; omega) (fun x hx => by cases hx) (WB_tl mwb)
    have mbj := FR_bnd _ _ _ mwj fr19
    simp only [List.length_cons] at mbj
    have mcj := cd19.1
    rw [List.length_append] at mcj
    have e47 : s19 170 3 = st 170 3 := fs19 170 3 rfl rfl
    have e48 : s19 170 6 = st 170 6 := fs19 170 6 rfl rfl
    have e49 : s19 170 7 = st 170 7 := fs19 170 7 rfl rfl
    have e50 : s19 170 12 = st 170 12 := fs19 170 12 rfl rfl
    have e51 : s19 170 8 = st 170 8 := fs19 170 8 rfl rfl
    have e52 : s19 170 4 = st 170 4 := fs19 170 4 rfl rfl
    have e53 : s19 170 5 = st 170 5 := fs19 170 5 rfl rfl
    refine ⟨by omega, ?_⟩
    refine ⟨by omega, ?_⟩
    refine ⟨fun h54 => ?_, fun h54 => (by exfalso; omega)⟩
    refine ⟨fun h55 => ?_, fun h55 => (by exfalso; omega)⟩
    refine ⟨rfl, ⟨(gInv_up (gInv_up gs19 (p_deep (by omega))) (p_open (by omega))), (show RDr (zup (zup s19 170 42 ((s19 170 42) - 1)) 170 43 ((s19 170 43) - 1)) t n from (show RDr (zup (zup s19 170 42 ((s19 170 42) - 1)) 170 43 ((s19 170 43) - 1)) t n from (RDr_of (fs19 170 2 rfl rfl) (fun i => fs19 171 i rfl rfl) (fs19 170 3 rfl rfl) (fs19 170 4 rfl rfl) (fs19 170 5 rfl rfl) (fs19 170 6 rfl rfl) (fs19 170 7 rfl rfl) (fs19 170 12 rfl rfl) mrd))), (show s19 170 12 = -1 from by omega)⟩, fun s20 q20 => ?_⟩
    obtain ⟨gs20, fs20, rd20, nx20⟩ := q20
    change RDr s20 t n at rd20
    change NXr (zup (zup s19 170 42 ((s19 170 42) - 1)) 170 43 ((s19 170 43) - 1)) s20 t n at nx20
    refine ⟨by omega, ?_⟩
    have e56 : s20 170 8 = s19 170 8 := fs20 170 8 rfl rfl
    have e58 : s19 170 46 = st 170 46 := fs19 170 46 rfl rfl
    have e57 : s20 170 46 = s19 170 46 := fs20 170 46 rfl rfl
    have e59 : s20 170 43 = ((s19 170 43) - 1) := fs20 170 43 rfl rfl
    have e60 : s20 170 34 = s19 170 34 := fs20 170 34 rfl rfl
    have e61 : s20 170 45 = s19 170 45 := fs20 170 45 rfl rfl
    have e62 : s20 170 42 = ((s19 170 42) - 1) := fs20 170 42 rfl rfl
    have g63 := g_signAt gs20
    exact hQ _ _ ⟨gs20, (fr_tr (fr_f (fr_f (fr_tr (fr_rf _ _) fs19 rfl) rfl) rfl) fs20 rfl), (Z9_tr (Z9_up (Z9_up yq19 (by decide)) (by decide)) ((show aFr m_rGo72 st (zup (zup s19 170 42 ((s19 170 42) - 1)) 170 43 ((s19 170 43) - 1)) from (fr_f (fr_f (fr_tr (fr_rf _ _) fs19 rfl) rfl) rfl)) 170 35 rfl rfl) (Z9_fr fs20 (fun _ => rfl) rfl)), (show (1 : Int) = 1 ∧ mcP t n s20 (fs) 1 (o) (c ++ w) (e) from (by
            have tkk := ht.1
            have hp : s20 170 4 = e := NXr_e (st := (zup (zup s19 170 42 ((s19 170 42) - 1)) 170 43 ((s19 170 43) - 1))) (show NXr (zup (zup s19 170 42 ((s19 170 42) - 1)) 170 43 ((s19 170 43) - 1)) s20 t n from nx20) (show tk t n ((zup (zup s19 170 42 ((s19 170 42) - 1)) 170 43 ((s19 170 43) - 1)) 170 4) _ _ e from by rw [show (zup (zup s19 170 42 ((s19 170 42) - 1)) 170 43 ((s19 170 43) - 1)) 170 4 = p from (show s19 170 4 = p from by omega)]; exact tkk) (by omega)
            have hl := tk_lt tkk (show 0 ≤ p from by rw [← mpp]; exact mrd.2.1.1) (by omega)
            refine ⟨rfl, (show s20 170 8 = 0 from by omega), (show s20 170 46 = 1 from by omega), (show s20 170 43 = o from by omega), hp, (show RDr _ t n from rd20), ?_, (show s20 170 34 + s20 170 45 + s20 170 42 ≤ e from by omega), by omega, by omega, by first | omega | (simp only [List.length_cons]; omega) | (simp only [List.length_cons] at mz3 ⊢; omega)⟩
            exact (mcQ_of (fun i => fs20 192 i rfl rfl) (fun i => fs20 193 i rfl rfl) (fun i => fs20 194 i rfl rfl) (fun i => fs20 195 i rfl rfl) (fun i => fs20 196 i rfl rfl) (fun i => fs20 197 i rfl rfl) (fs20 170 42 rfl rfl) (fs20 170 45 rfl rfl) (fs20 170 35 rfl rfl) (fs20 170 34 rfl rfl) (fun i => fs20 188 i rfl rfl) (fun i => fs20 189 i rfl rfl) (show mcQ (zup (zup s19 170 42 ((s19 170 42) - 1)) 170 43 ((s19 170 43) - 1)) (fs) (c ++ w) from ⟨FR_pop fr19, WB_tl mwj, cd19⟩))))⟩
  · refine ⟨rfl, fun r21 q21 => ?_⟩
    have b21 := q21
    change (r21 = 0 ∨ r21 = 1) ∧ (r21 = 1 ↔ st 170 3 = 3 ∧ st 170 6 = (43)) at b21
    refine ⟨fun h64 => (by exfalso; clear hQ; omega), fun h64 => ?_⟩
    clear h64 b21
    refine ⟨rfl, fun r22 q22 => ?_⟩
    have b22 := q22
    change (r22 = 0 ∨ r22 = 1) ∧ (r22 = 1 ↔ st 170 3 = 3 ∧ st 170 6 = (45)) at b22
    refine ⟨fun h65 => (by exfalso; clear hQ; omega), fun h65 => ?_⟩
    clear h65 b22
    refine ⟨rfl, fun r23 q23 => ?_⟩
    have b23 := q23
    change (r23 = 0 ∨ r23 = 1) ∧ (r23 = 1 ↔ st 170 3 = 3 ∧ st 170 6 = (42)) at b23
    refine ⟨fun h66 => (by exfalso; clear hQ; omega), fun h66 => ?_⟩
    clear h66 b23
    refine ⟨rfl, fun r24 q24 => ?_⟩
    have b24 := q24
    change (r24 = 0 ∨ r24 = 1) ∧ (r24 = 1 ↔ st 170 3 = 3 ∧ st 170 6 = (47)) at b24
    refine ⟨fun h67 => (by exfalso; clear hQ; omega), fun h67 => ?_⟩
    clear h67 b24
    refine ⟨rfl, fun r25 q25 => ?_⟩
    have b25 := q25
    change (r25 = 0 ∨ r25 = 1) ∧ (r25 = 1 ↔ st 170 3 = 3 ∧ st 170 6 = (37)) at b25
    refine ⟨fun h68 => ?_, fun h68 => (by exfalso; clear hQ; omega)⟩
    clear h68 b25
    refine ⟨fun h69 => ?_, fun h69 => (by exfalso; clear hQ; omega)⟩
    clear h69
    refine ⟨fun h70 => ?_, fun h70 => (by exfalso; clear hQ; omega)⟩
    clear h70
    refine ⟨fun h71 => ?_, fun h71 => (by exfalso; clear hQ; omega)⟩
    clear h71
    refine ⟨fun h72 => ?_, fun h72 => (by exfalso; omega)⟩
    refine ⟨fun h73 => (by exfalso; omega), fun h73 => ?_⟩
    refine ⟨fun h74 => ?_, fun h74 => (by exfalso; omega)⟩
    refine ⟨fun h75 => ?_, fun h75 => (by exfalso; omega)⟩
    refine ⟨rfl, fun r26 q26 => ?_⟩
    have b26 := q26
    change (r26 = 0 ∨ r26 = 1) ∧ (r26 = 1 ↔ st 170 3 = 3 ∧ st 170 6 = (41)) at b26
    refine ⟨fun h76 => ?_, fun h76 => (by exfalso; clear hQ; omega)⟩
    clear h76 b26
    refine ⟨fun h77 => ?_, fun h77 => (by exfalso; omega)⟩
    refine ⟨rfl, ⟨hG, (show FR (st 192) (st 193) (st 194) (st 195) (st 196) (st 197) ((k, ph, bg, pr, w ++ []) :: fs) (st 170 42) (st 170 45) from (by rw [List.append_nil]; exact mfr)), (show WB ((k, ph, bg, pr, w ++ []) :: fs) from (by rw [List.append_nil]; exact mwb)), (show RG w (1) from RG_1 _), (show TR [] (1) from TR_nil _), (show CDr (st 170 35) (st 170 34) (st 188) (st 189) (c) from mcd), (show st 170 34 + st 170 45 ≤ 1600 ∧ 0 ≤ st 170 43 ∧ st 170 43 ≤ 7 ∧ st 170 42 ≤ 9 from by omega)⟩, fun s27 q27 => ?_⟩
    obtain ⟨gs27, fs27, yq27, fr27, cd27, op27, cm27⟩ := q27
    change FR (s27 192) (s27 193) (s27 194) (s27 195) (s27 196) (s27 197) ((k, ph, bg, pr, []) :: fs) (s27 170 42) (s27 170 45) at fr27
    have e78 : s27 170 42 = st 170 42 := fs27 170 42 rfl rfl
    have g79 := g_opMany gs27
    change CDr (s27 170 35) (s27 170 34) (s27 188) (s27 189) (c ++ w) at cd27
    have e80 : s27 170 35 = st 170 35 := fs27 170 35 rfl rfl
    have g81 := g_codes gs27
    change s27 170 43 = st 170 43 - nots w at op27
    have g82 := g_open gs27
    change s27 170 34 + s27 170 45 = st 170 34 + st 170 45 at cm27
    have mwj : WB ((k, ph, bg, pr, []) :: fs) := WB_c (by rw [List.length_nil]; omega) (fun x hx => by cases hx) (WB_tl mwb)
    have mbj := FR_bnd _ _ _ mwj fr27
    simp only [List.length_cons] at mbj
    have mcj := cd27.1
    rw [List.length_append] at mcj
    have e83 : s27 170 3 = st 170 3 := fs27 170 3 rfl rfl
    have e84 : s27 170 6 = st 170 6 := fs27 170 6 rfl rfl
    have e85 : s27 170 7 = st 170 7 := fs27 170 7 rfl rfl
    have e86 : s27 170 12 = st 170 12 := fs27 170 12 rfl rfl
    have e87 : s27 170 8 = st 170 8 := fs27 170 8 rfl rfl
    have e88 : s27 170 4 = st 170 4 := fs27 170 4 rfl rfl
    have e89 : s27 170 5 = st 170 5 := fs27 170 5 rfl rfl
    refine ⟨by omega, ?_⟩
    refine ⟨by omega, ?_⟩
    refine ⟨fun h90 => ?_, fun h90 => (by exfalso; omega)⟩
    refine ⟨fun h91 => ?_, fun h91 => (by exfalso; omega)⟩
    refine ⟨rfl, ⟨(gInv_up (gInv_up gs27 (p_deep (by omega))) (p_open (by omega))), (show RDr (zup (zup s27 170 42 ((s27 170 42) - 1)) 170 43 ((s27 170 43) - 1)) t n from (show RDr (zup (zup s27 170 42 ((s27 170 42) - 1)) 170 43 ((s27 170 43) - 1)) t n from (RDr_of (fs27 170 2 rfl rfl) (fun i => fs27 171 i rfl rfl) (fs27 170 3 rfl rfl) (fs27 170 4 rfl rfl) (fs27 170 5 rfl rfl) (fs27 170 6 rfl rfl) (fs27 170 7 rfl rfl) (fs27 170 12 rfl rfl) mrd))), (show s27 170 12 = -1 from by omega)⟩, fun s28 q28 => ?_⟩
    obtain ⟨gs28, fs28, rd28, nx28⟩ := q28
    change RDr s28 t n at rd28
    change NXr (zup (zup s27 170 42 ((s27 170 42) - 1)) 170 43 ((s27 170 43) - 1)) s28 t n at nx28
    refine ⟨by omega, ?_⟩
    have e92 : s28 170 8 = s27 170 8 := fs28 170 8 rfl rfl
    have e94 : s27 170 46 = st 170 46 := fs27 170 46 rfl rfl
    have e93 : s28 170 46 = s27 170 46 := fs28 170 46 rfl rfl
    have e95 : s28 170 43 = ((s27 170 43) - 1) := fs28 170 43 rfl rfl
    have e96 : s28 170 34 = s27 170 34 := fs28 170 34 rfl rfl
    have e97 : s28 170 45 = s27 170 45 := fs28 170 45 rfl rfl
    have e98 : s28 170 42 = ((s27 170 42) - 1) := fs28 170 42 rfl rfl
    have g99 := g_signAt gs28
    exact hQ _ _ ⟨gs28, (fr_tr (fr_f (fr_f (fr_tr (fr_rf _ _) fs27 rfl) rfl) rfl) fs28 rfl), (Z9_tr (Z9_up (Z9_up yq27 (by decide)) (by decide)) ((show aFr m_rGo72 st (zup (zup s27 170 42 ((s27 170 42) - 1)) 170 43 ((s27 170 43) - 1)) from (fr_f (fr_f (fr_tr (fr_rf _ _) fs27 rfl) rfl) rfl)) 170 35 rfl rfl) (Z9_fr fs28 (fun _ => rfl) rfl)), (show (1 : Int) = 1 ∧ mcP t n s28 (fs) 1 (o) (c ++ w) (e) from (by
            have tkk := ht.1
            have hp : s28 170 4 = e := NXr_e (st := (zup (zup s27 170 42 ((s27 170 42) - 1)) 170 43 ((s27 170 43) - 1))) (show NXr (zup (zup s27 170 42 ((s27 170 42) - 1)) 170 43 ((s27 170 43) - 1)) s28 t n from nx28) (show tk t n ((zup (zup s27 170 42 ((s27 170 42) - 1)) 170 43 ((s27 170 43) - 1)) 170 4) _ _ e from by rw [show (zup (zup s27 170 42 ((s27 170 42) - 1)) 170 43 ((s27 170 43) - 1)) 170 4 = p from (show s27 170 4 = p from by omega)]; exact tkk) (by omega)
            have hl := tk_lt tkk (show 0 ≤ p from by rw [← mpp]; exact mrd.2.1.1) (by omega)
            refine ⟨rfl, (show s28 170 8 = 0 from by omega), (show s28 170 46 = 1 from by omega), (show s28 170 43 = o from by omega), hp, (show RDr _ t n from rd28), ?_, (show s28 170 34 + s28 170 45 + s28 170 42 ≤ e from by omega), by omega, by omega, by first | omega | (simp only [List.length_cons]; omega) | (simp only [List.length_cons] at mz3 ⊢; omega)⟩
            exact (mcQ_of (fun i => fs28 192 i rfl rfl) (fun i => fs28 193 i rfl rfl) (fun i => fs28 194 i rfl rfl) (fun i => fs28 195 i rfl rfl) (fun i => fs28 196 i rfl rfl) (fun i => fs28 197 i rfl rfl) (fs28 170 42 rfl rfl) (fs28 170 45 rfl rfl) (fs28 170 35 rfl rfl) (fs28 170 34 rfl rfl) (fun i => fs28 188 i rfl rfl) (fun i => fs28 189 i rfl rfl) (show mcQ (zup (zup s27 170 42 ((s27 170 42) - 1)) 170 43 ((s27 170 43) - 1)) (fs) (c ++ w) from ⟨FR_pop fr27, WB_tl mwj, cd27⟩))))⟩
theorem k_rGo72_m (hTb : aTb zSh rx_tb cl) {t : Int → Int} {n k ph bg pr o p e : Int} {w c : List Int} {fs : List mFr} {x : Int} {D : Nat} (hD : 3 ≤ D) : ∀ as st (Q Q' : zQ), (∀ r st', Q r st' → Q' r st') → (k_rGo72 t n k ph bg pr o p e w c fs x) 197 as st Q → cl D 197 as st Q' := by
  intro as st Q Q' hQ h
  unfold k_rGo72 at h
  split at h
  · obtain ⟨rfl, h⟩ := h
    exact c_rGo72 hTb hD (ct_rGo72_m hQ h)
  · exact h.elim
set_option maxHeartbeats 4000000 in
set_option maxRecDepth 100000 in
theorem c_rGo74 (hTb : aTb zSh rx_tb cl) {t : Int → Int} {n k ph bg pr o p e : Int} {w c : List Int} {fs : List mFr} {x : Int} {D : Nat} (hD : 3 ≤ D) {st : zS} {Q : zQ} (h : ct_rGo74 t n k ph bg pr o p e w c fs x st Q) : cl D 197 [.inr (.inr (.inl 170))] st Q := by
  obtain ⟨d, rfl⟩ : ∃ d, D = d + 1 := ⟨D - 1, by omega⟩
  refine hTb d 197 (rx_m197, 5, 0, 0, 2) rfl _ _ _ (Nat.le_of_ble_eq_true rfl) (fun K hcl hsf hsl => ?_)
  have hcm : zmo (wcL [(181, k_rLex), (195, k_isTest), (183, k_isWord), (182, k_isSign), (149, k_rNext t n), (189, k_add), (192, k_holdsBack), (191, k_rJoins k ph bg pr w [] fs c)]) (cl d) := (wcL_m (wm_cons (k_rLex_m hTb (by omega)) (wm_cons (k_isTest_m hTb (by omega)) (wm_cons (k_isWord_m hTb (by omega)) (wm_cons (k_isSign_m hTb (by omega)) (wm_cons (k_rNext_m hTb (by omega)) (wm_cons (k_add_m hTb (by omega)) (wm_cons (k_holdsBack_m hTb (by omega)) (wm_cons (k_rJoins_m hTb (by omega)) wm_nil)))))))))
  obtain ⟨hR, hQ⟩ := h
  obtain ⟨hG, mp, ht⟩ := hR
  change mcP t n st ((k, ph, bg, pr, w) :: fs) 1 (x) (c) (p) at mp
  change tk t n p 3 41 e ∧ k = 4 ∧ x = o + 1 + nots w ∧ 0 ≤ o ∧ 31 ≤ pr ∧ pr ≤ 44 at ht
  obtain ⟨mf, mo, mn, mpp, mrd, mq, mbd, mz1, mz2, mz3⟩ := mp
  simp only [List.length_cons] at mz3
  have mq0 := mq
  obtain ⟨mfr, mwb, mcd⟩ := mq
  have mt := FR_top mfr
  have mb := FR_bnd _ _ _ mwb mfr
  simp only [List.length_cons] at mb
  have ml := WB_hd mwb
  have mcl := mcd.1
  have mlw := FR_len mb.2.1 mfr
  have mnb := nots_b w
  have tf := r_sig mrd (by rw [mpp]; exact ht.1)
  have g1 := g_codes hG
  have g2 := g_in hG
  have g3 := g_isClever hG
  have g4 := g_deep hG
  have g5 := g_open hG
  have g6 := g_opMany hG
  have g7 := g_signAt hG
  have g8 := g_signEnd hG
  have g9 := g_faultKind hG
  have g10 := g_size hG
  have g11 := g_sign hG
  have g12 := g_lexAt hG
  have g13 := g_value hG
  have g14 := g_word hG
  have g15 := g_operand hG
  refine yr1_ok (Rt := Q) (wc := (wcL [(181, k_rLex), (195, k_isTest), (183, k_isWord), (182, k_isSign), (149, k_rNext t n), (189, k_add), (192, k_holdsBack), (191, k_rJoins k ph bg pr w [] fs c)])) (stp := []) hcm hcl [] 500 ?_
  show (170 = 170 ∧ (rq_rLex  st ∧ (((st 170 8 ≤ (0 : Int) → ((-2147483648 ≤ (st 170 42) - 1 ∧ (st 170 42) - 1 ≤ 2147483647) ∧ ((0 ≤ (st 170 42) - 1 ∧ (st 170 42) - 1 < 20) ∧ (∀ (r17 : Int), en_isTest (st 192 ((st 170 42) - 1 : Int).toNat) st r17 → ((0 ≤ (st 170 42) - 1 ∧ (st 170 42) - 1 < 20) ∧ (((2 : Int) ≤ st 193 ((st 170 42) - 1 : Int).toNat → ((r17 = (0 : Int) → ((r17 = (0 : Int) → ((r17 = (0 : Int) → (((2 : Int) ≤ st 192 ((st 170 42) - 1 : Int).toNat → ((st 192 ((st 170 42) - 1 : Int).toNat = (3 : Int) → _) ∧ (¬ (st 192 ((st 170 42) - 1 : Int).toNat = (3 : Int)) → ((¬ st 192 ((st 170 42) - 1 : Int).toNat = (6 : Int) → ((¬ st 192 ((st 170 42) - 1 : Int).toNat = (5 : Int) → (170 = 170 ∧ (∀ (r18 : Int), en_isSign (41) st r18 → ((¬ r18 = (0 : Int) → ((st 170 8 ≤ (0 : Int) → (170 = 170 ∧ (rq_rJoins k ph bg pr w [] fs c (1) st ∧ (∀ (s19 : zS), en_rJoins k ph bg pr w [] fs c (1) st s19 → ((-2147483648 ≤ (s19 170 42) - 1 ∧ (s19 170 42) - 1 ≤ 2147483647) ∧ ((-2147483648 ≤ (s19 170 43) - 1 ∧ (s19 170 43) - 1 ≤ 2147483647) ∧ ((¬ st 192 ((st 170 42) - 1 : Int).toNat = (4 : Int) → _) ∧ (¬ (¬ st 192 ((st 170 42) - 1 : Int).toNat = (4 : Int)) → ((0 ≤ (st 170 42) - 1 ∧ (st 170 42) - 1 < 20) ∧ (170 = 170 ∧ (rq_add (s19 195 ((st 170 42) - 1 : Int).toNat) (0) (zup (zup s19 170 42 ((s19 170 42) - 1)) 170 43 ((s19 170 43) - 1)) ∧ (((¬ st 192 ((st 170 42) - 1 : Int).toNat = (5 : Int) → (170 = 170 ∧ (rq_rNext t n  (zup (zup (zup (zup (zup s19 170 42 ((s19 170 42) - 1)) 170 43 ((s19 170 43) - 1)) 188 ((1600 : Int) * (s19 170 35) + (s19 170 34) : Int).toNat (s19 195 ((st 170 42) - 1 : Int).toNat)) 189 ((1600 : Int) * (s19 170 35) + (s19 170 34) : Int).toNat (0)) 170 34 ((s19 170 34) + 1)) ∧ (∀ (s21 : zS), en_rNext t n  (zup (zup (zup (zup (zup s19 170 42 ((s19 170 42) - 1)) 170 43 ((s19 170 43) - 1)) 188 ((1600 : Int) * (s19 170 35) + (s19 170 34) : Int).toNat (s19 195 ((st 170 42) - 1 : Int).toNat)) 189 ((1600 : Int) * (s19 170 35) + (s19 170 34) : Int).toNat (0)) 170 34 ((s19 170 34) + 1)) s21 → ((1 = (0 : Int) ∨ 1 = (1 : Int)) ∧ Q (some (.inl 1)) s21))))) ∧ (¬ (¬ st 192 ((st 170 42) - 1 : Int).toNat = (5 : Int)) → _)))))))))))))) ∧ (¬ (st 170 8 ≤ (0 : Int)) → _))) ∧ (¬ (¬ r18 = (0 : Int)) → _))))) ∧ (¬ (¬ st 192 ((st 170 42) - 1 : Int).toNat = (5 : Int)) → _))) ∧ (¬ (¬ st 192 ((st 170 42) - 1 : Int).toNat = (6 : Int)) → _))))) ∧ (¬ ((2 : Int) ≤ st 192 ((st 170 42) - 1 : Int).toNat) → _))) ∧ (¬ (r17 = (0 : Int)) → _))) ∧ (¬ (r17 = (0 : Int)) → _))) ∧ (¬ (r17 = (0 : Int)) → _))) ∧ (¬ ((2 : Int) ≤ st 193 ((st 170 42) - 1 : Int).toNat) → (170 = 170 ∧ (∀ (r22 : Int), en_isSign (43) st r22 → ((¬ r22 = (0 : Int) → _) ∧ (¬ (¬ r22 = (0 : Int)) → (170 = 170 ∧ (∀ (r23 : Int), en_isSign (45) st r23 → ((¬ r23 = (0 : Int) → _) ∧ (¬ (¬ r23 = (0 : Int)) → (170 = 170 ∧ (∀ (r24 : Int), en_isSign (42) st r24 → ((¬ r24 = (0 : Int) → _) ∧ (¬ (¬ r24 = (0 : Int)) → (170 = 170 ∧ (∀ (r25 : Int), en_isSign (47) st r25 → ((¬ r25 = (0 : Int) → _) ∧ (¬ (¬ r25 = (0 : Int)) → (170 = 170 ∧ (∀ (r26 : Int), en_isSign (37) st r26 → ((r26 = (0 : Int) → ((r17 = (0 : Int) → ((r17 = (0 : Int) → ((r17 = (0 : Int) → (((2 : Int) ≤ st 192 ((st 170 42) - 1 : Int).toNat → ((st 192 ((st 170 42) - 1 : Int).toNat = (3 : Int) → _) ∧ (¬ (st 192 ((st 170 42) - 1 : Int).toNat = (3 : Int)) → ((¬ st 192 ((st 170 42) - 1 : Int).toNat = (6 : Int) → ((¬ st 192 ((st 170 42) - 1 : Int).toNat = (5 : Int) → (170 = 170 ∧ (∀ (r27 : Int), en_isSign (41) st r27 → ((¬ r27 = (0 : Int) → ((st 170 8 ≤ (0 : Int) → (170 = 170 ∧ (rq_rJoins k ph bg pr w [] fs c (1) st ∧ (∀ (s28 : zS), en_rJoins k ph bg pr w [] fs c (1) st s28 → ((-2147483648 ≤ (s28 170 42) - 1 ∧ (s28 170 42) - 1 ≤ 2147483647) ∧ ((-2147483648 ≤ (s28 170 43) - 1 ∧ (s28 170 43) - 1 ≤ 2147483647) ∧ ((¬ st 192 ((st 170 42) - 1 : Int).toNat = (4 : Int) → _) ∧ (¬ (¬ st 192 ((st 170 42) - 1 : Int).toNat = (4 : Int)) → ((0 ≤ (st 170 42) - 1 ∧ (st 170 42) - 1 < 20) ∧ (170 = 170 ∧ (rq_add (s28 195 ((st 170 42) - 1 : Int).toNat) (0) (zup (zup s28 170 42 ((s28 170 42) - 1)) 170 43 ((s28 170 43) - 1)) ∧ (((¬ st 192 ((st 170 42) - 1 : Int).toNat = (5 : Int) → (170 = 170 ∧ (rq_rNext t n  (zup (zup (zup (zup (zup s28 170 42 ((s28 170 42) - 1)) 170 43 ((s28 170 43) - 1)) 188 ((1600 : Int) * (s28 170 35) + (s28 170 34) : Int).toNat (s28 195 ((st 170 42) - 1 : Int).toNat)) 189 ((1600 : Int) * (s28 170 35) + (s28 170 34) : Int).toNat (0)) 170 34 ((s28 170 34) + 1)) ∧ (∀ (s30 : zS), en_rNext t n  (zup (zup (zup (zup (zup s28 170 42 ((s28 170 42) - 1)) 170 43 ((s28 170 43) - 1)) 188 ((1600 : Int) * (s28 170 35) + (s28 170 34) : Int).toNat (s28 195 ((st 170 42) - 1 : Int).toNat)) 189 ((1600 : Int) * (s28 170 35) + (s28 170 34) : Int).toNat (0)) 170 34 ((s28 170 34) + 1)) s30 → ((1 = (0 : Int) ∨ 1 = (1 : Int)) ∧ Q (some (.inl 1)) s30))))) ∧ (¬ (¬ st 192 ((st 170 42) - 1 : Int).toNat = (5 : Int)) → _)))))))))))))) ∧ (¬ (st 170 8 ≤ (0 : Int)) → _))) ∧ (¬ (¬ r27 = (0 : Int)) → _))))) ∧ (¬ (¬ st 192 ((st 170 42) - 1 : Int).toNat = (5 : Int)) → _))) ∧ (¬ (¬ st 192 ((st 170 42) - 1 : Int).toNat = (6 : Int)) → _))))) ∧ (¬ ((2 : Int) ≤ st 192 ((st 170 42) - 1 : Int).toNat) → _))) ∧ (¬ (r17 = (0 : Int)) → _))) ∧ (¬ (r17 = (0 : Int)) → _))) ∧ (¬ (r17 = (0 : Int)) → _))) ∧ (¬ (r26 = (0 : Int)) → _))))))))))))))))))))))))))) ∧ (¬ (st 170 8 ≤ (0 : Int)) → _)))))
  refine ⟨rfl, ⟨hG, (show st 170 12 = -1 from by omega)⟩, ?_⟩
  refine ⟨fun h31 => ?_, fun h31 => (by exfalso; omega)⟩
  refine ⟨by omega, ?_⟩
  have g32 := g_frame hG ((st 170 42) - 1 : Int).toNat
  refine ⟨by omega, ?_⟩
  refine fun r17 q17 => ?_
  have b17 := q17
  change (r17 = 0 ∨ r17 = 1) ∧ (r17 = 1 ↔ (st 192 ((st 170 42) - 1 : Int).toNat) = 1 ∨ (st 192 ((st 170 42) - 1 : Int).toNat) = 5 ∨ (st 192 ((st 170 42) - 1 : Int).toNat) = 6) at b17
  have g33 := g_phase hG ((st 170 42) - 1 : Int).toNat
  refine ⟨by omega, ?_⟩
  refine ⟨fun h34 => ?_, fun h34 => ?_⟩
  · refine ⟨fun h35 => ?_, fun h35 => (by exfalso; clear hQ; omega)⟩
    clear h35
    refine ⟨fun h36 => ?_, fun h36 => (by exfalso; clear hQ; omega)⟩
    clear h36
    refine ⟨fun h37 => ?_, fun h37 => (by exfalso; clear hQ; omega)⟩
    clear h37
    refine ⟨fun h38 => ?_, fun h38 => (by exfalso; omega)⟩
    refine ⟨fun h39 => (by exfalso; omega), fun h39 => ?_⟩
    refine ⟨fun h40 => ?_, fun h40 => (by exfalso; omega)⟩
    refine ⟨fun h41 => ?_, fun h41 => (by exfalso; omega)⟩
    refine ⟨rfl, fun r18 q18 => ?_⟩
    have b18 := q18
    change (r18 = 0 ∨ r18 = 1) ∧ (r18 = 1 ↔ st 170 3 = 3 ∧ st 170 6 = (41)) at b18
    refine ⟨fun h42 => ?_, fun h42 => (by exfalso; clear hQ; omega)⟩
    clear h42 b18
    refine ⟨fun h43 => ?_, fun h43 => (by exfalso; omega)⟩
    refine ⟨rfl, ⟨hG, (show FR (st 192) (st 193) (st 194) (st 195) (st 196) (st 197) ((k, ph, bg, pr, w ++ []) :: fs) (st 170 42) (st 170 45) from (by rw [List.append_nil]; exact mfr)), (show WB ((k, ph, bg, pr, w ++ []) :: fs) from (by rw [List.append_nil]; exact mwb)), (show RG w (1) from RG_1 _), (show TR [] (1) from TR_nil _), (show CDr (st 170 35) (st 170 34) (st 188) (st 189) (c) from mcd), (show st 170 34 + st 170 45 ≤ 1600 ∧ 0 ≤ st 170 43 ∧ st 170 43 ≤ 7 ∧ st 170 42 ≤ 9 from by omega)⟩, fun s19 q19 => ?_⟩
    obtain ⟨gs19, fs19, yq19, fr19, cd19, op19, cm19⟩ := q19
    change FR (s19 192) (s19 193) (s19 194) (s19 195) (s19 196) (s19 197) ((k, ph, bg, pr, []) :: fs) (s19 170 42) (s19 170 45) at fr19
    have e44 : s19 170 42 = st 170 42 := fs19 170 42 rfl rfl
    have g45 := g_opMany gs19
    change CDr (s19 170 35) (s19 170 34) (s19 188) (s19 189) (c ++ w) at cd19
    have e46 : s19 170 35 = st 170 35 := fs19 170 35 rfl rfl
    have g47 := g_codes gs19
    change s19 170 43 = st 170 43 - nots w at op19
    have g48 := g_open gs19
    change s19 170 34 + s19 170 45 = st 170 34 + st 170 45 at cm19
    have mwj : WB ((k, ph, bg, pr, []) :: fs) := WB_c (by rw [List.length_nil]; omega) (fun x hx => by cases hx) (WB_tl mwb)
    have mbj := FR_bnd _ _ _ mwj fr19
    simp only [List.length_cons] at mbj
    have mcj := cd19.1
    rw [List.length_append] at mcj
    have e49 : s19 170 3 = st 170 3 := fs19 170 3 rfl rfl
    have e50 : s19 170 6 = st 170 6 := fs19 170 6 rfl rfl
    have e51 : s19 170 7 = st 170 7 := fs19 170 7 rfl rfl
    have e52 : s19 170 12 = st 170 12 := fs19 170 12 rfl rfl
    have e53 : s19 170 8 = st 170 8 := fs19 170 8 rfl rfl
    have e54 : s19 170 4 = st 170 4 := fs19 170 4 rfl rfl
    have e55 : s19 170 5 = st 170 5 := fs19 170 5 rfl rfl
    refine ⟨by omega, ?_⟩
    refine ⟨by omega, ?_⟩
    refine ⟨fun h56 => (by exfalso; omega), fun h56 => ?_⟩
    have g58 := g_pair hG ((st 170 42) - 1 : Int).toNat
    have e57 : s19 195 ((st 170 42) - 1 : Int).toNat = st 195 ((st 170 42) - 1 : Int).toNat := fs19 195 ((st 170 42) - 1 : Int).toNat rfl rfl
    refine ⟨by omega, ?_⟩
    refine ⟨rfl, ⟨(gInv_up (gInv_up gs19 (p_deep (by omega))) (p_open (by omega))), (show s19 170 34 ≤ 1599 from by omega)⟩, ?_⟩
    refine ⟨fun h59 => ?_, fun h59 => (by exfalso; omega)⟩
    refine ⟨rfl, ⟨(gInv_up (gInv_up (gInv_up (gInv_up (gInv_up gs19 (p_deep (by omega))) (p_open (by omega))) (p_codeSort (by omega))) (p_codeValue (by omega))) (p_codes (by omega))), (show RDr (zup (zup (zup (zup (zup s19 170 42 ((s19 170 42) - 1)) 170 43 ((s19 170 43) - 1)) 188 ((1600 : Int) * (s19 170 35) + (s19 170 34) : Int).toNat (s19 195 ((st 170 42) - 1 : Int).toNat)) 189 ((1600 : Int) * (s19 170 35) + (s19 170 34) : Int).toNat (0)) 170 34 ((s19 170 34) + 1)) t n from (show RDr (zup (zup (zup (zup (zup s19 170 42 ((s19 170 42) - 1)) 170 43 ((s19 170 43) - 1)) 188 ((1600 : Int) * (s19 170 35) + (s19 170 34) : Int).toNat (s19 195 ((st 170 42) - 1 : Int).toNat)) 189 ((1600 : Int) * (s19 170 35) + (s19 170 34) : Int).toNat (0)) 170 34 ((s19 170 34) + 1)) t n from (RDr_of (fs19 170 2 rfl rfl) (fun i => fs19 171 i rfl rfl) (fs19 170 3 rfl rfl) (fs19 170 4 rfl rfl) (fs19 170 5 rfl rfl) (fs19 170 6 rfl rfl) (fs19 170 7 rfl rfl) (fs19 170 12 rfl rfl) mrd))), (show s19 170 12 = -1 from by omega)⟩, fun s21 q21 => ?_⟩
    obtain ⟨gs21, fs21, rd21, nx21⟩ := q21
    change RDr s21 t n at rd21
    change NXr (zup (zup (zup (zup (zup s19 170 42 ((s19 170 42) - 1)) 170 43 ((s19 170 43) - 1)) 188 ((1600 : Int) * (s19 170 35) + (s19 170 34) : Int).toNat (s19 195 ((st 170 42) - 1 : Int).toNat)) 189 ((1600 : Int) * (s19 170 35) + (s19 170 34) : Int).toNat (0)) 170 34 ((s19 170 34) + 1)) s21 t n at nx21
    refine ⟨by omega, ?_⟩
    have e60 : s21 170 8 = s19 170 8 := fs21 170 8 rfl rfl
    have e62 : s19 170 46 = st 170 46 := fs19 170 46 rfl rfl
    have e61 : s21 170 46 = s19 170 46 := fs21 170 46 rfl rfl
    have e63 : s21 170 43 = ((s19 170 43) - 1) := fs21 170 43 rfl rfl
    have e64 : s21 170 34 = ((s19 170 34) + 1) := fs21 170 34 rfl rfl
    have e65 : s21 170 45 = s19 170 45 := fs21 170 45 rfl rfl
    have e66 : s21 170 42 = ((s19 170 42) - 1) := fs21 170 42 rfl rfl
    have g67 := g_signAt gs21
    exact hQ _ _ ⟨gs21, (fr_tr (fr_f (fr_a (fr_a (fr_f (fr_f (fr_tr (fr_rf _ _) fs19 rfl) rfl) rfl) rfl) rfl) rfl) fs21 rfl), (Z9_tr (Z9_up (Z9_st (Z9_up (Z9_up (Z9_up yq19 (by decide)) (by decide)) (by decide)) (b := s19 170 35) ((show aFr m_rGo74 st s19 from (fr_tr (fr_rf _ _) fs19 rfl)) 170 35 rfl rfl) (by omega)) (by decide)) ((show aFr m_rGo74 st (zup (zup (zup (zup (zup s19 170 42 ((s19 170 42) - 1)) 170 43 ((s19 170 43) - 1)) 188 ((1600 : Int) * (s19 170 35) + (s19 170 34) : Int).toNat (s19 195 ((st 170 42) - 1 : Int).toNat)) 189 ((1600 : Int) * (s19 170 35) + (s19 170 34) : Int).toNat (0)) 170 34 ((s19 170 34) + 1)) from (fr_f (fr_a (fr_a (fr_f (fr_f (fr_tr (fr_rf _ _) fs19 rfl) rfl) rfl) rfl) rfl) rfl)) 170 35 rfl rfl) (Z9_fr fs21 (fun _ => rfl) rfl)), (show (1 : Int) = 1 ∧ mcP t n s21 (fs) 1 (o) (c ++ (w ++ [pr])) (e) from (by
            have tkk := ht.1
            have e195 := (fs19 195 (st 170 42 - 1 : Int).toNat rfl rfl).trans mt.2.2.2.2.1
            have hp : s21 170 4 = e := NXr_e (st := (zup (zup (zup (zup (zup s19 170 42 ((s19 170 42) - 1)) 170 43 ((s19 170 43) - 1)) 188 ((1600 : Int) * (s19 170 35) + (s19 170 34) : Int).toNat (s19 195 ((st 170 42) - 1 : Int).toNat)) 189 ((1600 : Int) * (s19 170 35) + (s19 170 34) : Int).toNat (0)) 170 34 ((s19 170 34) + 1))) (show NXr (zup (zup (zup (zup (zup s19 170 42 ((s19 170 42) - 1)) 170 43 ((s19 170 43) - 1)) 188 ((1600 : Int) * (s19 170 35) + (s19 170 34) : Int).toNat (s19 195 ((st 170 42) - 1 : Int).toNat)) 189 ((1600 : Int) * (s19 170 35) + (s19 170 34) : Int).toNat (0)) 170 34 ((s19 170 34) + 1)) s21 t n from nx21) (show tk t n ((zup (zup (zup (zup (zup s19 170 42 ((s19 170 42) - 1)) 170 43 ((s19 170 43) - 1)) 188 ((1600 : Int) * (s19 170 35) + (s19 170 34) : Int).toNat (s19 195 ((st 170 42) - 1 : Int).toNat)) 189 ((1600 : Int) * (s19 170 35) + (s19 170 34) : Int).toNat (0)) 170 34 ((s19 170 34) + 1)) 170 4) _ _ e from by rw [show (zup (zup (zup (zup (zup s19 170 42 ((s19 170 42) - 1)) 170 43 ((s19 170 43) - 1)) 188 ((1600 : Int) * (s19 170 35) + (s19 170 34) : Int).toNat (s19 195 ((st 170 42) - 1 : Int).toNat)) 189 ((1600 : Int) * (s19 170 35) + (s19 170 34) : Int).toNat (0)) 170 34 ((s19 170 34) + 1)) 170 4 = p from (show s19 170 4 = p from by omega)]; exact tkk) (by omega)
            have hl := tk_lt tkk (show 0 ≤ p from by rw [← mpp]; exact mrd.2.1.1) (by omega)
            refine ⟨rfl, (show s21 170 8 = 0 from by omega), (show s21 170 46 = 1 from by omega), (show s21 170 43 = o from by omega), hp, (show RDr _ t n from rd21), ?_, (show s21 170 34 + s21 170 45 + s21 170 42 ≤ e from by omega), by omega, by omega, by first | omega | (simp only [List.length_cons]; omega) | (simp only [List.length_cons] at mz3 ⊢; omega)⟩
            exact (mcQ_of (fun i => fs21 192 i rfl rfl) (fun i => fs21 193 i rfl rfl) (fun i => fs21 194 i rfl rfl) (fun i => fs21 195 i rfl rfl) (fun i => fs21 196 i rfl rfl) (fun i => fs21 197 i rfl rfl) (fs21 170 42 rfl rfl) (fs21 170 45 rfl rfl) (fs21 170 35 rfl rfl) (fs21 170 34 rfl rfl) (fun i => fs21 188 i rfl rfl) (fun i => fs21 189 i rfl rfl) (show mcQ (zup (zup (zup (zup (zup s19 170 42 ((s19 170 42) - 1)) 170 43 ((s19 170 43) - 1)) 188 ((1600 : Int) * (s19 170 35) + (s19 170 34) : Int).toNat (s19 195 ((st 170 42) - 1 : Int).toNat)) 189 ((1600 : Int) * (s19 170 35) + (s19 170 34) : Int).toNat (0)) 170 34 ((s19 170 34) + 1)) (fs) (c ++ (w ++ [pr])) from ⟨FR_pop fr19, WB_tl mwj, (by rw [← List.append_assoc]; exact CDr_add (b := s19 170 35) (n := s19 170 34) (by omega) cd19 (by omega) (fun h => by omega))⟩))))⟩
  · refine ⟨rfl, fun r22 q22 => ?_⟩
    have b22 := q22
    change (r22 = 0 ∨ r22 = 1) ∧ (r22 = 1 ↔ st 170 3 = 3 ∧ st 170 6 = (43)) at b22
    refine ⟨fun h68 => (by exfalso; clear hQ; omega), fun h68 => ?_⟩
    clear h68 b22
    refine ⟨rfl, fun r23 q23 => ?_⟩
    have b23 := q23
    change (r23 = 0 ∨ r23 = 1) ∧ (r23 = 1 ↔ st 170 3 = 3 ∧ st 170 6 = (45)) at b23
    refine ⟨fun h69 => (by exfalso; clear hQ; omega), fun h69 => ?_⟩
    clear h69 b23
    refine ⟨rfl, fun r24 q24 => ?_⟩
    have b24 := q24
    change (r24 = 0 ∨ r24 = 1) ∧ (r24 = 1 ↔ st 170 3 = 3 ∧ st 170 6 = (42)) at b24
    refine ⟨fun h70 => (by exfalso; clear hQ; omega), fun h70 => ?_⟩
    clear h70 b24
    refine ⟨rfl, fun r25 q25 => ?_⟩
    have b25 := q25
    change (r25 = 0 ∨ r25 = 1) ∧ (r25 = 1 ↔ st 170 3 = 3 ∧ st 170 6 = (47)) at b25
    refine ⟨fun h71 => (by exfalso; clear hQ; omega), fun h71 => ?_⟩
    clear h71 b25
    refine ⟨rfl, fun r26 q26 => ?_⟩
    have b26 := q26
    change (r26 = 0 ∨ r26 = 1) ∧ (r26 = 1 ↔ st 170 3 = 3 ∧ st 170 6 = (37)) at b26
    refine ⟨fun h72 => ?_, fun h72 => (by exfalso; clear hQ; omega)⟩
    clear h72 b26
    refine ⟨fun h73 => ?_, fun h73 => (by exfalso; clear hQ; omega)⟩
    clear h73
    refine ⟨fun h74 => ?_, fun h74 => (by exfalso; clear hQ; omega)⟩
    clear h74
    refine ⟨fun h75 => ?_, fun h75 => (by exfalso; clear hQ; omega)⟩
    clear h75
    refine ⟨fun h76 => ?_, fun h76 => (by exfalso; omega)⟩
    refine ⟨fun h77 => (by exfalso; omega), fun h77 => ?_⟩
    refine ⟨fun h78 => ?_, fun h78 => (by exfalso; omega)⟩
    refine ⟨fun h79 => ?_, fun h79 => (by exfalso; omega)⟩
    refine ⟨rfl, fun r27 q27 => ?_⟩
    have b27 := q27
    change (r27 = 0 ∨ r27 = 1) ∧ (r27 = 1 ↔ st 170 3 = 3 ∧ st 170 6 = (41)) at b27
    refine ⟨fun h80 => ?_, fun h80 => (by exfalso; clear hQ; omega)⟩
    clear h80 b27
    refine ⟨fun h81 => ?_, fun h81 => (by exfalso; omega)⟩
    refine ⟨rfl, ⟨hG, (show FR (st 192) (st 193) (st 194) (st 195) (st 196) (st 197) ((k, ph, bg, pr, w ++ []) :: fs) (st 170 42) (st 170 45) from (by rw [List.append_nil]; exact mfr)), (show WB ((k, ph, bg, pr, w ++ []) :: fs) from (by rw [List.append_nil]; exact mwb)), (show RG w (1) from RG_1 _), (show TR [] (1) from TR_nil _), (show CDr (st 170 35) (st 170 34) (st 188) (st 189) (c) from mcd), (show st 170 34 + st 170 45 ≤ 1600 ∧ 0 ≤ st 170 43 ∧ st 170 43 ≤ 7 ∧ st 170 42 ≤ 9 from by omega)⟩, fun s28 q28 => ?_⟩
    obtain ⟨gs28, fs28, yq28, fr28, cd28, op28, cm28⟩ := q28
    change FR (s28 192) (s28 193) (s28 194) (s28 195) (s28 196) (s28 197) ((k, ph, bg, pr, []) :: fs) (s28 170 42) (s28 170 45) at fr28
    have e82 : s28 170 42 = st 170 42 := fs28 170 42 rfl rfl
    have g83 := g_opMany gs28
    change CDr (s28 170 35) (s28 170 34) (s28 188) (s28 189) (c ++ w) at cd28
    have e84 : s28 170 35 = st 170 35 := fs28 170 35 rfl rfl
    have g85 := g_codes gs28
    change s28 170 43 = st 170 43 - nots w at op28
    have g86 := g_open gs28
    change s28 170 34 + s28 170 45 = st 170 34 + st 170 45 at cm28
    have mwj : WB ((k, ph, bg, pr, []) :: fs) := WB_c (by rw [List.length_nil]; omega) (fun x hx => by cases hx) (WB_tl mwb)
    have mbj := FR_bnd _ _ _ mwj fr28
    simp only [List.length_cons] at mbj
    have mcj := cd28.1
    rw [List.length_append] at mcj
    have e87 : s28 170 3 = st 170 3 := fs28 170 3 rfl rfl
    have e88 : s28 170 6 = st 170 6 := fs28 170 6 rfl rfl
    have e89 : s28 170 7 = st 170 7 := fs28 170 7 rfl rfl
    have e90 : s28 170 12 = st 170 12 := fs28 170 12 rfl rfl
    have e91 : s28 170 8 = st 170 8 := fs28 170 8 rfl rfl
    have e92 : s28 170 4 = st 170 4 := fs28 170 4 rfl rfl
    have e93 : s28 170 5 = st 170 5 := fs28 170 5 rfl rfl
    refine ⟨by omega, ?_⟩
    refine ⟨by omega, ?_⟩
    refine ⟨fun h94 => (by exfalso; omega), fun h94 => ?_⟩
    have g96 := g_pair hG ((st 170 42) - 1 : Int).toNat
    have e95 : s28 195 ((st 170 42) - 1 : Int).toNat = st 195 ((st 170 42) - 1 : Int).toNat := fs28 195 ((st 170 42) - 1 : Int).toNat rfl rfl
    refine ⟨by omega, ?_⟩
    refine ⟨rfl, ⟨(gInv_up (gInv_up gs28 (p_deep (by omega))) (p_open (by omega))), (show s28 170 34 ≤ 1599 from by omega)⟩, ?_⟩
    refine ⟨fun h97 => ?_, fun h97 => (by exfalso; omega)⟩
    refine ⟨rfl, ⟨(gInv_up (gInv_up (gInv_up (gInv_up (gInv_up gs28 (p_deep (by omega))) (p_open (by omega))) (p_codeSort (by omega))) (p_codeValue (by omega))) (p_codes (by omega))), (show RDr (zup (zup (zup (zup (zup s28 170 42 ((s28 170 42) - 1)) 170 43 ((s28 170 43) - 1)) 188 ((1600 : Int) * (s28 170 35) + (s28 170 34) : Int).toNat (s28 195 ((st 170 42) - 1 : Int).toNat)) 189 ((1600 : Int) * (s28 170 35) + (s28 170 34) : Int).toNat (0)) 170 34 ((s28 170 34) + 1)) t n from (show RDr (zup (zup (zup (zup (zup s28 170 42 ((s28 170 42) - 1)) 170 43 ((s28 170 43) - 1)) 188 ((1600 : Int) * (s28 170 35) + (s28 170 34) : Int).toNat (s28 195 ((st 170 42) - 1 : Int).toNat)) 189 ((1600 : Int) * (s28 170 35) + (s28 170 34) : Int).toNat (0)) 170 34 ((s28 170 34) + 1)) t n from (RDr_of (fs28 170 2 rfl rfl) (fun i => fs28 171 i rfl rfl) (fs28 170 3 rfl rfl) (fs28 170 4 rfl rfl) (fs28 170 5 rfl rfl) (fs28 170 6 rfl rfl) (fs28 170 7 rfl rfl) (fs28 170 12 rfl rfl) mrd))), (show s28 170 12 = -1 from by omega)⟩, fun s30 q30 => ?_⟩
    obtain ⟨gs30, fs30, rd30, nx30⟩ := q30
    change RDr s30 t n at rd30
    change NXr (zup (zup (zup (zup (zup s28 170 42 ((s28 170 42) - 1)) 170 43 ((s28 170 43) - 1)) 188 ((1600 : Int) * (s28 170 35) + (s28 170 34) : Int).toNat (s28 195 ((st 170 42) - 1 : Int).toNat)) 189 ((1600 : Int) * (s28 170 35) + (s28 170 34) : Int).toNat (0)) 170 34 ((s28 170 34) + 1)) s30 t n at nx30
    refine ⟨by omega, ?_⟩
    have e98 : s30 170 8 = s28 170 8 := fs30 170 8 rfl rfl
    have e100 : s28 170 46 = st 170 46 := fs28 170 46 rfl rfl
    have e99 : s30 170 46 = s28 170 46 := fs30 170 46 rfl rfl
    have e101 : s30 170 43 = ((s28 170 43) - 1) := fs30 170 43 rfl rfl
    have e102 : s30 170 34 = ((s28 170 34) + 1) := fs30 170 34 rfl rfl
    have e103 : s30 170 45 = s28 170 45 := fs30 170 45 rfl rfl
    have e104 : s30 170 42 = ((s28 170 42) - 1) := fs30 170 42 rfl rfl
    have g105 := g_signAt gs30
    exact hQ _ _ ⟨gs30, (fr_tr (fr_f (fr_a (fr_a (fr_f (fr_f (fr_tr (fr_rf _ _) fs28 rfl) rfl) rfl) rfl) rfl) rfl) fs30 rfl), (Z9_tr (Z9_up (Z9_st (Z9_up (Z9_up (Z9_up yq28 (by decide)) (by decide)) (by decide)) (b := s28 170 35) ((show aFr m_rGo74 st s28 from (fr_tr (fr_rf _ _) fs28 rfl)) 170 35 rfl rfl) (by omega)) (by decide)) ((show aFr m_rGo74 st (zup (zup (zup (zup (zup s28 170 42 ((s28 170 42) - 1)) 170 43 ((s28 170 43) - 1)) 188 ((1600 : Int) * (s28 170 35) + (s28 170 34) : Int).toNat (s28 195 ((st 170 42) - 1 : Int).toNat)) 189 ((1600 : Int) * (s28 170 35) + (s28 170 34) : Int).toNat (0)) 170 34 ((s28 170 34) + 1)) from (fr_f (fr_a (fr_a (fr_f (fr_f (fr_tr (fr_rf _ _) fs28 rfl) rfl) rfl) rfl) rfl) rfl)) 170 35 rfl rfl) (Z9_fr fs30 (fun _ => rfl) rfl)), (show (1 : Int) = 1 ∧ mcP t n s30 (fs) 1 (o) (c ++ (w ++ [pr])) (e) from (by
            have tkk := ht.1
            have e195 := (fs28 195 (st 170 42 - 1 : Int).toNat rfl rfl).trans mt.2.2.2.2.1
            have hp : s30 170 4 = e := NXr_e (st := (zup (zup (zup (zup (zup s28 170 42 ((s28 170 42) - 1)) 170 43 ((s28 170 43) - 1)) 188 ((1600 : Int) * (s28 170 35) + (s28 170 34) : Int).toNat (s28 195 ((st 170 42) - 1 : Int).toNat)) 189 ((1600 : Int) * (s28 170 35) + (s28 170 34) : Int).toNat (0)) 170 34 ((s28 170 34) + 1))) (show NXr (zup (zup (zup (zup (zup s28 170 42 ((s28 170 42) - 1)) 170 43 ((s28 170 43) - 1)) 188 ((1600 : Int) * (s28 170 35) + (s28 170 34) : Int).toNat (s28 195 ((st 170 42) - 1 : Int).toNat)) 189 ((1600 : Int) * (s28 170 35) + (s28 170 34) : Int).toNat (0)) 170 34 ((s28 170 34) + 1)) s30 t n from nx30) (show tk t n ((zup (zup (zup (zup (zup s28 170 42 ((s28 170 42) - 1)) 170 43 ((s28 170 43) - 1)) 188 ((1600 : Int) * (s28 170 35) + (s28 170 34) : Int).toNat (s28 195 ((st 170 42) - 1 : Int).toNat)) 189 ((1600 : Int) * (s28 170 35) + (s28 170 34) : Int).toNat (0)) 170 34 ((s28 170 34) + 1)) 170 4) _ _ e from by rw [show (zup (zup (zup (zup (zup s28 170 42 ((s28 170 42) - 1)) 170 43 ((s28 170 43) - 1)) 188 ((1600 : Int) * (s28 170 35) + (s28 170 34) : Int).toNat (s28 195 ((st 170 42) - 1 : Int).toNat)) 189 ((1600 : Int) * (s28 170 35) + (s28 170 34) : Int).toNat (0)) 170 34 ((s28 170 34) + 1)) 170 4 = p from (show s28 170 4 = p from by omega)]; exact tkk) (by omega)
            have hl := tk_lt tkk (show 0 ≤ p from by rw [← mpp]; exact mrd.2.1.1) (by omega)
            refine ⟨rfl, (show s30 170 8 = 0 from by omega), (show s30 170 46 = 1 from by omega), (show s30 170 43 = o from by omega), hp, (show RDr _ t n from rd30), ?_, (show s30 170 34 + s30 170 45 + s30 170 42 ≤ e from by omega), by omega, by omega, by first | omega | (simp only [List.length_cons]; omega) | (simp only [List.length_cons] at mz3 ⊢; omega)⟩
            exact (mcQ_of (fun i => fs30 192 i rfl rfl) (fun i => fs30 193 i rfl rfl) (fun i => fs30 194 i rfl rfl) (fun i => fs30 195 i rfl rfl) (fun i => fs30 196 i rfl rfl) (fun i => fs30 197 i rfl rfl) (fs30 170 42 rfl rfl) (fs30 170 45 rfl rfl) (fs30 170 35 rfl rfl) (fs30 170 34 rfl rfl) (fun i => fs30 188 i rfl rfl) (fun i => fs30 189 i rfl rfl) (show mcQ (zup (zup (zup (zup (zup s28 170 42 ((s28 170 42) - 1)) 170 43 ((s28 170 43) - 1)) 188 ((1600 : Int) * (s28 170 35) + (s28 170 34) : Int).toNat (s28 195 ((st 170 42) - 1 : Int).toNat)) 189 ((1600 : Int) * (s28 170 35) + (s28 170 34) : Int).toNat (0)) 170 34 ((s28 170 34) + 1)) (fs) (c ++ (w ++ [pr])) from ⟨FR_pop fr28, WB_tl mwj, (by rw [← List.append_assoc]; exact CDr_add (b := s28 170 35) (n := s28 170 34) (by omega) cd28 (by omega) (fun h => by omega))⟩))))⟩
theorem k_rGo74_m (hTb : aTb zSh rx_tb cl) {t : Int → Int} {n k ph bg pr o p e : Int} {w c : List Int} {fs : List mFr} {x : Int} {D : Nat} (hD : 3 ≤ D) : ∀ as st (Q Q' : zQ), (∀ r st', Q r st' → Q' r st') → (k_rGo74 t n k ph bg pr o p e w c fs x) 197 as st Q → cl D 197 as st Q' := by
  intro as st Q Q' hQ h
  unfold k_rGo74 at h
  split at h
  · obtain ⟨rfl, h⟩ := h
    exact c_rGo74 hTb hD (ct_rGo74_m hQ h)
  · exact h.elim
set_option maxHeartbeats 4000000 in
set_option maxRecDepth 100000 in
theorem c_rGo75 (hTb : aTb zSh rx_tb cl) {t : Int → Int} {n k ph bg pr o p e : Int} {w c : List Int} {fs : List mFr} {k2 ph2 bg2 pr2 x : Int} {w2 : List Int} {D : Nat} (hD : 3 ≤ D) {st : zS} {Q : zQ} (h : ct_rGo75 t n k ph bg pr o p e w c fs k2 ph2 bg2 pr2 x w2 st Q) : cl D 197 [.inr (.inr (.inl 170))] st Q := by
  obtain ⟨d, rfl⟩ : ∃ d, D = d + 1 := ⟨D - 1, by omega⟩
  refine hTb d 197 (rx_m197, 5, 0, 0, 2) rfl _ _ _ (Nat.le_of_ble_eq_true rfl) (fun K hcl hsf hsl => ?_)
  have hcm : zmo (wcL [(181, k_rLex), (195, k_isTest), (183, k_isWord), (182, k_isSign), (149, k_rNext t n), (189, k_add), (192, k_holdsBack), (191, k_rJoins 5 ph bg pr w [] ((k2, ph2, bg2, pr2, w2) :: fs) c)]) (cl d) := (wcL_m (wm_cons (k_rLex_m hTb (by omega)) (wm_cons (k_isTest_m hTb (by omega)) (wm_cons (k_isWord_m hTb (by omega)) (wm_cons (k_isSign_m hTb (by omega)) (wm_cons (k_rNext_m hTb (by omega)) (wm_cons (k_add_m hTb (by omega)) (wm_cons (k_holdsBack_m hTb (by omega)) (wm_cons (k_rJoins_m hTb (by omega)) wm_nil)))))))))
  obtain ⟨hR, hQ⟩ := h
  obtain ⟨hG, mp, ht⟩ := hR
  change mcP t n st ((5, ph, bg, pr, w) :: (k2, ph2, bg2, pr2, w2) :: fs) 1 (x) (c) (p) at mp
  change tk t n p 3 93 e ∧ k = 5 ∧ ¬ ph = 0 ∧ x = o + 1 + nots w ∧ 0 ≤ o at ht
  obtain ⟨mf, mo, mn, mpp, mrd, mq, mbd, mz1, mz2, mz3⟩ := mp
  simp only [List.length_cons] at mz3
  have mq0 := mq
  obtain ⟨mfr, mwb, mcd⟩ := mq
  have mt := FR_top mfr
  have mb := FR_bnd _ _ _ mwb mfr
  simp only [List.length_cons] at mb
  have ml := WB_hd mwb
  have mcl := mcd.1
  have mlw := FR_len mb.2.1 mfr
  have mnb := nots_b w
  have tf := r_sig mrd (by rw [mpp]; exact ht.1)
  have tkT : k = 1 ∨ k = 5 ∨ k = 6 := Or.inr (Or.inl ht.2.1)
  have g1 := g_codes hG
  have g2 := g_in hG
  have g3 := g_isClever hG
  have g4 := g_deep hG
  have g5 := g_open hG
  have g6 := g_opMany hG
  have g7 := g_signAt hG
  have g8 := g_signEnd hG
  have g9 := g_faultKind hG
  have g10 := g_size hG
  have g11 := g_sign hG
  have g12 := g_lexAt hG
  have g13 := g_value hG
  have g14 := g_word hG
  have g15 := g_operand hG
  refine yr1_ok (Rt := Q) (wc := (wcL [(181, k_rLex), (195, k_isTest), (183, k_isWord), (182, k_isSign), (149, k_rNext t n), (189, k_add), (192, k_holdsBack), (191, k_rJoins 5 ph bg pr w [] ((k2, ph2, bg2, pr2, w2) :: fs) c)])) (stp := []) hcm hcl [] 500 ?_
  show (170 = 170 ∧ (rq_rLex  st ∧ (((st 170 8 ≤ (0 : Int) → ((-2147483648 ≤ (st 170 42) - 1 ∧ (st 170 42) - 1 ≤ 2147483647) ∧ ((0 ≤ (st 170 42) - 1 ∧ (st 170 42) - 1 < 20) ∧ (∀ (r17 : Int), en_isTest (st 192 ((st 170 42) - 1 : Int).toNat) st r17 → ((0 ≤ (st 170 42) - 1 ∧ (st 170 42) - 1 < 20) ∧ (((2 : Int) ≤ st 193 ((st 170 42) - 1 : Int).toNat → ((r17 = (0 : Int) → _) ∧ (¬ (r17 = (0 : Int)) → ((0 ≤ (st 170 42) - 1 ∧ (st 170 42) - 1 < 20) ∧ ((¬ st 193 ((st 170 42) - 1 : Int).toNat = (0 : Int) → ((r17 = (0 : Int) → _) ∧ (¬ (r17 = (0 : Int)) → (170 = 170 ∧ (∀ (r18 : Int), en_isWord (6385252) st r18 → ((¬ r18 = (0 : Int) → _) ∧ (¬ (¬ r18 = (0 : Int)) → (170 = 170 ∧ (∀ (r19 : Int), en_isWord (28530) st r19 → ((r19 = (0 : Int) → ((r17 = (0 : Int) → _) ∧ (¬ (r17 = (0 : Int)) → ((0 ≤ (st 170 42) - 1 ∧ (st 170 42) - 1 < 20) ∧ ((¬ st 193 ((st 170 42) - 1 : Int).toNat = (0 : Int) → (((2 : Int) ≤ st 192 ((st 170 42) - 1 : Int).toNat → ((st 192 ((st 170 42) - 1 : Int).toNat = (3 : Int) → _) ∧ (¬ (st 192 ((st 170 42) - 1 : Int).toNat = (3 : Int)) → ((¬ st 192 ((st 170 42) - 1 : Int).toNat = (6 : Int) → ((¬ st 192 ((st 170 42) - 1 : Int).toNat = (5 : Int) → _) ∧ (¬ (¬ st 192 ((st 170 42) - 1 : Int).toNat = (5 : Int)) → (170 = 170 ∧ (∀ (r20 : Int), en_isSign (93) st r20 → ((¬ r20 = (0 : Int) → ((st 170 8 ≤ (0 : Int) → (170 = 170 ∧ (rq_rJoins 5 ph bg pr w [] ((k2, ph2, bg2, pr2, w2) :: fs) c (1) st ∧ (∀ (s21 : zS), en_rJoins 5 ph bg pr w [] ((k2, ph2, bg2, pr2, w2) :: fs) c (1) st s21 → ((-2147483648 ≤ (s21 170 42) - 1 ∧ (s21 170 42) - 1 ≤ 2147483647) ∧ ((-2147483648 ≤ (s21 170 43) - 1 ∧ (s21 170 43) - 1 ≤ 2147483647) ∧ ((¬ st 192 ((st 170 42) - 1 : Int).toNat = (4 : Int) → ((¬ st 192 ((st 170 42) - 1 : Int).toNat = (5 : Int) → _) ∧ (¬ (¬ st 192 ((st 170 42) - 1 : Int).toNat = (5 : Int)) → ((-2147483648 ≤ ((s21 170 42) - 1) - 1 ∧ ((s21 170 42) - 1) - 1 ≤ 2147483647) ∧ ((0 ≤ ((s21 170 42) - 1) - 1 ∧ ((s21 170 42) - 1) - 1 < 20) ∧ (170 = 170 ∧ (rq_rNext t n  (zup (zup (zup s21 170 42 ((s21 170 42) - 1)) 170 43 ((s21 170 43) - 1)) 193 (((s21 170 42) - 1) - 1 : Int).toNat 2) ∧ (∀ (s22 : zS), en_rNext t n  (zup (zup (zup s21 170 42 ((s21 170 42) - 1)) 170 43 ((s21 170 43) - 1)) 193 (((s21 170 42) - 1) - 1 : Int).toNat 2) s22 → ((1 = (0 : Int) ∨ 1 = (1 : Int)) ∧ Q (some (.inl 1)) s22))))))))) ∧ (¬ (¬ st 192 ((st 170 42) - 1 : Int).toNat = (4 : Int)) → _)))))))) ∧ (¬ (st 170 8 ≤ (0 : Int)) → _))) ∧ (¬ (¬ r20 = (0 : Int)) → _))))))) ∧ (¬ (¬ st 192 ((st 170 42) - 1 : Int).toNat = (6 : Int)) → _))))) ∧ (¬ ((2 : Int) ≤ st 192 ((st 170 42) - 1 : Int).toNat) → _))) ∧ (¬ (¬ st 193 ((st 170 42) - 1 : Int).toNat = (0 : Int)) → _)))))) ∧ (¬ (r19 = (0 : Int)) → _))))))))))) ∧ (¬ (¬ st 193 ((st 170 42) - 1 : Int).toNat = (0 : Int)) → _)))))) ∧ (¬ ((2 : Int) ≤ st 193 ((st 170 42) - 1 : Int).toNat) → (170 = 170 ∧ (∀ (r23 : Int), en_isSign (43) st r23 → ((¬ r23 = (0 : Int) → _) ∧ (¬ (¬ r23 = (0 : Int)) → (170 = 170 ∧ (∀ (r24 : Int), en_isSign (45) st r24 → ((¬ r24 = (0 : Int) → _) ∧ (¬ (¬ r24 = (0 : Int)) → (170 = 170 ∧ (∀ (r25 : Int), en_isSign (42) st r25 → ((¬ r25 = (0 : Int) → _) ∧ (¬ (¬ r25 = (0 : Int)) → (170 = 170 ∧ (∀ (r26 : Int), en_isSign (47) st r26 → ((¬ r26 = (0 : Int) → _) ∧ (¬ (¬ r26 = (0 : Int)) → (170 = 170 ∧ (∀ (r27 : Int), en_isSign (37) st r27 → ((r27 = (0 : Int) → ((r17 = (0 : Int) → _) ∧ (¬ (r17 = (0 : Int)) → ((0 ≤ (st 170 42) - 1 ∧ (st 170 42) - 1 < 20) ∧ ((¬ st 193 ((st 170 42) - 1 : Int).toNat = (0 : Int) → ((r17 = (0 : Int) → _) ∧ (¬ (r17 = (0 : Int)) → (170 = 170 ∧ (∀ (r28 : Int), en_isWord (6385252) st r28 → ((¬ r28 = (0 : Int) → _) ∧ (¬ (¬ r28 = (0 : Int)) → (170 = 170 ∧ (∀ (r29 : Int), en_isWord (28530) st r29 → ((r29 = (0 : Int) → ((r17 = (0 : Int) → _) ∧ (¬ (r17 = (0 : Int)) → ((0 ≤ (st 170 42) - 1 ∧ (st 170 42) - 1 < 20) ∧ ((¬ st 193 ((st 170 42) - 1 : Int).toNat = (0 : Int) → (((2 : Int) ≤ st 192 ((st 170 42) - 1 : Int).toNat → ((st 192 ((st 170 42) - 1 : Int).toNat = (3 : Int) → _) ∧ (¬ (st 192 ((st 170 42) - 1 : Int).toNat = (3 : Int)) → ((¬ st 192 ((st 170 42) - 1 : Int).toNat = (6 : Int) → ((¬ st 192 ((st 170 42) - 1 : Int).toNat = (5 : Int) → _) ∧ (¬ (¬ st 192 ((st 170 42) - 1 : Int).toNat = (5 : Int)) → (170 = 170 ∧ (∀ (r30 : Int), en_isSign (93) st r30 → ((¬ r30 = (0 : Int) → ((st 170 8 ≤ (0 : Int) → (170 = 170 ∧ (rq_rJoins 5 ph bg pr w [] ((k2, ph2, bg2, pr2, w2) :: fs) c (1) st ∧ (∀ (s31 : zS), en_rJoins 5 ph bg pr w [] ((k2, ph2, bg2, pr2, w2) :: fs) c (1) st s31 → ((-2147483648 ≤ (s31 170 42) - 1 ∧ (s31 170 42) - 1 ≤ 2147483647) ∧ ((-2147483648 ≤ (s31 170 43) - 1 ∧ (s31 170 43) - 1 ≤ 2147483647) ∧ ((¬ st 192 ((st 170 42) - 1 : Int).toNat = (4 : Int) → ((¬ st 192 ((st 170 42) - 1 : Int).toNat = (5 : Int) → _) ∧ (¬ (¬ st 192 ((st 170 42) - 1 : Int).toNat = (5 : Int)) → ((-2147483648 ≤ ((s31 170 42) - 1) - 1 ∧ ((s31 170 42) - 1) - 1 ≤ 2147483647) ∧ ((0 ≤ ((s31 170 42) - 1) - 1 ∧ ((s31 170 42) - 1) - 1 < 20) ∧ (170 = 170 ∧ (rq_rNext t n  (zup (zup (zup s31 170 42 ((s31 170 42) - 1)) 170 43 ((s31 170 43) - 1)) 193 (((s31 170 42) - 1) - 1 : Int).toNat 2) ∧ (∀ (s32 : zS), en_rNext t n  (zup (zup (zup s31 170 42 ((s31 170 42) - 1)) 170 43 ((s31 170 43) - 1)) 193 (((s31 170 42) - 1) - 1 : Int).toNat 2) s32 → ((1 = (0 : Int) ∨ 1 = (1 : Int)) ∧ Q (some (.inl 1)) s32))))))))) ∧ (¬ (¬ st 192 ((st 170 42) - 1 : Int).toNat = (4 : Int)) → _)))))))) ∧ (¬ (st 170 8 ≤ (0 : Int)) → _))) ∧ (¬ (¬ r30 = (0 : Int)) → _))))))) ∧ (¬ (¬ st 192 ((st 170 42) - 1 : Int).toNat = (6 : Int)) → _))))) ∧ (¬ ((2 : Int) ≤ st 192 ((st 170 42) - 1 : Int).toNat) → _))) ∧ (¬ (¬ st 193 ((st 170 42) - 1 : Int).toNat = (0 : Int)) → _)))))) ∧ (¬ (r29 = (0 : Int)) → _))))))))))) ∧ (¬ (¬ st 193 ((st 170 42) - 1 : Int).toNat = (0 : Int)) → _)))))) ∧ (¬ (r27 = (0 : Int)) → _))))))))))))))))))))))))))) ∧ (¬ (st 170 8 ≤ (0 : Int)) → _)))))
  refine ⟨rfl, ⟨hG, (show st 170 12 = -1 from by omega)⟩, ?_⟩
  refine ⟨fun h33 => ?_, fun h33 => (by exfalso; omega)⟩
  refine ⟨by omega, ?_⟩
  have g34 := g_frame hG ((st 170 42) - 1 : Int).toNat
  refine ⟨by omega, ?_⟩
  refine fun r17 q17 => ?_
  have b17 := q17
  change (r17 = 0 ∨ r17 = 1) ∧ (r17 = 1 ↔ (st 192 ((st 170 42) - 1 : Int).toNat) = 1 ∨ (st 192 ((st 170 42) - 1 : Int).toNat) = 5 ∨ (st 192 ((st 170 42) - 1 : Int).toNat) = 6) at b17
  have g35 := g_phase hG ((st 170 42) - 1 : Int).toNat
  refine ⟨by omega, ?_⟩
  refine ⟨fun h36 => ?_, fun h36 => ?_⟩
  · refine ⟨fun h37 => (by exfalso; clear hQ; omega), fun h37 => ?_⟩
    clear h37
    refine ⟨by omega, ?_⟩
    refine ⟨fun h38 => ?_, fun h38 => (by exfalso; omega)⟩
    refine ⟨fun h39 => (by exfalso; clear hQ; omega), fun h39 => ?_⟩
    clear h39
    refine ⟨rfl, fun r18 q18 => ?_⟩
    have b18 := q18
    change (r18 = 0 ∨ r18 = 1) ∧ (r18 = 1 ↔ st 170 3 = 1 ∧ st 170 7 = (6385252)) at b18
    refine ⟨fun h40 => (by exfalso; clear hQ; omega), fun h40 => ?_⟩
    clear h40 b18
    refine ⟨rfl, fun r19 q19 => ?_⟩
    have b19 := q19
    change (r19 = 0 ∨ r19 = 1) ∧ (r19 = 1 ↔ st 170 3 = 1 ∧ st 170 7 = (28530)) at b19
    refine ⟨fun h41 => ?_, fun h41 => (by exfalso; clear hQ; omega)⟩
    clear h41 b19
    refine ⟨fun h42 => (by exfalso; clear hQ; omega), fun h42 => ?_⟩
    clear h42
    refine ⟨by omega, ?_⟩
    refine ⟨fun h43 => ?_, fun h43 => (by exfalso; omega)⟩
    refine ⟨fun h44 => ?_, fun h44 => (by exfalso; omega)⟩
    refine ⟨fun h45 => (by exfalso; omega), fun h45 => ?_⟩
    refine ⟨fun h46 => ?_, fun h46 => (by exfalso; omega)⟩
    refine ⟨fun h47 => (by exfalso; omega), fun h47 => ?_⟩
    refine ⟨rfl, fun r20 q20 => ?_⟩
    have b20 := q20
    change (r20 = 0 ∨ r20 = 1) ∧ (r20 = 1 ↔ st 170 3 = 3 ∧ st 170 6 = (93)) at b20
    refine ⟨fun h48 => ?_, fun h48 => (by exfalso; clear hQ; omega)⟩
    clear h48 b20
    refine ⟨fun h49 => ?_, fun h49 => (by exfalso; omega)⟩
    refine ⟨rfl, ⟨hG, (show FR (st 192) (st 193) (st 194) (st 195) (st 196) (st 197) ((5, ph, bg, pr, w ++ []) :: ((k2, ph2, bg2, pr2, w2) :: fs)) (st 170 42) (st 170 45) from (by rw [List.append_nil]; exact mfr)), (show WB ((5, ph, bg, pr, w ++ []) :: ((k2, ph2, bg2, pr2, w2) :: fs)) from (by rw [List.append_nil]; exact mwb)), (show RG w (1) from RG_1 _), (show TR [] (1) from TR_nil _), (show CDr (st 170 35) (st 170 34) (st 188) (st 189) (c) from mcd), (show st 170 34 + st 170 45 ≤ 1600 ∧ 0 ≤ st 170 43 ∧ st 170 43 ≤ 7 ∧ st 170 42 ≤ 9 from by omega)⟩, fun s21 q21 => ?_⟩
    obtain ⟨gs21, fs21, yq21, fr21, cd21, op21, cm21⟩ := q21
    change FR (s21 192) (s21 193) (s21 194) (s21 195) (s21 196) (s21 197) ((5, ph, bg, pr, []) :: ((k2, ph2, bg2, pr2, w2) :: fs)) (s21 170 42) (s21 170 45) at fr21
    have e50 : s21 170 42 = st 170 42 := fs21 170 42 rfl rfl
    have g51 := g_opMany gs21
    change CDr (s21 170 35) (s21 170 34) (s21 188) (s21 189) (c ++ w) at cd21
    have e52 : s21 170 35 = st 170 35 := fs21 170 35 rfl rfl
    have g53 := g_codes gs21
    change s21 170 43 = st 170 43 - nots w at op21
    have g54 := g_open gs21
    change s21 170 34 + s21 170 45 = st 170 34 + st 170 45 at cm21
    have mwj : WB ((5, ph, bg, pr, []) :: (k2, ph2, bg2, pr2, w2) :: fs) := WB_c (by rw [List.length_nil]; omega) (fun x hx => by cases hx) (WB_tl mwb)
    have mbj := FR_bnd _ _ _ mwj fr21
    simp only [List.length_cons] at mbj
    have mcj := cd21.1
    rw [List.length_append] at mcj
    have e55 : s21 170 3 = st 170 3 := fs21 170 3 rfl rfl
    have e56 : s21 170 6 = st 170 6 := fs21 170 6 rfl rfl
    have e57 : s21 170 7 = st 170 7 := fs21 170 7 rfl rfl
    have e58 : s21 170 12 = st 170 12 := fs21 170 12 rfl rfl
    have e59 : s21 170 8 = st 170 8 := fs21 170 8 rfl rfl
    have e60 : s21 170 4 = st 170 4 := fs21 170 4 rfl rfl
    have e61 : s21 170 5 = st 170 5 := fs21 170 5 rfl rfl
    refine ⟨by omega, ?_⟩
    refine ⟨by omega, ?_⟩
    refine ⟨fun h62 => ?_, fun h62 => (by exfalso; omega)⟩
    refine ⟨fun h63 => (by exfalso; omega), fun h63 => ?_⟩
    refine ⟨by omega, ?_⟩
    refine ⟨by omega, ?_⟩
    refine ⟨rfl, ⟨(gInv_up (gInv_up (gInv_up gs21 (p_deep (by omega))) (p_open (by omega))) (p_phase (by omega))), (show RDr (zup (zup (zup s21 170 42 ((s21 170 42) - 1)) 170 43 ((s21 170 43) - 1)) 193 (((s21 170 42) - 1) - 1 : Int).toNat 2) t n from (show RDr (zup (zup (zup s21 170 42 ((s21 170 42) - 1)) 170 43 ((s21 170 43) - 1)) 193 (((s21 170 42) - 1) - 1 : Int).toNat 2) t n from (RDr_of (fs21 170 2 rfl rfl) (fun i => fs21 171 i rfl rfl) (fs21 170 3 rfl rfl) (fs21 170 4 rfl rfl) (fs21 170 5 rfl rfl) (fs21 170 6 rfl rfl) (fs21 170 7 rfl rfl) (fs21 170 12 rfl rfl) mrd))), (show s21 170 12 = -1 from by omega)⟩, fun s22 q22 => ?_⟩
    obtain ⟨gs22, fs22, rd22, nx22⟩ := q22
    change RDr s22 t n at rd22
    change NXr (zup (zup (zup s21 170 42 ((s21 170 42) - 1)) 170 43 ((s21 170 43) - 1)) 193 (((s21 170 42) - 1) - 1 : Int).toNat 2) s22 t n at nx22
    refine ⟨by omega, ?_⟩
    have e64 : s22 170 8 = s21 170 8 := fs22 170 8 rfl rfl
    have e66 : s21 170 46 = st 170 46 := fs21 170 46 rfl rfl
    have e65 : s22 170 46 = s21 170 46 := fs22 170 46 rfl rfl
    have e67 : s22 170 43 = ((s21 170 43) - 1) := fs22 170 43 rfl rfl
    have e68 : s22 170 34 = s21 170 34 := fs22 170 34 rfl rfl
    have e69 : s22 170 45 = s21 170 45 := fs22 170 45 rfl rfl
    have e70 : s22 170 42 = ((s21 170 42) - 1) := fs22 170 42 rfl rfl
    have g71 := g_signAt gs22
    exact hQ _ _ ⟨gs22, (fr_tr (fr_a (fr_f (fr_f (fr_tr (fr_rf _ _) fs21 rfl) rfl) rfl) rfl) fs22 rfl), (Z9_tr (Z9_up (Z9_up (Z9_up yq21 (by decide)) (by decide)) (by decide)) ((show aFr m_rGo75 st (zup (zup (zup s21 170 42 ((s21 170 42) - 1)) 170 43 ((s21 170 43) - 1)) 193 (((s21 170 42) - 1) - 1 : Int).toNat 2) from (fr_a (fr_f (fr_f (fr_tr (fr_rf _ _) fs21 rfl) rfl) rfl) rfl)) 170 35 rfl rfl) (Z9_fr fs22 (fun _ => rfl) rfl)), (show (1 : Int) = 1 ∧ mcP t n s22 ((k2, 2, bg2, pr2, w2) :: fs) 1 (o) (c ++ w) (e) from (by
            have tkk := ht.1
            have hp : s22 170 4 = e := NXr_e (st := (zup (zup (zup s21 170 42 ((s21 170 42) - 1)) 170 43 ((s21 170 43) - 1)) 193 (((s21 170 42) - 1) - 1 : Int).toNat 2)) (show NXr (zup (zup (zup s21 170 42 ((s21 170 42) - 1)) 170 43 ((s21 170 43) - 1)) 193 (((s21 170 42) - 1) - 1 : Int).toNat 2) s22 t n from nx22) (show tk t n ((zup (zup (zup s21 170 42 ((s21 170 42) - 1)) 170 43 ((s21 170 43) - 1)) 193 (((s21 170 42) - 1) - 1 : Int).toNat 2) 170 4) _ _ e from by rw [show (zup (zup (zup s21 170 42 ((s21 170 42) - 1)) 170 43 ((s21 170 43) - 1)) 193 (((s21 170 42) - 1) - 1 : Int).toNat 2) 170 4 = p from (show s21 170 4 = p from by omega)]; exact tkk) (by omega)
            have hl := tk_lt tkk (show 0 ≤ p from by rw [← mpp]; exact mrd.2.1.1) (by omega)
            refine ⟨rfl, (show s22 170 8 = 0 from by omega), (show s22 170 46 = 1 from by omega), (show s22 170 43 = o from by omega), hp, (show RDr _ t n from rd22), ?_, (show s22 170 34 + s22 170 45 + s22 170 42 ≤ e from by omega), by omega, by omega, by first | omega | (simp only [List.length_cons]; omega) | (simp only [List.length_cons] at mz3 ⊢; omega)⟩
            exact (mcQ_of (fun i => fs22 192 i rfl rfl) (fun i => fs22 193 i rfl rfl) (fun i => fs22 194 i rfl rfl) (fun i => fs22 195 i rfl rfl) (fun i => fs22 196 i rfl rfl) (fun i => fs22 197 i rfl rfl) (fs22 170 42 rfl rfl) (fs22 170 45 rfl rfl) (fs22 170 35 rfl rfl) (fs22 170 34 rfl rfl) (fun i => fs22 188 i rfl rfl) (fun i => fs22 189 i rfl rfl) (show mcQ (zup (zup (zup s21 170 42 ((s21 170 42) - 1)) 170 43 ((s21 170 43) - 1)) 193 (((s21 170 42) - 1) - 1 : Int).toNat 2) ((k2, 2, bg2, pr2, w2) :: fs) (c ++ w) from ⟨FR_ph (m := s21 170 45) 2 (by omega) (FR_pop fr21), WB_c (WB_hd (WB_tl mwj)) (WB_el (WB_tl mwj)) (WB_tl (WB_tl mwj)), cd21⟩))))⟩
  · refine ⟨rfl, fun r23 q23 => ?_⟩
    have b23 := q23
    change (r23 = 0 ∨ r23 = 1) ∧ (r23 = 1 ↔ st 170 3 = 3 ∧ st 170 6 = (43)) at b23
    refine ⟨fun h72 => (by exfalso; clear hQ; omega), fun h72 => ?_⟩
    clear h72 b23
    refine ⟨rfl, fun r24 q24 => ?_⟩
    have b24 := q24
    change (r24 = 0 ∨ r24 = 1) ∧ (r24 = 1 ↔ st 170 3 = 3 ∧ st 170 6 = (45)) at b24
    refine ⟨fun h73 => (by exfalso; clear hQ; omega), fun h73 => ?_⟩
    clear h73 b24
    refine ⟨rfl, fun r25 q25 => ?_⟩
    have b25 := q25
    change (r25 = 0 ∨ r25 = 1) ∧ (r25 = 1 ↔ st 170 3 = 3 ∧ st 170 6 = (42)) at b25
    refine ⟨fun h74 => (by exfalso; clear hQ; omega), fun h74 => ?_⟩
    clear h74 b25
    refine ⟨rfl, fun r26 q26 => ?_⟩
    have b26 := q26
    change (r26 = 0 ∨ r26 = 1) ∧ (r26 = 1 ↔ st 170 3 = 3 ∧ st 170 6 = (47)) at b26
    refine ⟨fun h75 => (by exfalso; clear hQ; omega), fun h75 => ?_⟩
    clear h75 b26
    refine ⟨rfl, fun r27 q27 => ?_⟩
    have b27 := q27
    change (r27 = 0 ∨ r27 = 1) ∧ (r27 = 1 ↔ st 170 3 = 3 ∧ st 170 6 = (37)) at b27
    refine ⟨fun h76 => ?_, fun h76 => (by exfalso; clear hQ; omega)⟩
    clear h76 b27
    refine ⟨fun h77 => (by exfalso; clear hQ; omega), fun h77 => ?_⟩
    clear h77
    refine ⟨by omega, ?_⟩
    refine ⟨fun h78 => ?_, fun h78 => (by exfalso; omega)⟩
    refine ⟨fun h79 => (by exfalso; clear hQ; omega), fun h79 => ?_⟩
    clear h79
    refine ⟨rfl, fun r28 q28 => ?_⟩
    have b28 := q28
    change (r28 = 0 ∨ r28 = 1) ∧ (r28 = 1 ↔ st 170 3 = 1 ∧ st 170 7 = (6385252)) at b28
    refine ⟨fun h80 => (by exfalso; clear hQ; omega), fun h80 => ?_⟩
    clear h80 b28
    refine ⟨rfl, fun r29 q29 => ?_⟩
    have b29 := q29
    change (r29 = 0 ∨ r29 = 1) ∧ (r29 = 1 ↔ st 170 3 = 1 ∧ st 170 7 = (28530)) at b29
    refine ⟨fun h81 => ?_, fun h81 => (by exfalso; clear hQ; omega)⟩
    clear h81 b29
    refine ⟨fun h82 => (by exfalso; clear hQ; omega), fun h82 => ?_⟩
    clear h82
    refine ⟨by omega, ?_⟩
    refine ⟨fun h83 => ?_, fun h83 => (by exfalso; omega)⟩
    refine ⟨fun h84 => ?_, fun h84 => (by exfalso; omega)⟩
    refine ⟨fun h85 => (by exfalso; omega), fun h85 => ?_⟩
    refine ⟨fun h86 => ?_, fun h86 => (by exfalso; omega)⟩
    refine ⟨fun h87 => (by exfalso; omega), fun h87 => ?_⟩
    refine ⟨rfl, fun r30 q30 => ?_⟩
    have b30 := q30
    change (r30 = 0 ∨ r30 = 1) ∧ (r30 = 1 ↔ st 170 3 = 3 ∧ st 170 6 = (93)) at b30
    refine ⟨fun h88 => ?_, fun h88 => (by exfalso; clear hQ; omega)⟩
    clear h88 b30
    refine ⟨fun h89 => ?_, fun h89 => (by exfalso; omega)⟩
    refine ⟨rfl, ⟨hG, (show FR (st 192) (st 193) (st 194) (st 195) (st 196) (st 197) ((5, ph, bg, pr, w ++ []) :: ((k2, ph2, bg2, pr2, w2) :: fs)) (st 170 42) (st 170 45) from (by rw [List.append_nil]; exact mfr)), (show WB ((5, ph, bg, pr, w ++ []) :: ((k2, ph2, bg2, pr2, w2) :: fs)) from (by rw [List.append_nil]; exact mwb)), (show RG w (1) from RG_1 _), (show TR [] (1) from TR_nil _), (show CDr (st 170 35) (st 170 34) (st 188) (st 189) (c) from mcd), (show st 170 34 + st 170 45 ≤ 1600 ∧ 0 ≤ st 170 43 ∧ st 170 43 ≤ 7 ∧ st 170 42 ≤ 9 from by omega)⟩, fun s31 q31 => ?_⟩
    obtain ⟨gs31, fs31, yq31, fr31, cd31, op31, cm31⟩ := q31
    change FR (s31 192) (s31 193) (s31 194) (s31 195) (s31 196) (s31 197) ((5, ph, bg, pr, []) :: ((k2, ph2, bg2, pr2, w2) :: fs)) (s31 170 42) (s31 170 45) at fr31
    have e90 : s31 170 42 = st 170 42 := fs31 170 42 rfl rfl
    have g91 := g_opMany gs31
    change CDr (s31 170 35) (s31 170 34) (s31 188) (s31 189) (c ++ w) at cd31
    have e92 : s31 170 35 = st 170 35 := fs31 170 35 rfl rfl
    have g93 := g_codes gs31
    change s31 170 43 = st 170 43 - nots w at op31
    have g94 := g_open gs31
    change s31 170 34 + s31 170 45 = st 170 34 + st 170 45 at cm31
    have mwj : WB ((5, ph, bg, pr, []) :: (k2, ph2, bg2, pr2, w2) :: fs) := WB_c (by rw [List.length_nil]; omega) (fun x hx => by cases hx) (WB_tl mwb)
    have mbj := FR_bnd _ _ _ mwj fr31
    simp only [List.length_cons] at mbj
    have mcj := cd31.1
    rw [List.length_append] at mcj
    have e95 : s31 170 3 = st 170 3 := fs31 170 3 rfl rfl
    have e96 : s31 170 6 = st 170 6 := fs31 170 6 rfl rfl
    have e97 : s31 170 7 = st 170 7 := fs31 170 7 rfl rfl
    have e98 : s31 170 12 = st 170 12 := fs31 170 12 rfl rfl
    have e99 : s31 170 8 = st 170 8 := fs31 170 8 rfl rfl
    have e100 : s31 170 4 = st 170 4 := fs31 170 4 rfl rfl
    have e101 : s31 170 5 = st 170 5 := fs31 170 5 rfl rfl
    refine ⟨by omega, ?_⟩
    refine ⟨by omega, ?_⟩
    refine ⟨fun h102 => ?_, fun h102 => (by exfalso; omega)⟩
    refine ⟨fun h103 => (by exfalso; omega), fun h103 => ?_⟩
    refine ⟨by omega, ?_⟩
    refine ⟨by omega, ?_⟩
    refine ⟨rfl, ⟨(gInv_up (gInv_up (gInv_up gs31 (p_deep (by omega))) (p_open (by omega))) (p_phase (by omega))), (show RDr (zup (zup (zup s31 170 42 ((s31 170 42) - 1)) 170 43 ((s31 170 43) - 1)) 193 (((s31 170 42) - 1) - 1 : Int).toNat 2) t n from (show RDr (zup (zup (zup s31 170 42 ((s31 170 42) - 1)) 170 43 ((s31 170 43) - 1)) 193 (((s31 170 42) - 1) - 1 : Int).toNat 2) t n from (RDr_of (fs31 170 2 rfl rfl) (fun i => fs31 171 i rfl rfl) (fs31 170 3 rfl rfl) (fs31 170 4 rfl rfl) (fs31 170 5 rfl rfl) (fs31 170 6 rfl rfl) (fs31 170 7 rfl rfl) (fs31 170 12 rfl rfl) mrd))), (show s31 170 12 = -1 from by omega)⟩, fun s32 q32 => ?_⟩
    obtain ⟨gs32, fs32, rd32, nx32⟩ := q32
    change RDr s32 t n at rd32
    change NXr (zup (zup (zup s31 170 42 ((s31 170 42) - 1)) 170 43 ((s31 170 43) - 1)) 193 (((s31 170 42) - 1) - 1 : Int).toNat 2) s32 t n at nx32
    refine ⟨by omega, ?_⟩
    have e104 : s32 170 8 = s31 170 8 := fs32 170 8 rfl rfl
    have e106 : s31 170 46 = st 170 46 := fs31 170 46 rfl rfl
    have e105 : s32 170 46 = s31 170 46 := fs32 170 46 rfl rfl
    have e107 : s32 170 43 = ((s31 170 43) - 1) := fs32 170 43 rfl rfl
    have e108 : s32 170 34 = s31 170 34 := fs32 170 34 rfl rfl
    have e109 : s32 170 45 = s31 170 45 := fs32 170 45 rfl rfl
    have e110 : s32 170 42 = ((s31 170 42) - 1) := fs32 170 42 rfl rfl
    have g111 := g_signAt gs32
    exact hQ _ _ ⟨gs32, (fr_tr (fr_a (fr_f (fr_f (fr_tr (fr_rf _ _) fs31 rfl) rfl) rfl) rfl) fs32 rfl), (Z9_tr (Z9_up (Z9_up (Z9_up yq31 (by decide)) (by decide)) (by decide)) ((show aFr m_rGo75 st (zup (zup (zup s31 170 42 ((s31 170 42) - 1)) 170 43 ((s31 170 43) - 1)) 193 (((s31 170 42) - 1) - 1 : Int).toNat 2) from (fr_a (fr_f (fr_f (fr_tr (fr_rf _ _) fs31 rfl) rfl) rfl) rfl)) 170 35 rfl rfl) (Z9_fr fs32 (fun _ => rfl) rfl)), (show (1 : Int) = 1 ∧ mcP t n s32 ((k2, 2, bg2, pr2, w2) :: fs) 1 (o) (c ++ w) (e) from (by
            have tkk := ht.1
            have hp : s32 170 4 = e := NXr_e (st := (zup (zup (zup s31 170 42 ((s31 170 42) - 1)) 170 43 ((s31 170 43) - 1)) 193 (((s31 170 42) - 1) - 1 : Int).toNat 2)) (show NXr (zup (zup (zup s31 170 42 ((s31 170 42) - 1)) 170 43 ((s31 170 43) - 1)) 193 (((s31 170 42) - 1) - 1 : Int).toNat 2) s32 t n from nx32) (show tk t n ((zup (zup (zup s31 170 42 ((s31 170 42) - 1)) 170 43 ((s31 170 43) - 1)) 193 (((s31 170 42) - 1) - 1 : Int).toNat 2) 170 4) _ _ e from by rw [show (zup (zup (zup s31 170 42 ((s31 170 42) - 1)) 170 43 ((s31 170 43) - 1)) 193 (((s31 170 42) - 1) - 1 : Int).toNat 2) 170 4 = p from (show s31 170 4 = p from by omega)]; exact tkk) (by omega)
            have hl := tk_lt tkk (show 0 ≤ p from by rw [← mpp]; exact mrd.2.1.1) (by omega)
            refine ⟨rfl, (show s32 170 8 = 0 from by omega), (show s32 170 46 = 1 from by omega), (show s32 170 43 = o from by omega), hp, (show RDr _ t n from rd32), ?_, (show s32 170 34 + s32 170 45 + s32 170 42 ≤ e from by omega), by omega, by omega, by first | omega | (simp only [List.length_cons]; omega) | (simp only [List.length_cons] at mz3 ⊢; omega)⟩
            exact (mcQ_of (fun i => fs32 192 i rfl rfl) (fun i => fs32 193 i rfl rfl) (fun i => fs32 194 i rfl rfl) (fun i => fs32 195 i rfl rfl) (fun i => fs32 196 i rfl rfl) (fun i => fs32 197 i rfl rfl) (fs32 170 42 rfl rfl) (fs32 170 45 rfl rfl) (fs32 170 35 rfl rfl) (fs32 170 34 rfl rfl) (fun i => fs32 188 i rfl rfl) (fun i => fs32 189 i rfl rfl) (show mcQ (zup (zup (zup s31 170 42 ((s31 170 42) - 1)) 170 43 ((s31 170 43) - 1)) 193 (((s31 170 42) - 1) - 1 : Int).toNat 2) ((k2, 2, bg2, pr2, w2) :: fs) (c ++ w) from ⟨FR_ph (m := s31 170 45) 2 (by omega) (FR_pop fr31), WB_c (WB_hd (WB_tl mwj)) (WB_el (WB_tl mwj)) (WB_tl (WB_tl mwj)), cd31⟩))))⟩
theorem k_rGo75_m (hTb : aTb zSh rx_tb cl) {t : Int → Int} {n k ph bg pr o p e : Int} {w c : List Int} {fs : List mFr} {k2 ph2 bg2 pr2 x : Int} {w2 : List Int} {D : Nat} (hD : 3 ≤ D) : ∀ as st (Q Q' : zQ), (∀ r st', Q r st' → Q' r st') → (k_rGo75 t n k ph bg pr o p e w c fs k2 ph2 bg2 pr2 x w2) 197 as st Q → cl D 197 as st Q' := by
  intro as st Q Q' hQ h
  unfold k_rGo75 at h
  split at h
  · obtain ⟨rfl, h⟩ := h
    exact c_rGo75 hTb hD (ct_rGo75_m hQ h)
  · exact h.elim
set_option maxHeartbeats 4000000 in
set_option maxRecDepth 100000 in
theorem c_rGoF4 (hTb : aTb zSh rx_tb cl) {t : Int → Int} {n k ph bg pr o p e : Int} {w c : List Int} {fs : List mFr} {kk v : Int} {D : Nat} (hD : 3 ≤ D) {st : zS} {Q : zQ} (h : ct_rGoF4 t n k ph bg pr o p e w c fs kk v st Q) : cl D 197 [.inr (.inr (.inl 170))] st Q := by
  obtain ⟨d, rfl⟩ : ∃ d, D = d + 1 := ⟨D - 1, by omega⟩
  refine hTb d 197 (rx_m197, 5, 0, 0, 2) rfl _ _ _ (Nat.le_of_ble_eq_true rfl) (fun K hcl hsf hsl => ?_)
  have hcm : zmo (wcL [(181, k_rLex), (195, k_isTest), (183, k_isWord), (182, k_isSign), (178, k_blame)]) (cl d) := (wcL_m (wm_cons (k_rLex_m hTb (by omega)) (wm_cons (k_isTest_m hTb (by omega)) (wm_cons (k_isWord_m hTb (by omega)) (wm_cons (k_isSign_m hTb (by omega)) (wm_cons (k_blame_m hTb (by omega)) wm_nil))))))
  obtain ⟨hR, hQ⟩ := h
  obtain ⟨hG, mp, ht⟩ := hR
  change mcP t n st ((k, ph, bg, pr, w) :: fs) 1 (o) (c) (p) at mp
  change tk t n p kk v e ∧ ¬ kk = 5 ∧ isT k ∧ ph = 0 ∧ ¬ arS kk v ∧ ¬ cmS kk v at ht
  obtain ⟨mf, mo, mn, mpp, mrd, mq, mbd, mz1, mz2, mz3⟩ := mp
  simp only [List.length_cons] at mz3
  have mq0 := mq
  obtain ⟨mfr, mwb, mcd⟩ := mq
  have mt := FR_top mfr
  have mb := FR_bnd _ _ _ mwb mfr
  simp only [List.length_cons] at mb
  have ml := WB_hd mwb
  have mcl := mcd.1
  have mlw := FR_len mb.2.1 mfr
  have mnb := nots_b w
  have tf := RDr_rv mrd (by rw [mpp]; exact ht.1)
  have n5 := RV_5 tf ht.2.1
  have cs_43 := RV_s (c := 43) ht.2.1 tf (fun z => ht.2.2.2.2.1 ⟨z.1, by have := z.2; omega⟩)
  have cs_45 := RV_s (c := 45) ht.2.1 tf (fun z => ht.2.2.2.2.1 ⟨z.1, by have := z.2; omega⟩)
  have cs_42 := RV_s (c := 42) ht.2.1 tf (fun z => ht.2.2.2.2.1 ⟨z.1, by have := z.2; omega⟩)
  have cs_47 := RV_s (c := 47) ht.2.1 tf (fun z => ht.2.2.2.2.1 ⟨z.1, by have := z.2; omega⟩)
  have cs_37 := RV_s (c := 37) ht.2.1 tf (fun z => ht.2.2.2.2.1 ⟨z.1, by have := z.2; omega⟩)
  have cs_60 := RV_s (c := 60) ht.2.1 tf (fun z => ht.2.2.2.2.2 ⟨z.1, by have := z.2; omega⟩)
  have cs_61 := RV_s (c := 61) ht.2.1 tf (fun z => ht.2.2.2.2.2 ⟨z.1, by have := z.2; omega⟩)
  have cs_62 := RV_s (c := 62) ht.2.1 tf (fun z => ht.2.2.2.2.2 ⟨z.1, by have := z.2; omega⟩)
  clear tf
  have tkT : k = 1 ∨ k = 5 ∨ k = 6 := ht.2.2.1
  have g1 := g_codes hG
  have g2 := g_in hG
  have g3 := g_isClever hG
  have g4 := g_deep hG
  have g5 := g_open hG
  have g6 := g_opMany hG
  have g7 := g_signAt hG
  have g8 := g_signEnd hG
  have g9 := g_faultKind hG
  have g10 := g_size hG
  have g11 := g_sign hG
  have g12 := g_lexAt hG
  have g13 := g_value hG
  have g14 := g_word hG
  have g15 := g_operand hG
  refine yr1_ok (Rt := Q) (wc := (wcL [(181, k_rLex), (195, k_isTest), (183, k_isWord), (182, k_isSign), (178, k_blame)])) (stp := []) hcm hcl [] 500 ?_
  show (170 = 170 ∧ (rq_rLex  st ∧ (((st 170 8 ≤ (0 : Int) → ((-2147483648 ≤ (st 170 42) - 1 ∧ (st 170 42) - 1 ≤ 2147483647) ∧ ((0 ≤ (st 170 42) - 1 ∧ (st 170 42) - 1 < 20) ∧ (∀ (r17 : Int), en_isTest (st 192 ((st 170 42) - 1 : Int).toNat) st r17 → ((0 ≤ (st 170 42) - 1 ∧ (st 170 42) - 1 < 20) ∧ (((2 : Int) ≤ st 193 ((st 170 42) - 1 : Int).toNat → _) ∧ (¬ ((2 : Int) ≤ st 193 ((st 170 42) - 1 : Int).toNat) → (170 = 170 ∧ (∀ (r18 : Int), en_isSign (43) st r18 → ((¬ r18 = (0 : Int) → _) ∧ (¬ (¬ r18 = (0 : Int)) → (170 = 170 ∧ (∀ (r19 : Int), en_isSign (45) st r19 → ((¬ r19 = (0 : Int) → _) ∧ (¬ (¬ r19 = (0 : Int)) → (170 = 170 ∧ (∀ (r20 : Int), en_isSign (42) st r20 → ((¬ r20 = (0 : Int) → _) ∧ (¬ (¬ r20 = (0 : Int)) → (170 = 170 ∧ (∀ (r21 : Int), en_isSign (47) st r21 → ((¬ r21 = (0 : Int) → _) ∧ (¬ (¬ r21 = (0 : Int)) → (170 = 170 ∧ (∀ (r22 : Int), en_isSign (37) st r22 → ((r22 = (0 : Int) → ((r17 = (0 : Int) → _) ∧ (¬ (r17 = (0 : Int)) → ((0 ≤ (st 170 42) - 1 ∧ (st 170 42) - 1 < 20) ∧ ((¬ st 193 ((st 170 42) - 1 : Int).toNat = (0 : Int) → _) ∧ (¬ (¬ st 193 ((st 170 42) - 1 : Int).toNat = (0 : Int)) → (170 = 170 ∧ (∀ (r23 : Int), en_isSign (60) st r23 → ((¬ r23 = (0 : Int) → _) ∧ (¬ (¬ r23 = (0 : Int)) → (170 = 170 ∧ (∀ (r24 : Int), en_isSign (62) st r24 → ((¬ r24 = (0 : Int) → _) ∧ (¬ (¬ r24 = (0 : Int)) → (170 = 170 ∧ (∀ (r25 : Int), en_isSign (61) st r25 → ((r25 = (0 : Int) → ((r17 = (0 : Int) → _) ∧ (¬ (r17 = (0 : Int)) → (170 = 170 ∧ (∀ (r26 : Int), en_isWord (6385252) st r26 → ((¬ r26 = (0 : Int) → ((0 ≤ (st 170 42) - 1 ∧ (st 170 42) - 1 < 20) ∧ ((¬ st 193 ((st 170 42) - 1 : Int).toNat = (0 : Int) → _) ∧ (¬ (¬ st 193 ((st 170 42) - 1 : Int).toNat = (0 : Int)) → (170 = 170 ∧ (rq_blame (1) (st 170 4) st ∧ (∀ (s27 : zS), en_blame (1) (st 170 4) st s27 → ((s27 170 8 ≤ (0 : Int) → _) ∧ (¬ (s27 170 8 ≤ (0 : Int)) → ((0 = (0 : Int) ∨ 0 = (1 : Int)) ∧ Q (some (.inl 0)) s27)))))))))) ∧ (¬ (¬ r26 = (0 : Int)) → (170 = 170 ∧ (∀ (r28 : Int), en_isWord (28530) st r28 → ((r28 = (0 : Int) → ((r17 = (0 : Int) → _) ∧ (¬ (r17 = (0 : Int)) → ((0 ≤ (st 170 42) - 1 ∧ (st 170 42) - 1 < 20) ∧ ((¬ st 193 ((st 170 42) - 1 : Int).toNat = (0 : Int) → _) ∧ (¬ (¬ st 193 ((st 170 42) - 1 : Int).toNat = (0 : Int)) → (170 = 170 ∧ (rq_blame (1) (st 170 4) st ∧ (∀ (s29 : zS), en_blame (1) (st 170 4) st s29 → (((2 : Int) ≤ st 192 ((st 170 42) - 1 : Int).toNat → ((st 192 ((st 170 42) - 1 : Int).toNat = (3 : Int) → (170 = 170 ∧ (∀ (r30 : Int), en_isSign (44) s29 r30 → ((¬ r30 = (0 : Int) → ((s29 170 8 ≤ (0 : Int) → _) ∧ (¬ (s29 170 8 ≤ (0 : Int)) → ((0 = (0 : Int) ∨ 0 = (1 : Int)) ∧ Q (some (.inl 0)) s29)))) ∧ (¬ (¬ r30 = (0 : Int)) → (170 = 170 ∧ (rq_blame (1) (s29 170 4) s29 ∧ (∀ (s31 : zS), en_blame (1) (s29 170 4) s29 s31 → ((s31 170 8 ≤ (0 : Int) → _) ∧ (¬ (s31 170 8 ≤ (0 : Int)) → ((0 = (0 : Int) ∨ 0 = (1 : Int)) ∧ Q (some (.inl 0)) s31))))))))))) ∧ (¬ (st 192 ((st 170 42) - 1 : Int).toNat = (3 : Int)) → ((¬ st 192 ((st 170 42) - 1 : Int).toNat = (6 : Int) → ((¬ st 192 ((st 170 42) - 1 : Int).toNat = (5 : Int) → (170 = 170 ∧ (∀ (r32 : Int), en_isSign (41) s29 r32 → ((¬ r32 = (0 : Int) → ((s29 170 8 ≤ (0 : Int) → _) ∧ (¬ (s29 170 8 ≤ (0 : Int)) → ((0 = (0 : Int) ∨ 0 = (1 : Int)) ∧ Q (some (.inl 0)) s29)))) ∧ (¬ (¬ r32 = (0 : Int)) → (170 = 170 ∧ (rq_blame (1) (s29 170 4) s29 ∧ (∀ (s33 : zS), en_blame (1) (s29 170 4) s29 s33 → ((s33 170 8 ≤ (0 : Int) → _) ∧ (¬ (s33 170 8 ≤ (0 : Int)) → ((0 = (0 : Int) ∨ 0 = (1 : Int)) ∧ Q (some (.inl 0)) s33))))))))))) ∧ (¬ (¬ st 192 ((st 170 42) - 1 : Int).toNat = (5 : Int)) → (170 = 170 ∧ (∀ (r34 : Int), en_isSign (93) s29 r34 → ((¬ r34 = (0 : Int) → ((s29 170 8 ≤ (0 : Int) → _) ∧ (¬ (s29 170 8 ≤ (0 : Int)) → ((0 = (0 : Int) ∨ 0 = (1 : Int)) ∧ Q (some (.inl 0)) s29)))) ∧ (¬ (¬ r34 = (0 : Int)) → (170 = 170 ∧ (rq_blame (1) (s29 170 4) s29 ∧ (∀ (s35 : zS), en_blame (1) (s29 170 4) s29 s35 → ((s35 170 8 ≤ (0 : Int) → _) ∧ (¬ (s35 170 8 ≤ (0 : Int)) → ((0 = (0 : Int) ∨ 0 = (1 : Int)) ∧ Q (some (.inl 0)) s35))))))))))))) ∧ (¬ (¬ st 192 ((st 170 42) - 1 : Int).toNat = (6 : Int)) → (170 = 170 ∧ (∀ (r36 : Int), en_isSign (44) s29 r36 → ((¬ r36 = (0 : Int) → ((s29 170 8 ≤ (0 : Int) → _) ∧ (¬ (s29 170 8 ≤ (0 : Int)) → ((0 = (0 : Int) ∨ 0 = (1 : Int)) ∧ Q (some (.inl 0)) s29)))) ∧ (¬ (¬ r36 = (0 : Int)) → (170 = 170 ∧ (rq_blame (1) (s29 170 4) s29 ∧ (∀ (s37 : zS), en_blame (1) (s29 170 4) s29 s37 → ((s37 170 8 ≤ (0 : Int) → _) ∧ (¬ (s37 170 8 ≤ (0 : Int)) → ((0 = (0 : Int) ∨ 0 = (1 : Int)) ∧ Q (some (.inl 0)) s37))))))))))))))) ∧ (¬ ((2 : Int) ≤ st 192 ((st 170 42) - 1 : Int).toNat) → ((¬ s29 170 8 = (0 : Int) → ((0 = (0 : Int) ∨ 0 = (1 : Int)) ∧ Q (some (.inl 0)) s29)) ∧ (¬ (¬ s29 170 8 = (0 : Int)) → _))))))))))))) ∧ (¬ (r28 = (0 : Int)) → ((0 ≤ (st 170 42) - 1 ∧ (st 170 42) - 1 < 20) ∧ ((¬ st 193 ((st 170 42) - 1 : Int).toNat = (0 : Int) → _) ∧ (¬ (¬ st 193 ((st 170 42) - 1 : Int).toNat = (0 : Int)) → (170 = 170 ∧ (rq_blame (1) (st 170 4) st ∧ (∀ (s38 : zS), en_blame (1) (st 170 4) st s38 → ((s38 170 8 ≤ (0 : Int) → _) ∧ (¬ (s38 170 8 ≤ (0 : Int)) → ((0 = (0 : Int) ∨ 0 = (1 : Int)) ∧ Q (some (.inl 0)) s38)))))))))))))))))))) ∧ (¬ (r25 = (0 : Int)) → _)))))))))))))))))) ∧ (¬ (r22 = (0 : Int)) → _))))))))))))))))))))))))))) ∧ (¬ (st 170 8 ≤ (0 : Int)) → _)))))
  refine ⟨rfl, ⟨hG, (show st 170 12 = -1 from by omega)⟩, ?_⟩
  refine ⟨fun h39 => ?_, fun h39 => (by exfalso; omega)⟩
  refine ⟨by omega, ?_⟩
  have g40 := g_frame hG ((st 170 42) - 1 : Int).toNat
  refine ⟨by omega, ?_⟩
  refine fun r17 q17 => ?_
  have b17 := q17
  change (r17 = 0 ∨ r17 = 1) ∧ (r17 = 1 ↔ (st 192 ((st 170 42) - 1 : Int).toNat) = 1 ∨ (st 192 ((st 170 42) - 1 : Int).toNat) = 5 ∨ (st 192 ((st 170 42) - 1 : Int).toNat) = 6) at b17
  have g41 := g_phase hG ((st 170 42) - 1 : Int).toNat
  refine ⟨by omega, ?_⟩
  refine ⟨fun h42 => (by exfalso; omega), fun h42 => ?_⟩
  refine ⟨rfl, fun r18 q18 => ?_⟩
  have b18 := q18
  change (r18 = 0 ∨ r18 = 1) ∧ (r18 = 1 ↔ st 170 3 = 3 ∧ st 170 6 = (43)) at b18
  refine ⟨fun h43 => (by exfalso; have cx := cs_43; unfold NSq at cx; clear hQ; omega), fun h43 => ?_⟩
  clear h43 b18
  refine ⟨rfl, fun r19 q19 => ?_⟩
  have b19 := q19
  change (r19 = 0 ∨ r19 = 1) ∧ (r19 = 1 ↔ st 170 3 = 3 ∧ st 170 6 = (45)) at b19
  refine ⟨fun h44 => (by exfalso; have cx := cs_45; unfold NSq at cx; clear hQ; omega), fun h44 => ?_⟩
  clear h44 b19
  refine ⟨rfl, fun r20 q20 => ?_⟩
  have b20 := q20
  change (r20 = 0 ∨ r20 = 1) ∧ (r20 = 1 ↔ st 170 3 = 3 ∧ st 170 6 = (42)) at b20
  refine ⟨fun h45 => (by exfalso; have cx := cs_42; unfold NSq at cx; clear hQ; omega), fun h45 => ?_⟩
  clear h45 b20
  refine ⟨rfl, fun r21 q21 => ?_⟩
  have b21 := q21
  change (r21 = 0 ∨ r21 = 1) ∧ (r21 = 1 ↔ st 170 3 = 3 ∧ st 170 6 = (47)) at b21
  refine ⟨fun h46 => (by exfalso; have cx := cs_47; unfold NSq at cx; clear hQ; omega), fun h46 => ?_⟩
  clear h46 b21
  refine ⟨rfl, fun r22 q22 => ?_⟩
  have b22 := q22
  change (r22 = 0 ∨ r22 = 1) ∧ (r22 = 1 ↔ st 170 3 = 3 ∧ st 170 6 = (37)) at b22
  refine ⟨fun h47 => ?_, fun h47 => (by exfalso; have cx := cs_37; unfold NSq at cx; clear hQ; omega)⟩
  clear h47 b22
  refine ⟨fun h48 => (by exfalso; clear hQ; omega), fun h48 => ?_⟩
  clear h48
  refine ⟨by omega, ?_⟩
  refine ⟨fun h49 => (by exfalso; omega), fun h49 => ?_⟩
  refine ⟨rfl, fun r23 q23 => ?_⟩
  have b23 := q23
  change (r23 = 0 ∨ r23 = 1) ∧ (r23 = 1 ↔ st 170 3 = 3 ∧ st 170 6 = (60)) at b23
  refine ⟨fun h50 => (by exfalso; have cx := cs_60; unfold NSq at cx; clear hQ; omega), fun h50 => ?_⟩
  clear h50 b23
  refine ⟨rfl, fun r24 q24 => ?_⟩
  have b24 := q24
  change (r24 = 0 ∨ r24 = 1) ∧ (r24 = 1 ↔ st 170 3 = 3 ∧ st 170 6 = (62)) at b24
  refine ⟨fun h51 => (by exfalso; have cx := cs_62; unfold NSq at cx; clear hQ; omega), fun h51 => ?_⟩
  clear h51 b24
  refine ⟨rfl, fun r25 q25 => ?_⟩
  have b25 := q25
  change (r25 = 0 ∨ r25 = 1) ∧ (r25 = 1 ↔ st 170 3 = 3 ∧ st 170 6 = (61)) at b25
  refine ⟨fun h52 => ?_, fun h52 => (by exfalso; have cx := cs_61; unfold NSq at cx; clear hQ; omega)⟩
  clear h52 b25
  refine ⟨fun h53 => (by exfalso; clear hQ; omega), fun h53 => ?_⟩
  clear h53
  refine ⟨rfl, fun r26 q26 => ?_⟩
  have b26 := q26
  change (r26 = 0 ∨ r26 = 1) ∧ (r26 = 1 ↔ st 170 3 = 1 ∧ st 170 7 = (6385252)) at b26
  refine ⟨fun h54 => ?_, fun h54 => ?_⟩
  · refine ⟨by omega, ?_⟩
    refine ⟨fun h55 => (by exfalso; omega), fun h55 => ?_⟩
    refine ⟨rfl, ⟨hG, (show 1 ≤ (1) ∧ (1) ≤ 6 from by omega), (show -2147483648 ≤ (st 170 4) ∧ (st 170 4) ≤ 2147483647 from by omega)⟩, fun s27 q27 => ?_⟩
    obtain ⟨gs27, fs27, p27⟩ := q27
    change (st 170 8 = 0 → s27 170 8 = (1)) ∧ (0 < st 170 8 → s27 170 8 = st 170 8) at p27
    have g56 := g_faultKind gs27
    refine ⟨fun h57 => (by exfalso; omega), fun h57 => ?_⟩
    refine ⟨by omega, ?_⟩
    exact hQ _ _ ⟨gs27, (fr_tr (fr_rf _ _) fs27 rfl), (Z9_fr fs27 (fun _ => rfl) rfl), (show 0 < s27 170 8 ∧ ((0 : Int) = 0 ∨ (0 : Int) = 1) from by omega)⟩
  · refine ⟨rfl, fun r28 q28 => ?_⟩
    have b28 := q28
    change (r28 = 0 ∨ r28 = 1) ∧ (r28 = 1 ↔ st 170 3 = 1 ∧ st 170 7 = (28530)) at b28
    refine ⟨fun h58 => ?_, fun h58 => ?_⟩
    · refine ⟨fun h59 => (by exfalso; clear hQ; omega), fun h59 => ?_⟩
      clear h59
      refine ⟨by omega, ?_⟩
      refine ⟨fun h60 => (by exfalso; omega), fun h60 => ?_⟩
      refine ⟨rfl, ⟨hG, (show 1 ≤ (1) ∧ (1) ≤ 6 from by omega), (show -2147483648 ≤ (st 170 4) ∧ (st 170 4) ≤ 2147483647 from by omega)⟩, fun s29 q29 => ?_⟩
      obtain ⟨gs29, fs29, p29⟩ := q29
      change (st 170 8 = 0 → s29 170 8 = (1)) ∧ (0 < st 170 8 → s29 170 8 = st 170 8) at p29
      have g61 := g_faultKind gs29
      refine ⟨fun h62 => ?_, fun h62 => ?_⟩
      · refine ⟨fun h63 => ?_, fun h63 => ?_⟩
        · refine ⟨rfl, fun r30 q30 => ?_⟩
          have b30 := q30
          change (r30 = 0 ∨ r30 = 1) ∧ (r30 = 1 ↔ s29 170 3 = 3 ∧ s29 170 6 = (44)) at b30
          have e64 : s29 170 3 = st 170 3 := fs29 170 3 rfl rfl
          have e65 : s29 170 6 = st 170 6 := fs29 170 6 rfl rfl
          refine ⟨fun h66 => ?_, fun h66 => ?_⟩
          · refine ⟨fun h67 => (by exfalso; omega), fun h67 => ?_⟩
            refine ⟨by omega, ?_⟩
            exact hQ _ _ ⟨gs29, (fr_tr (fr_rf _ _) fs29 rfl), (Z9_fr fs29 (fun _ => rfl) rfl), (show 0 < s29 170 8 ∧ ((0 : Int) = 0 ∨ (0 : Int) = 1) from by omega)⟩
          · have e68 : s29 170 4 = st 170 4 := fs29 170 4 rfl rfl
            refine ⟨rfl, ⟨gs29, (show 1 ≤ (1) ∧ (1) ≤ 6 from by omega), (show -2147483648 ≤ (s29 170 4) ∧ (s29 170 4) ≤ 2147483647 from by omega)⟩, fun s31 q31 => ?_⟩
            obtain ⟨gs31, fs31, p31⟩ := q31
            change (s29 170 8 = 0 → s31 170 8 = (1)) ∧ (0 < s29 170 8 → s31 170 8 = s29 170 8) at p31
            have g69 := g_faultKind gs31
            refine ⟨fun h70 => (by exfalso; omega), fun h70 => ?_⟩
            refine ⟨by omega, ?_⟩
            exact hQ _ _ ⟨gs31, (fr_tr (fr_tr (fr_rf _ _) fs29 rfl) fs31 rfl), (Z9_tr (Z9_fr fs29 (fun _ => rfl) rfl) ((show aFr m_rGoF4 st s29 from (fr_tr (fr_rf _ _) fs29 rfl)) 170 35 rfl rfl) (Z9_fr fs31 (fun _ => rfl) rfl)), (show 0 < s31 170 8 ∧ ((0 : Int) = 0 ∨ (0 : Int) = 1) from by omega)⟩
        · refine ⟨fun h71 => ?_, fun h71 => ?_⟩
          · refine ⟨fun h72 => ?_, fun h72 => ?_⟩
            · refine ⟨rfl, fun r32 q32 => ?_⟩
              have b32 := q32
              change (r32 = 0 ∨ r32 = 1) ∧ (r32 = 1 ↔ s29 170 3 = 3 ∧ s29 170 6 = (41)) at b32
              have e73 : s29 170 3 = st 170 3 := fs29 170 3 rfl rfl
              have e74 : s29 170 6 = st 170 6 := fs29 170 6 rfl rfl
              refine ⟨fun h75 => ?_, fun h75 => ?_⟩
              · refine ⟨fun h76 => (by exfalso; omega), fun h76 => ?_⟩
                refine ⟨by omega, ?_⟩
                exact hQ _ _ ⟨gs29, (fr_tr (fr_rf _ _) fs29 rfl), (Z9_fr fs29 (fun _ => rfl) rfl), (show 0 < s29 170 8 ∧ ((0 : Int) = 0 ∨ (0 : Int) = 1) from by omega)⟩
              · have e77 : s29 170 4 = st 170 4 := fs29 170 4 rfl rfl
                refine ⟨rfl, ⟨gs29, (show 1 ≤ (1) ∧ (1) ≤ 6 from by omega), (show -2147483648 ≤ (s29 170 4) ∧ (s29 170 4) ≤ 2147483647 from by omega)⟩, fun s33 q33 => ?_⟩
                obtain ⟨gs33, fs33, p33⟩ := q33
                change (s29 170 8 = 0 → s33 170 8 = (1)) ∧ (0 < s29 170 8 → s33 170 8 = s29 170 8) at p33
                have g78 := g_faultKind gs33
                refine ⟨fun h79 => (by exfalso; omega), fun h79 => ?_⟩
                refine ⟨by omega, ?_⟩
                exact hQ _ _ ⟨gs33, (fr_tr (fr_tr (fr_rf _ _) fs29 rfl) fs33 rfl), (Z9_tr (Z9_fr fs29 (fun _ => rfl) rfl) ((show aFr m_rGoF4 st s29 from (fr_tr (fr_rf _ _) fs29 rfl)) 170 35 rfl rfl) (Z9_fr fs33 (fun _ => rfl) rfl)), (show 0 < s33 170 8 ∧ ((0 : Int) = 0 ∨ (0 : Int) = 1) from by omega)⟩
            · refine ⟨rfl, fun r34 q34 => ?_⟩
              have b34 := q34
              change (r34 = 0 ∨ r34 = 1) ∧ (r34 = 1 ↔ s29 170 3 = 3 ∧ s29 170 6 = (93)) at b34
              have e80 : s29 170 3 = st 170 3 := fs29 170 3 rfl rfl
              have e81 : s29 170 6 = st 170 6 := fs29 170 6 rfl rfl
              refine ⟨fun h82 => ?_, fun h82 => ?_⟩
              · refine ⟨fun h83 => (by exfalso; omega), fun h83 => ?_⟩
                refine ⟨by omega, ?_⟩
                exact hQ _ _ ⟨gs29, (fr_tr (fr_rf _ _) fs29 rfl), (Z9_fr fs29 (fun _ => rfl) rfl), (show 0 < s29 170 8 ∧ ((0 : Int) = 0 ∨ (0 : Int) = 1) from by omega)⟩
              · have e84 : s29 170 4 = st 170 4 := fs29 170 4 rfl rfl
                refine ⟨rfl, ⟨gs29, (show 1 ≤ (1) ∧ (1) ≤ 6 from by omega), (show -2147483648 ≤ (s29 170 4) ∧ (s29 170 4) ≤ 2147483647 from by omega)⟩, fun s35 q35 => ?_⟩
                obtain ⟨gs35, fs35, p35⟩ := q35
                change (s29 170 8 = 0 → s35 170 8 = (1)) ∧ (0 < s29 170 8 → s35 170 8 = s29 170 8) at p35
                have g85 := g_faultKind gs35
                refine ⟨fun h86 => (by exfalso; omega), fun h86 => ?_⟩
                refine ⟨by omega, ?_⟩
                exact hQ _ _ ⟨gs35, (fr_tr (fr_tr (fr_rf _ _) fs29 rfl) fs35 rfl), (Z9_tr (Z9_fr fs29 (fun _ => rfl) rfl) ((show aFr m_rGoF4 st s29 from (fr_tr (fr_rf _ _) fs29 rfl)) 170 35 rfl rfl) (Z9_fr fs35 (fun _ => rfl) rfl)), (show 0 < s35 170 8 ∧ ((0 : Int) = 0 ∨ (0 : Int) = 1) from by omega)⟩
          · refine ⟨rfl, fun r36 q36 => ?_⟩
            have b36 := q36
            change (r36 = 0 ∨ r36 = 1) ∧ (r36 = 1 ↔ s29 170 3 = 3 ∧ s29 170 6 = (44)) at b36
            have e87 : s29 170 3 = st 170 3 := fs29 170 3 rfl rfl
            have e88 : s29 170 6 = st 170 6 := fs29 170 6 rfl rfl
            refine ⟨fun h89 => ?_, fun h89 => ?_⟩
            · refine ⟨fun h90 => (by exfalso; omega), fun h90 => ?_⟩
              refine ⟨by omega, ?_⟩
              exact hQ _ _ ⟨gs29, (fr_tr (fr_rf _ _) fs29 rfl), (Z9_fr fs29 (fun _ => rfl) rfl), (show 0 < s29 170 8 ∧ ((0 : Int) = 0 ∨ (0 : Int) = 1) from by omega)⟩
            · have e91 : s29 170 4 = st 170 4 := fs29 170 4 rfl rfl
              refine ⟨rfl, ⟨gs29, (show 1 ≤ (1) ∧ (1) ≤ 6 from by omega), (show -2147483648 ≤ (s29 170 4) ∧ (s29 170 4) ≤ 2147483647 from by omega)⟩, fun s37 q37 => ?_⟩
              obtain ⟨gs37, fs37, p37⟩ := q37
              change (s29 170 8 = 0 → s37 170 8 = (1)) ∧ (0 < s29 170 8 → s37 170 8 = s29 170 8) at p37
              have g92 := g_faultKind gs37
              refine ⟨fun h93 => (by exfalso; omega), fun h93 => ?_⟩
              refine ⟨by omega, ?_⟩
              exact hQ _ _ ⟨gs37, (fr_tr (fr_tr (fr_rf _ _) fs29 rfl) fs37 rfl), (Z9_tr (Z9_fr fs29 (fun _ => rfl) rfl) ((show aFr m_rGoF4 st s29 from (fr_tr (fr_rf _ _) fs29 rfl)) 170 35 rfl rfl) (Z9_fr fs37 (fun _ => rfl) rfl)), (show 0 < s37 170 8 ∧ ((0 : Int) = 0 ∨ (0 : Int) = 1) from by omega)⟩
      · refine ⟨fun h94 => ?_, fun h94 => (by exfalso; omega)⟩
        refine ⟨by omega, ?_⟩
        exact hQ _ _ ⟨gs29, (fr_tr (fr_rf _ _) fs29 rfl), (Z9_fr fs29 (fun _ => rfl) rfl), (show 0 < s29 170 8 ∧ ((0 : Int) = 0 ∨ (0 : Int) = 1) from by omega)⟩
    · refine ⟨by omega, ?_⟩
      refine ⟨fun h95 => (by exfalso; omega), fun h95 => ?_⟩
      refine ⟨rfl, ⟨hG, (show 1 ≤ (1) ∧ (1) ≤ 6 from by omega), (show -2147483648 ≤ (st 170 4) ∧ (st 170 4) ≤ 2147483647 from by omega)⟩, fun s38 q38 => ?_⟩
      obtain ⟨gs38, fs38, p38⟩ := q38
      change (st 170 8 = 0 → s38 170 8 = (1)) ∧ (0 < st 170 8 → s38 170 8 = st 170 8) at p38
      have g96 := g_faultKind gs38
      refine ⟨fun h97 => (by exfalso; omega), fun h97 => ?_⟩
      refine ⟨by omega, ?_⟩
      exact hQ _ _ ⟨gs38, (fr_tr (fr_rf _ _) fs38 rfl), (Z9_fr fs38 (fun _ => rfl) rfl), (show 0 < s38 170 8 ∧ ((0 : Int) = 0 ∨ (0 : Int) = 1) from by omega)⟩
theorem k_rGoF4_m (hTb : aTb zSh rx_tb cl) {t : Int → Int} {n k ph bg pr o p e : Int} {w c : List Int} {fs : List mFr} {kk v : Int} {D : Nat} (hD : 3 ≤ D) : ∀ as st (Q Q' : zQ), (∀ r st', Q r st' → Q' r st') → (k_rGoF4 t n k ph bg pr o p e w c fs kk v) 197 as st Q → cl D 197 as st Q' := by
  intro as st Q Q' hQ h
  unfold k_rGoF4 at h
  split at h
  · obtain ⟨rfl, h⟩ := h
    exact c_rGoF4 hTb hD (ct_rGoF4_m hQ h)
  · exact h.elim
set_option maxHeartbeats 4000000 in
set_option maxRecDepth 100000 in
theorem c_rGoF63 (hTb : aTb zSh rx_tb cl) {t : Int → Int} {n k ph bg pr o p e : Int} {w c : List Int} {fs : List mFr} {kk v : Int} {D : Nat} (hD : 3 ≤ D) {st : zS} {Q : zQ} (h : ct_rGoF63 t n k ph bg pr o p e w c fs kk v st Q) : cl D 197 [.inr (.inr (.inl 170))] st Q := by
  obtain ⟨d, rfl⟩ : ∃ d, D = d + 1 := ⟨D - 1, by omega⟩
  refine hTb d 197 (rx_m197, 5, 0, 0, 2) rfl _ _ _ (Nat.le_of_ble_eq_true rfl) (fun K hcl hsf hsl => ?_)
  have hcm : zmo (wcL [(181, k_rLex), (195, k_isTest), (183, k_isWord), (182, k_isSign), (178, k_blame)]) (cl d) := (wcL_m (wm_cons (k_rLex_m hTb (by omega)) (wm_cons (k_isTest_m hTb (by omega)) (wm_cons (k_isWord_m hTb (by omega)) (wm_cons (k_isSign_m hTb (by omega)) (wm_cons (k_blame_m hTb (by omega)) wm_nil))))))
  obtain ⟨hR, hQ⟩ := h
  obtain ⟨hG, mp, ht⟩ := hR
  change mcP t n st ((k, ph, bg, pr, w) :: fs) 1 (o) (c) (p) at mp
  change tk t n p kk v e ∧ ¬ kk = 5 ∧ k = 3 ∧ ¬ (kk = 3 ∧ v = 44) ∧ (ph < 2 → ¬ arS kk v) at ht
  obtain ⟨mf, mo, mn, mpp, mrd, mq, mbd, mz1, mz2, mz3⟩ := mp
  simp only [List.length_cons] at mz3
  have mq0 := mq
  obtain ⟨mfr, mwb, mcd⟩ := mq
  have mt := FR_top mfr
  have mb := FR_bnd _ _ _ mwb mfr
  simp only [List.length_cons] at mb
  have ml := WB_hd mwb
  have mcl := mcd.1
  have mlw := FR_len mb.2.1 mfr
  have mnb := nots_b w
  have tf := RDr_rv mrd (by rw [mpp]; exact ht.1)
  have n5 := RV_5 tf ht.2.1
  have cs_43 : ph < 2 → NSq st 43 := fun hp => RV_s ht.2.1 tf (fun z => ht.2.2.2.2 hp ⟨z.1, by have := z.2; omega⟩)
  have cs_45 : ph < 2 → NSq st 45 := fun hp => RV_s ht.2.1 tf (fun z => ht.2.2.2.2 hp ⟨z.1, by have := z.2; omega⟩)
  have cs_42 : ph < 2 → NSq st 42 := fun hp => RV_s ht.2.1 tf (fun z => ht.2.2.2.2 hp ⟨z.1, by have := z.2; omega⟩)
  have cs_47 : ph < 2 → NSq st 47 := fun hp => RV_s ht.2.1 tf (fun z => ht.2.2.2.2 hp ⟨z.1, by have := z.2; omega⟩)
  have cs_37 : ph < 2 → NSq st 37 := fun hp => RV_s ht.2.1 tf (fun z => ht.2.2.2.2 hp ⟨z.1, by have := z.2; omega⟩)
  have cs_44 := RV_s (c := 44) ht.2.1 tf ht.2.2.2.1
  clear tf
  have g1 := g_codes hG
  have g2 := g_in hG
  have g3 := g_isClever hG
  have g4 := g_deep hG
  have g5 := g_open hG
  have g6 := g_opMany hG
  have g7 := g_signAt hG
  have g8 := g_signEnd hG
  have g9 := g_faultKind hG
  have g10 := g_size hG
  have g11 := g_sign hG
  have g12 := g_lexAt hG
  have g13 := g_value hG
  have g14 := g_word hG
  have g15 := g_operand hG
  refine yr1_ok (Rt := Q) (wc := (wcL [(181, k_rLex), (195, k_isTest), (183, k_isWord), (182, k_isSign), (178, k_blame)])) (stp := []) hcm hcl [] 500 ?_
  show (170 = 170 ∧ (rq_rLex  st ∧ (((st 170 8 ≤ (0 : Int) → ((-2147483648 ≤ (st 170 42) - 1 ∧ (st 170 42) - 1 ≤ 2147483647) ∧ ((0 ≤ (st 170 42) - 1 ∧ (st 170 42) - 1 < 20) ∧ (∀ (r17 : Int), en_isTest (st 192 ((st 170 42) - 1 : Int).toNat) st r17 → ((0 ≤ (st 170 42) - 1 ∧ (st 170 42) - 1 < 20) ∧ (((2 : Int) ≤ st 193 ((st 170 42) - 1 : Int).toNat → ((r17 = (0 : Int) → ((r17 = (0 : Int) → ((r17 = (0 : Int) → (((2 : Int) ≤ st 192 ((st 170 42) - 1 : Int).toNat → ((st 192 ((st 170 42) - 1 : Int).toNat = (3 : Int) → (170 = 170 ∧ (∀ (r18 : Int), en_isSign (44) st r18 → ((¬ r18 = (0 : Int) → _) ∧ (¬ (¬ r18 = (0 : Int)) → (170 = 170 ∧ (rq_blame (1) (st 170 4) st ∧ (∀ (s19 : zS), en_blame (1) (st 170 4) st s19 → ((s19 170 8 ≤ (0 : Int) → _) ∧ (¬ (s19 170 8 ≤ (0 : Int)) → ((0 = (0 : Int) ∨ 0 = (1 : Int)) ∧ Q (some (.inl 0)) s19))))))))))) ∧ (¬ (st 192 ((st 170 42) - 1 : Int).toNat = (3 : Int)) → _))) ∧ (¬ ((2 : Int) ≤ st 192 ((st 170 42) - 1 : Int).toNat) → _))) ∧ (¬ (r17 = (0 : Int)) → _))) ∧ (¬ (r17 = (0 : Int)) → _))) ∧ (¬ (r17 = (0 : Int)) → _))) ∧ (¬ ((2 : Int) ≤ st 193 ((st 170 42) - 1 : Int).toNat) → (170 = 170 ∧ (∀ (r20 : Int), en_isSign (43) st r20 → ((¬ r20 = (0 : Int) → _) ∧ (¬ (¬ r20 = (0 : Int)) → (170 = 170 ∧ (∀ (r21 : Int), en_isSign (45) st r21 → ((¬ r21 = (0 : Int) → _) ∧ (¬ (¬ r21 = (0 : Int)) → (170 = 170 ∧ (∀ (r22 : Int), en_isSign (42) st r22 → ((¬ r22 = (0 : Int) → _) ∧ (¬ (¬ r22 = (0 : Int)) → (170 = 170 ∧ (∀ (r23 : Int), en_isSign (47) st r23 → ((¬ r23 = (0 : Int) → _) ∧ (¬ (¬ r23 = (0 : Int)) → (170 = 170 ∧ (∀ (r24 : Int), en_isSign (37) st r24 → ((r24 = (0 : Int) → ((r17 = (0 : Int) → ((r17 = (0 : Int) → ((r17 = (0 : Int) → (((2 : Int) ≤ st 192 ((st 170 42) - 1 : Int).toNat → ((st 192 ((st 170 42) - 1 : Int).toNat = (3 : Int) → (170 = 170 ∧ (∀ (r25 : Int), en_isSign (44) st r25 → ((¬ r25 = (0 : Int) → _) ∧ (¬ (¬ r25 = (0 : Int)) → (170 = 170 ∧ (rq_blame (1) (st 170 4) st ∧ (∀ (s26 : zS), en_blame (1) (st 170 4) st s26 → ((s26 170 8 ≤ (0 : Int) → _) ∧ (¬ (s26 170 8 ≤ (0 : Int)) → ((0 = (0 : Int) ∨ 0 = (1 : Int)) ∧ Q (some (.inl 0)) s26))))))))))) ∧ (¬ (st 192 ((st 170 42) - 1 : Int).toNat = (3 : Int)) → _))) ∧ (¬ ((2 : Int) ≤ st 192 ((st 170 42) - 1 : Int).toNat) → _))) ∧ (¬ (r17 = (0 : Int)) → _))) ∧ (¬ (r17 = (0 : Int)) → _))) ∧ (¬ (r17 = (0 : Int)) → _))) ∧ (¬ (r24 = (0 : Int)) → _))))))))))))))))))))))))))) ∧ (¬ (st 170 8 ≤ (0 : Int)) → _)))))
  refine ⟨rfl, ⟨hG, (show st 170 12 = -1 from by omega)⟩, ?_⟩
  refine ⟨fun h27 => ?_, fun h27 => (by exfalso; omega)⟩
  refine ⟨by omega, ?_⟩
  have g28 := g_frame hG ((st 170 42) - 1 : Int).toNat
  refine ⟨by omega, ?_⟩
  refine fun r17 q17 => ?_
  have b17 := q17
  change (r17 = 0 ∨ r17 = 1) ∧ (r17 = 1 ↔ (st 192 ((st 170 42) - 1 : Int).toNat) = 1 ∨ (st 192 ((st 170 42) - 1 : Int).toNat) = 5 ∨ (st 192 ((st 170 42) - 1 : Int).toNat) = 6) at b17
  have g29 := g_phase hG ((st 170 42) - 1 : Int).toNat
  refine ⟨by omega, ?_⟩
  refine ⟨fun h30 => ?_, fun h30 => ?_⟩
  · refine ⟨fun h31 => ?_, fun h31 => (by exfalso; clear hQ; omega)⟩
    clear h31
    refine ⟨fun h32 => ?_, fun h32 => (by exfalso; clear hQ; omega)⟩
    clear h32
    refine ⟨fun h33 => ?_, fun h33 => (by exfalso; clear hQ; omega)⟩
    clear h33
    refine ⟨fun h34 => ?_, fun h34 => (by exfalso; omega)⟩
    refine ⟨fun h35 => ?_, fun h35 => (by exfalso; omega)⟩
    refine ⟨rfl, fun r18 q18 => ?_⟩
    have b18 := q18
    change (r18 = 0 ∨ r18 = 1) ∧ (r18 = 1 ↔ st 170 3 = 3 ∧ st 170 6 = (44)) at b18
    refine ⟨fun h36 => (by exfalso; have cx := cs_44; unfold NSq at cx; clear hQ; omega), fun h36 => ?_⟩
    clear h36 b18
    refine ⟨rfl, ⟨hG, (show 1 ≤ (1) ∧ (1) ≤ 6 from by omega), (show -2147483648 ≤ (st 170 4) ∧ (st 170 4) ≤ 2147483647 from by omega)⟩, fun s19 q19 => ?_⟩
    obtain ⟨gs19, fs19, p19⟩ := q19
    change (st 170 8 = 0 → s19 170 8 = (1)) ∧ (0 < st 170 8 → s19 170 8 = st 170 8) at p19
    have g37 := g_faultKind gs19
    refine ⟨fun h38 => (by exfalso; omega), fun h38 => ?_⟩
    refine ⟨by omega, ?_⟩
    exact hQ _ _ ⟨gs19, (fr_tr (fr_rf _ _) fs19 rfl), (Z9_fr fs19 (fun _ => rfl) rfl), (show 0 < s19 170 8 ∧ ((0 : Int) = 0 ∨ (0 : Int) = 1) from by omega)⟩
  · refine ⟨rfl, fun r20 q20 => ?_⟩
    have b20 := q20
    change (r20 = 0 ∨ r20 = 1) ∧ (r20 = 1 ↔ st 170 3 = 3 ∧ st 170 6 = (43)) at b20
    refine ⟨fun h39 => (by exfalso; have cx := cs_43 (by omega); unfold NSq at cx; clear hQ; omega), fun h39 => ?_⟩
    clear h39 b20
    refine ⟨rfl, fun r21 q21 => ?_⟩
    have b21 := q21
    change (r21 = 0 ∨ r21 = 1) ∧ (r21 = 1 ↔ st 170 3 = 3 ∧ st 170 6 = (45)) at b21
    refine ⟨fun h40 => (by exfalso; have cx := cs_45 (by omega); unfold NSq at cx; clear hQ; omega), fun h40 => ?_⟩
    clear h40 b21
    refine ⟨rfl, fun r22 q22 => ?_⟩
    have b22 := q22
    change (r22 = 0 ∨ r22 = 1) ∧ (r22 = 1 ↔ st 170 3 = 3 ∧ st 170 6 = (42)) at b22
    refine ⟨fun h41 => (by exfalso; have cx := cs_42 (by omega); unfold NSq at cx; clear hQ; omega), fun h41 => ?_⟩
    clear h41 b22
    refine ⟨rfl, fun r23 q23 => ?_⟩
    have b23 := q23
    change (r23 = 0 ∨ r23 = 1) ∧ (r23 = 1 ↔ st 170 3 = 3 ∧ st 170 6 = (47)) at b23
    refine ⟨fun h42 => (by exfalso; have cx := cs_47 (by omega); unfold NSq at cx; clear hQ; omega), fun h42 => ?_⟩
    clear h42 b23
    refine ⟨rfl, fun r24 q24 => ?_⟩
    have b24 := q24
    change (r24 = 0 ∨ r24 = 1) ∧ (r24 = 1 ↔ st 170 3 = 3 ∧ st 170 6 = (37)) at b24
    refine ⟨fun h43 => ?_, fun h43 => (by exfalso; have cx := cs_37 (by omega); unfold NSq at cx; clear hQ; omega)⟩
    clear h43 b24
    refine ⟨fun h44 => ?_, fun h44 => (by exfalso; clear hQ; omega)⟩
    clear h44
    refine ⟨fun h45 => ?_, fun h45 => (by exfalso; clear hQ; omega)⟩
    clear h45
    refine ⟨fun h46 => ?_, fun h46 => (by exfalso; clear hQ; omega)⟩
    clear h46
    refine ⟨fun h47 => ?_, fun h47 => (by exfalso; omega)⟩
    refine ⟨fun h48 => ?_, fun h48 => (by exfalso; omega)⟩
    refine ⟨rfl, fun r25 q25 => ?_⟩
    have b25 := q25
    change (r25 = 0 ∨ r25 = 1) ∧ (r25 = 1 ↔ st 170 3 = 3 ∧ st 170 6 = (44)) at b25
    refine ⟨fun h49 => (by exfalso; have cx := cs_44; unfold NSq at cx; clear hQ; omega), fun h49 => ?_⟩
    clear h49 b25
    refine ⟨rfl, ⟨hG, (show 1 ≤ (1) ∧ (1) ≤ 6 from by omega), (show -2147483648 ≤ (st 170 4) ∧ (st 170 4) ≤ 2147483647 from by omega)⟩, fun s26 q26 => ?_⟩
    obtain ⟨gs26, fs26, p26⟩ := q26
    change (st 170 8 = 0 → s26 170 8 = (1)) ∧ (0 < st 170 8 → s26 170 8 = st 170 8) at p26
    have g50 := g_faultKind gs26
    refine ⟨fun h51 => (by exfalso; omega), fun h51 => ?_⟩
    refine ⟨by omega, ?_⟩
    exact hQ _ _ ⟨gs26, (fr_tr (fr_rf _ _) fs26 rfl), (Z9_fr fs26 (fun _ => rfl) rfl), (show 0 < s26 170 8 ∧ ((0 : Int) = 0 ∨ (0 : Int) = 1) from by omega)⟩
theorem k_rGoF63_m (hTb : aTb zSh rx_tb cl) {t : Int → Int} {n k ph bg pr o p e : Int} {w c : List Int} {fs : List mFr} {kk v : Int} {D : Nat} (hD : 3 ≤ D) : ∀ as st (Q Q' : zQ), (∀ r st', Q r st' → Q' r st') → (k_rGoF63 t n k ph bg pr o p e w c fs kk v) 197 as st Q → cl D 197 as st Q' := by
  intro as st Q Q' hQ h
  unfold k_rGoF63 at h
  split at h
  · obtain ⟨rfl, h⟩ := h
    exact c_rGoF63 hTb hD (ct_rGoF63_m hQ h)
  · exact h.elim
set_option maxHeartbeats 4000000 in
set_option maxRecDepth 100000 in
theorem c_rGoF66 (hTb : aTb zSh rx_tb cl) {t : Int → Int} {n k ph bg pr o p e : Int} {w c : List Int} {fs : List mFr} {kk v : Int} {D : Nat} (hD : 3 ≤ D) {st : zS} {Q : zQ} (h : ct_rGoF66 t n k ph bg pr o p e w c fs kk v st Q) : cl D 197 [.inr (.inr (.inl 170))] st Q := by
  obtain ⟨d, rfl⟩ : ∃ d, D = d + 1 := ⟨D - 1, by omega⟩
  refine hTb d 197 (rx_m197, 5, 0, 0, 2) rfl _ _ _ (Nat.le_of_ble_eq_true rfl) (fun K hcl hsf hsl => ?_)
  have hcm : zmo (wcL [(181, k_rLex), (195, k_isTest), (183, k_isWord), (182, k_isSign), (178, k_blame)]) (cl d) := (wcL_m (wm_cons (k_rLex_m hTb (by omega)) (wm_cons (k_isTest_m hTb (by omega)) (wm_cons (k_isWord_m hTb (by omega)) (wm_cons (k_isSign_m hTb (by omega)) (wm_cons (k_blame_m hTb (by omega)) wm_nil))))))
  obtain ⟨hR, hQ⟩ := h
  obtain ⟨hG, mp, ht⟩ := hR
  change mcP t n st ((k, ph, bg, pr, w) :: fs) 1 (o) (c) (p) at mp
  change tk t n p kk v e ∧ ¬ kk = 5 ∧ k = 6 ∧ ¬ (kk = 3 ∧ v = 44) ∧ (ph < 2 → ¬ arS kk v) ∧ ¬ ph = 0 ∧ ¬ aoS kk v at ht
  obtain ⟨mf, mo, mn, mpp, mrd, mq, mbd, mz1, mz2, mz3⟩ := mp
  simp only [List.length_cons] at mz3
  have mq0 := mq
  obtain ⟨mfr, mwb, mcd⟩ := mq
  have mt := FR_top mfr
  have mb := FR_bnd _ _ _ mwb mfr
  simp only [List.length_cons] at mb
  have ml := WB_hd mwb
  have mcl := mcd.1
  have mlw := FR_len mb.2.1 mfr
  have mnb := nots_b w
  have tf := RDr_rv mrd (by rw [mpp]; exact ht.1)
  have n5 := RV_5 tf ht.2.1
  have cs_43 : ph < 2 → NSq st 43 := fun hp => RV_s ht.2.1 tf (fun z => ht.2.2.2.2.1 hp ⟨z.1, by have := z.2; omega⟩)
  have cs_45 : ph < 2 → NSq st 45 := fun hp => RV_s ht.2.1 tf (fun z => ht.2.2.2.2.1 hp ⟨z.1, by have := z.2; omega⟩)
  have cs_42 : ph < 2 → NSq st 42 := fun hp => RV_s ht.2.1 tf (fun z => ht.2.2.2.2.1 hp ⟨z.1, by have := z.2; omega⟩)
  have cs_47 : ph < 2 → NSq st 47 := fun hp => RV_s ht.2.1 tf (fun z => ht.2.2.2.2.1 hp ⟨z.1, by have := z.2; omega⟩)
  have cs_37 : ph < 2 → NSq st 37 := fun hp => RV_s ht.2.1 tf (fun z => ht.2.2.2.2.1 hp ⟨z.1, by have := z.2; omega⟩)
  have cw_6385252 := RV_w (c := 6385252) ht.2.1 tf (fun z => ht.2.2.2.2.2.2 ⟨z.1, by have := z.2; omega⟩)
  have cw_28530 := RV_w (c := 28530) ht.2.1 tf (fun z => ht.2.2.2.2.2.2 ⟨z.1, by have := z.2; omega⟩)
  have cs_44 := RV_s (c := 44) ht.2.1 tf ht.2.2.2.1
  clear tf
  have tkT : k = 1 ∨ k = 5 ∨ k = 6 := Or.inr (Or.inr ht.2.2.1)
  have g1 := g_codes hG
  have g2 := g_in hG
  have g3 := g_isClever hG
  have g4 := g_deep hG
  have g5 := g_open hG
  have g6 := g_opMany hG
  have g7 := g_signAt hG
  have g8 := g_signEnd hG
  have g9 := g_faultKind hG
  have g10 := g_size hG
  have g11 := g_sign hG
  have g12 := g_lexAt hG
  have g13 := g_value hG
  have g14 := g_word hG
  have g15 := g_operand hG
  refine yr1_ok (Rt := Q) (wc := (wcL [(181, k_rLex), (195, k_isTest), (183, k_isWord), (182, k_isSign), (178, k_blame)])) (stp := []) hcm hcl [] 500 ?_
  show (170 = 170 ∧ (rq_rLex  st ∧ (((st 170 8 ≤ (0 : Int) → ((-2147483648 ≤ (st 170 42) - 1 ∧ (st 170 42) - 1 ≤ 2147483647) ∧ ((0 ≤ (st 170 42) - 1 ∧ (st 170 42) - 1 < 20) ∧ (∀ (r17 : Int), en_isTest (st 192 ((st 170 42) - 1 : Int).toNat) st r17 → ((0 ≤ (st 170 42) - 1 ∧ (st 170 42) - 1 < 20) ∧ (((2 : Int) ≤ st 193 ((st 170 42) - 1 : Int).toNat → ((r17 = (0 : Int) → _) ∧ (¬ (r17 = (0 : Int)) → ((0 ≤ (st 170 42) - 1 ∧ (st 170 42) - 1 < 20) ∧ ((¬ st 193 ((st 170 42) - 1 : Int).toNat = (0 : Int) → ((r17 = (0 : Int) → _) ∧ (¬ (r17 = (0 : Int)) → (170 = 170 ∧ (∀ (r18 : Int), en_isWord (6385252) st r18 → ((¬ r18 = (0 : Int) → _) ∧ (¬ (¬ r18 = (0 : Int)) → (170 = 170 ∧ (∀ (r19 : Int), en_isWord (28530) st r19 → ((r19 = (0 : Int) → ((r17 = (0 : Int) → _) ∧ (¬ (r17 = (0 : Int)) → ((0 ≤ (st 170 42) - 1 ∧ (st 170 42) - 1 < 20) ∧ ((¬ st 193 ((st 170 42) - 1 : Int).toNat = (0 : Int) → (((2 : Int) ≤ st 192 ((st 170 42) - 1 : Int).toNat → ((st 192 ((st 170 42) - 1 : Int).toNat = (3 : Int) → _) ∧ (¬ (st 192 ((st 170 42) - 1 : Int).toNat = (3 : Int)) → ((¬ st 192 ((st 170 42) - 1 : Int).toNat = (6 : Int) → _) ∧ (¬ (¬ st 192 ((st 170 42) - 1 : Int).toNat = (6 : Int)) → (170 = 170 ∧ (∀ (r20 : Int), en_isSign (44) st r20 → ((¬ r20 = (0 : Int) → _) ∧ (¬ (¬ r20 = (0 : Int)) → (170 = 170 ∧ (rq_blame (1) (st 170 4) st ∧ (∀ (s21 : zS), en_blame (1) (st 170 4) st s21 → ((s21 170 8 ≤ (0 : Int) → _) ∧ (¬ (s21 170 8 ≤ (0 : Int)) → ((0 = (0 : Int) ∨ 0 = (1 : Int)) ∧ Q (some (.inl 0)) s21))))))))))))))) ∧ (¬ ((2 : Int) ≤ st 192 ((st 170 42) - 1 : Int).toNat) → _))) ∧ (¬ (¬ st 193 ((st 170 42) - 1 : Int).toNat = (0 : Int)) → _)))))) ∧ (¬ (r19 = (0 : Int)) → _))))))))))) ∧ (¬ (¬ st 193 ((st 170 42) - 1 : Int).toNat = (0 : Int)) → _)))))) ∧ (¬ ((2 : Int) ≤ st 193 ((st 170 42) - 1 : Int).toNat) → (170 = 170 ∧ (∀ (r22 : Int), en_isSign (43) st r22 → ((¬ r22 = (0 : Int) → _) ∧ (¬ (¬ r22 = (0 : Int)) → (170 = 170 ∧ (∀ (r23 : Int), en_isSign (45) st r23 → ((¬ r23 = (0 : Int) → _) ∧ (¬ (¬ r23 = (0 : Int)) → (170 = 170 ∧ (∀ (r24 : Int), en_isSign (42) st r24 → ((¬ r24 = (0 : Int) → _) ∧ (¬ (¬ r24 = (0 : Int)) → (170 = 170 ∧ (∀ (r25 : Int), en_isSign (47) st r25 → ((¬ r25 = (0 : Int) → _) ∧ (¬ (¬ r25 = (0 : Int)) → (170 = 170 ∧ (∀ (r26 : Int), en_isSign (37) st r26 → ((r26 = (0 : Int) → ((r17 = (0 : Int) → _) ∧ (¬ (r17 = (0 : Int)) → ((0 ≤ (st 170 42) - 1 ∧ (st 170 42) - 1 < 20) ∧ ((¬ st 193 ((st 170 42) - 1 : Int).toNat = (0 : Int) → ((r17 = (0 : Int) → _) ∧ (¬ (r17 = (0 : Int)) → (170 = 170 ∧ (∀ (r27 : Int), en_isWord (6385252) st r27 → ((¬ r27 = (0 : Int) → _) ∧ (¬ (¬ r27 = (0 : Int)) → (170 = 170 ∧ (∀ (r28 : Int), en_isWord (28530) st r28 → ((r28 = (0 : Int) → ((r17 = (0 : Int) → _) ∧ (¬ (r17 = (0 : Int)) → ((0 ≤ (st 170 42) - 1 ∧ (st 170 42) - 1 < 20) ∧ ((¬ st 193 ((st 170 42) - 1 : Int).toNat = (0 : Int) → (((2 : Int) ≤ st 192 ((st 170 42) - 1 : Int).toNat → ((st 192 ((st 170 42) - 1 : Int).toNat = (3 : Int) → _) ∧ (¬ (st 192 ((st 170 42) - 1 : Int).toNat = (3 : Int)) → ((¬ st 192 ((st 170 42) - 1 : Int).toNat = (6 : Int) → _) ∧ (¬ (¬ st 192 ((st 170 42) - 1 : Int).toNat = (6 : Int)) → (170 = 170 ∧ (∀ (r29 : Int), en_isSign (44) st r29 → ((¬ r29 = (0 : Int) → _) ∧ (¬ (¬ r29 = (0 : Int)) → (170 = 170 ∧ (rq_blame (1) (st 170 4) st ∧ (∀ (s30 : zS), en_blame (1) (st 170 4) st s30 → ((s30 170 8 ≤ (0 : Int) → _) ∧ (¬ (s30 170 8 ≤ (0 : Int)) → ((0 = (0 : Int) ∨ 0 = (1 : Int)) ∧ Q (some (.inl 0)) s30))))))))))))))) ∧ (¬ ((2 : Int) ≤ st 192 ((st 170 42) - 1 : Int).toNat) → _))) ∧ (¬ (¬ st 193 ((st 170 42) - 1 : Int).toNat = (0 : Int)) → _)))))) ∧ (¬ (r28 = (0 : Int)) → _))))))))))) ∧ (¬ (¬ st 193 ((st 170 42) - 1 : Int).toNat = (0 : Int)) → _)))))) ∧ (¬ (r26 = (0 : Int)) → _))))))))))))))))))))))))))) ∧ (¬ (st 170 8 ≤ (0 : Int)) → _)))))
  refine ⟨rfl, ⟨hG, (show st 170 12 = -1 from by omega)⟩, ?_⟩
  refine ⟨fun h31 => ?_, fun h31 => (by exfalso; omega)⟩
  refine ⟨by omega, ?_⟩
  have g32 := g_frame hG ((st 170 42) - 1 : Int).toNat
  refine ⟨by omega, ?_⟩
  refine fun r17 q17 => ?_
  have b17 := q17
  change (r17 = 0 ∨ r17 = 1) ∧ (r17 = 1 ↔ (st 192 ((st 170 42) - 1 : Int).toNat) = 1 ∨ (st 192 ((st 170 42) - 1 : Int).toNat) = 5 ∨ (st 192 ((st 170 42) - 1 : Int).toNat) = 6) at b17
  have g33 := g_phase hG ((st 170 42) - 1 : Int).toNat
  refine ⟨by omega, ?_⟩
  refine ⟨fun h34 => ?_, fun h34 => ?_⟩
  · refine ⟨fun h35 => (by exfalso; clear hQ; omega), fun h35 => ?_⟩
    clear h35
    refine ⟨by omega, ?_⟩
    refine ⟨fun h36 => ?_, fun h36 => (by exfalso; omega)⟩
    refine ⟨fun h37 => (by exfalso; clear hQ; omega), fun h37 => ?_⟩
    clear h37
    refine ⟨rfl, fun r18 q18 => ?_⟩
    have b18 := q18
    change (r18 = 0 ∨ r18 = 1) ∧ (r18 = 1 ↔ st 170 3 = 1 ∧ st 170 7 = (6385252)) at b18
    refine ⟨fun h38 => (by exfalso; have cx := cw_6385252; unfold NWq at cx; clear hQ; omega), fun h38 => ?_⟩
    clear h38 b18
    refine ⟨rfl, fun r19 q19 => ?_⟩
    have b19 := q19
    change (r19 = 0 ∨ r19 = 1) ∧ (r19 = 1 ↔ st 170 3 = 1 ∧ st 170 7 = (28530)) at b19
    refine ⟨fun h39 => ?_, fun h39 => (by exfalso; have cx := cw_28530; unfold NWq at cx; clear hQ; omega)⟩
    clear h39 b19
    refine ⟨fun h40 => (by exfalso; clear hQ; omega), fun h40 => ?_⟩
    clear h40
    refine ⟨by omega, ?_⟩
    refine ⟨fun h41 => ?_, fun h41 => (by exfalso; omega)⟩
    refine ⟨fun h42 => ?_, fun h42 => (by exfalso; omega)⟩
    refine ⟨fun h43 => (by exfalso; omega), fun h43 => ?_⟩
    refine ⟨fun h44 => (by exfalso; omega), fun h44 => ?_⟩
    refine ⟨rfl, fun r20 q20 => ?_⟩
    have b20 := q20
    change (r20 = 0 ∨ r20 = 1) ∧ (r20 = 1 ↔ st 170 3 = 3 ∧ st 170 6 = (44)) at b20
    refine ⟨fun h45 => (by exfalso; have cx := cs_44; unfold NSq at cx; clear hQ; omega), fun h45 => ?_⟩
    clear h45 b20
    refine ⟨rfl, ⟨hG, (show 1 ≤ (1) ∧ (1) ≤ 6 from by omega), (show -2147483648 ≤ (st 170 4) ∧ (st 170 4) ≤ 2147483647 from by omega)⟩, fun s21 q21 => ?_⟩
    obtain ⟨gs21, fs21, p21⟩ := q21
    change (st 170 8 = 0 → s21 170 8 = (1)) ∧ (0 < st 170 8 → s21 170 8 = st 170 8) at p21
    have g46 := g_faultKind gs21
    refine ⟨fun h47 => (by exfalso; omega), fun h47 => ?_⟩
    refine ⟨by omega, ?_⟩
    exact hQ _ _ ⟨gs21, (fr_tr (fr_rf _ _) fs21 rfl), (Z9_fr fs21 (fun _ => rfl) rfl), (show 0 < s21 170 8 ∧ ((0 : Int) = 0 ∨ (0 : Int) = 1) from by omega)⟩
  · refine ⟨rfl, fun r22 q22 => ?_⟩
    have b22 := q22
    change (r22 = 0 ∨ r22 = 1) ∧ (r22 = 1 ↔ st 170 3 = 3 ∧ st 170 6 = (43)) at b22
    refine ⟨fun h48 => (by exfalso; have cx := cs_43 (by omega); unfold NSq at cx; clear hQ; omega), fun h48 => ?_⟩
    clear h48 b22
    refine ⟨rfl, fun r23 q23 => ?_⟩
    have b23 := q23
    change (r23 = 0 ∨ r23 = 1) ∧ (r23 = 1 ↔ st 170 3 = 3 ∧ st 170 6 = (45)) at b23
    refine ⟨fun h49 => (by exfalso; have cx := cs_45 (by omega); unfold NSq at cx; clear hQ; omega), fun h49 => ?_⟩
    clear h49 b23
    refine ⟨rfl, fun r24 q24 => ?_⟩
    have b24 := q24
    change (r24 = 0 ∨ r24 = 1) ∧ (r24 = 1 ↔ st 170 3 = 3 ∧ st 170 6 = (42)) at b24
    refine ⟨fun h50 => (by exfalso; have cx := cs_42 (by omega); unfold NSq at cx; clear hQ; omega), fun h50 => ?_⟩
    clear h50 b24
    refine ⟨rfl, fun r25 q25 => ?_⟩
    have b25 := q25
    change (r25 = 0 ∨ r25 = 1) ∧ (r25 = 1 ↔ st 170 3 = 3 ∧ st 170 6 = (47)) at b25
    refine ⟨fun h51 => (by exfalso; have cx := cs_47 (by omega); unfold NSq at cx; clear hQ; omega), fun h51 => ?_⟩
    clear h51 b25
    refine ⟨rfl, fun r26 q26 => ?_⟩
    have b26 := q26
    change (r26 = 0 ∨ r26 = 1) ∧ (r26 = 1 ↔ st 170 3 = 3 ∧ st 170 6 = (37)) at b26
    refine ⟨fun h52 => ?_, fun h52 => (by exfalso; have cx := cs_37 (by omega); unfold NSq at cx; clear hQ; omega)⟩
    clear h52 b26
    refine ⟨fun h53 => (by exfalso; clear hQ; omega), fun h53 => ?_⟩
    clear h53
    refine ⟨by omega, ?_⟩
    refine ⟨fun h54 => ?_, fun h54 => (by exfalso; omega)⟩
    refine ⟨fun h55 => (by exfalso; clear hQ; omega), fun h55 => ?_⟩
    clear h55
    refine ⟨rfl, fun r27 q27 => ?_⟩
    have b27 := q27
    change (r27 = 0 ∨ r27 = 1) ∧ (r27 = 1 ↔ st 170 3 = 1 ∧ st 170 7 = (6385252)) at b27
    refine ⟨fun h56 => (by exfalso; have cx := cw_6385252; unfold NWq at cx; clear hQ; omega), fun h56 => ?_⟩
    clear h56 b27
    refine ⟨rfl, fun r28 q28 => ?_⟩
    have b28 := q28
    change (r28 = 0 ∨ r28 = 1) ∧ (r28 = 1 ↔ st 170 3 = 1 ∧ st 170 7 = (28530)) at b28
    refine ⟨fun h57 => ?_, fun h57 => (by exfalso; have cx := cw_28530; unfold NWq at cx; clear hQ; omega)⟩
    clear h57 b28
    refine ⟨fun h58 => (by exfalso; clear hQ; omega), fun h58 => ?_⟩
    clear h58
    refine ⟨by omega, ?_⟩
    refine ⟨fun h59 => ?_, fun h59 => (by exfalso; omega)⟩
    refine ⟨fun h60 => ?_, fun h60 => (by exfalso; omega)⟩
    refine ⟨fun h61 => (by exfalso; omega), fun h61 => ?_⟩
    refine ⟨fun h62 => (by exfalso; omega), fun h62 => ?_⟩
    refine ⟨rfl, fun r29 q29 => ?_⟩
    have b29 := q29
    change (r29 = 0 ∨ r29 = 1) ∧ (r29 = 1 ↔ st 170 3 = 3 ∧ st 170 6 = (44)) at b29
    refine ⟨fun h63 => (by exfalso; have cx := cs_44; unfold NSq at cx; clear hQ; omega), fun h63 => ?_⟩
    clear h63 b29
    refine ⟨rfl, ⟨hG, (show 1 ≤ (1) ∧ (1) ≤ 6 from by omega), (show -2147483648 ≤ (st 170 4) ∧ (st 170 4) ≤ 2147483647 from by omega)⟩, fun s30 q30 => ?_⟩
    obtain ⟨gs30, fs30, p30⟩ := q30
    change (st 170 8 = 0 → s30 170 8 = (1)) ∧ (0 < st 170 8 → s30 170 8 = st 170 8) at p30
    have g64 := g_faultKind gs30
    refine ⟨fun h65 => (by exfalso; omega), fun h65 => ?_⟩
    refine ⟨by omega, ?_⟩
    exact hQ _ _ ⟨gs30, (fr_tr (fr_rf _ _) fs30 rfl), (Z9_fr fs30 (fun _ => rfl) rfl), (show 0 < s30 170 8 ∧ ((0 : Int) = 0 ∨ (0 : Int) = 1) from by omega)⟩
theorem k_rGoF66_m (hTb : aTb zSh rx_tb cl) {t : Int → Int} {n k ph bg pr o p e : Int} {w c : List Int} {fs : List mFr} {kk v : Int} {D : Nat} (hD : 3 ≤ D) : ∀ as st (Q Q' : zQ), (∀ r st', Q r st' → Q' r st') → (k_rGoF66 t n k ph bg pr o p e w c fs kk v) 197 as st Q → cl D 197 as st Q' := by
  intro as st Q Q' hQ h
  unfold k_rGoF66 at h
  split at h
  · obtain ⟨rfl, h⟩ := h
    exact c_rGoF66 hTb hD (ct_rGoF66_m hQ h)
  · exact h.elim
set_option maxHeartbeats 4000000 in
set_option maxRecDepth 100000 in
theorem c_rGoF7 (hTb : aTb zSh rx_tb cl) {t : Int → Int} {n k ph bg pr o p e : Int} {w c : List Int} {fs : List mFr} {kk v : Int} {D : Nat} (hD : 3 ≤ D) {st : zS} {Q : zQ} (h : ct_rGoF7 t n k ph bg pr o p e w c fs kk v st Q) : cl D 197 [.inr (.inr (.inl 170))] st Q := by
  obtain ⟨d, rfl⟩ : ∃ d, D = d + 1 := ⟨D - 1, by omega⟩
  refine hTb d 197 (rx_m197, 5, 0, 0, 2) rfl _ _ _ (Nat.le_of_ble_eq_true rfl) (fun K hcl hsf hsl => ?_)
  have hcm : zmo (wcL [(181, k_rLex), (195, k_isTest), (183, k_isWord), (182, k_isSign), (178, k_blame)]) (cl d) := (wcL_m (wm_cons (k_rLex_m hTb (by omega)) (wm_cons (k_isTest_m hTb (by omega)) (wm_cons (k_isWord_m hTb (by omega)) (wm_cons (k_isSign_m hTb (by omega)) (wm_cons (k_blame_m hTb (by omega)) wm_nil))))))
  obtain ⟨hR, hQ⟩ := h
  obtain ⟨hG, mp, ht⟩ := hR
  change mcP t n st ((k, ph, bg, pr, w) :: fs) 1 (o) (c) (p) at mp
  change tk t n p kk v e ∧ ¬ kk = 5 ∧ (k = 2 ∨ k = 4) ∧ ¬ (kk = 3 ∧ v = 41) ∧ (ph < 2 → ¬ arS kk v) at ht
  obtain ⟨mf, mo, mn, mpp, mrd, mq, mbd, mz1, mz2, mz3⟩ := mp
  simp only [List.length_cons] at mz3
  have mq0 := mq
  obtain ⟨mfr, mwb, mcd⟩ := mq
  have mt := FR_top mfr
  have mb := FR_bnd _ _ _ mwb mfr
  simp only [List.length_cons] at mb
  have ml := WB_hd mwb
  have mcl := mcd.1
  have mlw := FR_len mb.2.1 mfr
  have mnb := nots_b w
  have tf := RDr_rv mrd (by rw [mpp]; exact ht.1)
  have n5 := RV_5 tf ht.2.1
  have cs_43 : ph < 2 → NSq st 43 := fun hp => RV_s ht.2.1 tf (fun z => ht.2.2.2.2 hp ⟨z.1, by have := z.2; omega⟩)
  have cs_45 : ph < 2 → NSq st 45 := fun hp => RV_s ht.2.1 tf (fun z => ht.2.2.2.2 hp ⟨z.1, by have := z.2; omega⟩)
  have cs_42 : ph < 2 → NSq st 42 := fun hp => RV_s ht.2.1 tf (fun z => ht.2.2.2.2 hp ⟨z.1, by have := z.2; omega⟩)
  have cs_47 : ph < 2 → NSq st 47 := fun hp => RV_s ht.2.1 tf (fun z => ht.2.2.2.2 hp ⟨z.1, by have := z.2; omega⟩)
  have cs_37 : ph < 2 → NSq st 37 := fun hp => RV_s ht.2.1 tf (fun z => ht.2.2.2.2 hp ⟨z.1, by have := z.2; omega⟩)
  have cs_41 := RV_s (c := 41) ht.2.1 tf ht.2.2.2.1
  clear tf
  have g1 := g_codes hG
  have g2 := g_in hG
  have g3 := g_isClever hG
  have g4 := g_deep hG
  have g5 := g_open hG
  have g6 := g_opMany hG
  have g7 := g_signAt hG
  have g8 := g_signEnd hG
  have g9 := g_faultKind hG
  have g10 := g_size hG
  have g11 := g_sign hG
  have g12 := g_lexAt hG
  have g13 := g_value hG
  have g14 := g_word hG
  have g15 := g_operand hG
  refine yr1_ok (Rt := Q) (wc := (wcL [(181, k_rLex), (195, k_isTest), (183, k_isWord), (182, k_isSign), (178, k_blame)])) (stp := []) hcm hcl [] 500 ?_
  show (170 = 170 ∧ (rq_rLex  st ∧ (((st 170 8 ≤ (0 : Int) → ((-2147483648 ≤ (st 170 42) - 1 ∧ (st 170 42) - 1 ≤ 2147483647) ∧ ((0 ≤ (st 170 42) - 1 ∧ (st 170 42) - 1 < 20) ∧ (∀ (r17 : Int), en_isTest (st 192 ((st 170 42) - 1 : Int).toNat) st r17 → ((0 ≤ (st 170 42) - 1 ∧ (st 170 42) - 1 < 20) ∧ (((2 : Int) ≤ st 193 ((st 170 42) - 1 : Int).toNat → ((r17 = (0 : Int) → ((r17 = (0 : Int) → ((r17 = (0 : Int) → (((2 : Int) ≤ st 192 ((st 170 42) - 1 : Int).toNat → ((st 192 ((st 170 42) - 1 : Int).toNat = (3 : Int) → _) ∧ (¬ (st 192 ((st 170 42) - 1 : Int).toNat = (3 : Int)) → ((¬ st 192 ((st 170 42) - 1 : Int).toNat = (6 : Int) → ((¬ st 192 ((st 170 42) - 1 : Int).toNat = (5 : Int) → (170 = 170 ∧ (∀ (r18 : Int), en_isSign (41) st r18 → ((¬ r18 = (0 : Int) → _) ∧ (¬ (¬ r18 = (0 : Int)) → (170 = 170 ∧ (rq_blame (1) (st 170 4) st ∧ (∀ (s19 : zS), en_blame (1) (st 170 4) st s19 → ((s19 170 8 ≤ (0 : Int) → _) ∧ (¬ (s19 170 8 ≤ (0 : Int)) → ((0 = (0 : Int) ∨ 0 = (1 : Int)) ∧ Q (some (.inl 0)) s19))))))))))) ∧ (¬ (¬ st 192 ((st 170 42) - 1 : Int).toNat = (5 : Int)) → _))) ∧ (¬ (¬ st 192 ((st 170 42) - 1 : Int).toNat = (6 : Int)) → _))))) ∧ (¬ ((2 : Int) ≤ st 192 ((st 170 42) - 1 : Int).toNat) → _))) ∧ (¬ (r17 = (0 : Int)) → _))) ∧ (¬ (r17 = (0 : Int)) → _))) ∧ (¬ (r17 = (0 : Int)) → _))) ∧ (¬ ((2 : Int) ≤ st 193 ((st 170 42) - 1 : Int).toNat) → (170 = 170 ∧ (∀ (r20 : Int), en_isSign (43) st r20 → ((¬ r20 = (0 : Int) → _) ∧ (¬ (¬ r20 = (0 : Int)) → (170 = 170 ∧ (∀ (r21 : Int), en_isSign (45) st r21 → ((¬ r21 = (0 : Int) → _) ∧ (¬ (¬ r21 = (0 : Int)) → (170 = 170 ∧ (∀ (r22 : Int), en_isSign (42) st r22 → ((¬ r22 = (0 : Int) → _) ∧ (¬ (¬ r22 = (0 : Int)) → (170 = 170 ∧ (∀ (r23 : Int), en_isSign (47) st r23 → ((¬ r23 = (0 : Int) → _) ∧ (¬ (¬ r23 = (0 : Int)) → (170 = 170 ∧ (∀ (r24 : Int), en_isSign (37) st r24 → ((r24 = (0 : Int) → ((r17 = (0 : Int) → ((r17 = (0 : Int) → ((r17 = (0 : Int) → (((2 : Int) ≤ st 192 ((st 170 42) - 1 : Int).toNat → ((st 192 ((st 170 42) - 1 : Int).toNat = (3 : Int) → _) ∧ (¬ (st 192 ((st 170 42) - 1 : Int).toNat = (3 : Int)) → ((¬ st 192 ((st 170 42) - 1 : Int).toNat = (6 : Int) → ((¬ st 192 ((st 170 42) - 1 : Int).toNat = (5 : Int) → (170 = 170 ∧ (∀ (r25 : Int), en_isSign (41) st r25 → ((¬ r25 = (0 : Int) → _) ∧ (¬ (¬ r25 = (0 : Int)) → (170 = 170 ∧ (rq_blame (1) (st 170 4) st ∧ (∀ (s26 : zS), en_blame (1) (st 170 4) st s26 → ((s26 170 8 ≤ (0 : Int) → _) ∧ (¬ (s26 170 8 ≤ (0 : Int)) → ((0 = (0 : Int) ∨ 0 = (1 : Int)) ∧ Q (some (.inl 0)) s26))))))))))) ∧ (¬ (¬ st 192 ((st 170 42) - 1 : Int).toNat = (5 : Int)) → _))) ∧ (¬ (¬ st 192 ((st 170 42) - 1 : Int).toNat = (6 : Int)) → _))))) ∧ (¬ ((2 : Int) ≤ st 192 ((st 170 42) - 1 : Int).toNat) → _))) ∧ (¬ (r17 = (0 : Int)) → _))) ∧ (¬ (r17 = (0 : Int)) → _))) ∧ (¬ (r17 = (0 : Int)) → _))) ∧ (¬ (r24 = (0 : Int)) → _))))))))))))))))))))))))))) ∧ (¬ (st 170 8 ≤ (0 : Int)) → _)))))
  refine ⟨rfl, ⟨hG, (show st 170 12 = -1 from by omega)⟩, ?_⟩
  refine ⟨fun h27 => ?_, fun h27 => (by exfalso; omega)⟩
  refine ⟨by omega, ?_⟩
  have g28 := g_frame hG ((st 170 42) - 1 : Int).toNat
  refine ⟨by omega, ?_⟩
  refine fun r17 q17 => ?_
  have b17 := q17
  change (r17 = 0 ∨ r17 = 1) ∧ (r17 = 1 ↔ (st 192 ((st 170 42) - 1 : Int).toNat) = 1 ∨ (st 192 ((st 170 42) - 1 : Int).toNat) = 5 ∨ (st 192 ((st 170 42) - 1 : Int).toNat) = 6) at b17
  have g29 := g_phase hG ((st 170 42) - 1 : Int).toNat
  refine ⟨by omega, ?_⟩
  refine ⟨fun h30 => ?_, fun h30 => ?_⟩
  · refine ⟨fun h31 => ?_, fun h31 => (by exfalso; clear hQ; omega)⟩
    clear h31
    refine ⟨fun h32 => ?_, fun h32 => (by exfalso; clear hQ; omega)⟩
    clear h32
    refine ⟨fun h33 => ?_, fun h33 => (by exfalso; clear hQ; omega)⟩
    clear h33
    refine ⟨fun h34 => ?_, fun h34 => (by exfalso; omega)⟩
    refine ⟨fun h35 => (by exfalso; omega), fun h35 => ?_⟩
    refine ⟨fun h36 => ?_, fun h36 => (by exfalso; omega)⟩
    refine ⟨fun h37 => ?_, fun h37 => (by exfalso; omega)⟩
    refine ⟨rfl, fun r18 q18 => ?_⟩
    have b18 := q18
    change (r18 = 0 ∨ r18 = 1) ∧ (r18 = 1 ↔ st 170 3 = 3 ∧ st 170 6 = (41)) at b18
    refine ⟨fun h38 => (by exfalso; have cx := cs_41; unfold NSq at cx; clear hQ; omega), fun h38 => ?_⟩
    clear h38 b18
    refine ⟨rfl, ⟨hG, (show 1 ≤ (1) ∧ (1) ≤ 6 from by omega), (show -2147483648 ≤ (st 170 4) ∧ (st 170 4) ≤ 2147483647 from by omega)⟩, fun s19 q19 => ?_⟩
    obtain ⟨gs19, fs19, p19⟩ := q19
    change (st 170 8 = 0 → s19 170 8 = (1)) ∧ (0 < st 170 8 → s19 170 8 = st 170 8) at p19
    have g39 := g_faultKind gs19
    refine ⟨fun h40 => (by exfalso; omega), fun h40 => ?_⟩
    refine ⟨by omega, ?_⟩
    exact hQ _ _ ⟨gs19, (fr_tr (fr_rf _ _) fs19 rfl), (Z9_fr fs19 (fun _ => rfl) rfl), (show 0 < s19 170 8 ∧ ((0 : Int) = 0 ∨ (0 : Int) = 1) from by omega)⟩
  · refine ⟨rfl, fun r20 q20 => ?_⟩
    have b20 := q20
    change (r20 = 0 ∨ r20 = 1) ∧ (r20 = 1 ↔ st 170 3 = 3 ∧ st 170 6 = (43)) at b20
    refine ⟨fun h41 => (by exfalso; have cx := cs_43 (by omega); unfold NSq at cx; clear hQ; omega), fun h41 => ?_⟩
    clear h41 b20
    refine ⟨rfl, fun r21 q21 => ?_⟩
    have b21 := q21
    change (r21 = 0 ∨ r21 = 1) ∧ (r21 = 1 ↔ st 170 3 = 3 ∧ st 170 6 = (45)) at b21
    refine ⟨fun h42 => (by exfalso; have cx := cs_45 (by omega); unfold NSq at cx; clear hQ; omega), fun h42 => ?_⟩
    clear h42 b21
    refine ⟨rfl, fun r22 q22 => ?_⟩
    have b22 := q22
    change (r22 = 0 ∨ r22 = 1) ∧ (r22 = 1 ↔ st 170 3 = 3 ∧ st 170 6 = (42)) at b22
    refine ⟨fun h43 => (by exfalso; have cx := cs_42 (by omega); unfold NSq at cx; clear hQ; omega), fun h43 => ?_⟩
    clear h43 b22
    refine ⟨rfl, fun r23 q23 => ?_⟩
    have b23 := q23
    change (r23 = 0 ∨ r23 = 1) ∧ (r23 = 1 ↔ st 170 3 = 3 ∧ st 170 6 = (47)) at b23
    refine ⟨fun h44 => (by exfalso; have cx := cs_47 (by omega); unfold NSq at cx; clear hQ; omega), fun h44 => ?_⟩
    clear h44 b23
    refine ⟨rfl, fun r24 q24 => ?_⟩
    have b24 := q24
    change (r24 = 0 ∨ r24 = 1) ∧ (r24 = 1 ↔ st 170 3 = 3 ∧ st 170 6 = (37)) at b24
    refine ⟨fun h45 => ?_, fun h45 => (by exfalso; have cx := cs_37 (by omega); unfold NSq at cx; clear hQ; omega)⟩
    clear h45 b24
    refine ⟨fun h46 => ?_, fun h46 => (by exfalso; clear hQ; omega)⟩
    clear h46
    refine ⟨fun h47 => ?_, fun h47 => (by exfalso; clear hQ; omega)⟩
    clear h47
    refine ⟨fun h48 => ?_, fun h48 => (by exfalso; clear hQ; omega)⟩
    clear h48
    refine ⟨fun h49 => ?_, fun h49 => (by exfalso; omega)⟩
    refine ⟨fun h50 => (by exfalso; omega), fun h50 => ?_⟩
    refine ⟨fun h51 => ?_, fun h51 => (by exfalso; omega)⟩
    refine ⟨fun h52 => ?_, fun h52 => (by exfalso; omega)⟩
    refine ⟨rfl, fun r25 q25 => ?_⟩
    have b25 := q25
    change (r25 = 0 ∨ r25 = 1) ∧ (r25 = 1 ↔ st 170 3 = 3 ∧ st 170 6 = (41)) at b25
    refine ⟨fun h53 => (by exfalso; have cx := cs_41; unfold NSq at cx; clear hQ; omega), fun h53 => ?_⟩
    clear h53 b25
    refine ⟨rfl, ⟨hG, (show 1 ≤ (1) ∧ (1) ≤ 6 from by omega), (show -2147483648 ≤ (st 170 4) ∧ (st 170 4) ≤ 2147483647 from by omega)⟩, fun s26 q26 => ?_⟩
    obtain ⟨gs26, fs26, p26⟩ := q26
    change (st 170 8 = 0 → s26 170 8 = (1)) ∧ (0 < st 170 8 → s26 170 8 = st 170 8) at p26
    have g54 := g_faultKind gs26
    refine ⟨fun h55 => (by exfalso; omega), fun h55 => ?_⟩
    refine ⟨by omega, ?_⟩
    exact hQ _ _ ⟨gs26, (fr_tr (fr_rf _ _) fs26 rfl), (Z9_fr fs26 (fun _ => rfl) rfl), (show 0 < s26 170 8 ∧ ((0 : Int) = 0 ∨ (0 : Int) = 1) from by omega)⟩
theorem k_rGoF7_m (hTb : aTb zSh rx_tb cl) {t : Int → Int} {n k ph bg pr o p e : Int} {w c : List Int} {fs : List mFr} {kk v : Int} {D : Nat} (hD : 3 ≤ D) : ∀ as st (Q Q' : zQ), (∀ r st', Q r st' → Q' r st') → (k_rGoF7 t n k ph bg pr o p e w c fs kk v) 197 as st Q → cl D 197 as st Q' := by
  intro as st Q Q' hQ h
  unfold k_rGoF7 at h
  split at h
  · obtain ⟨rfl, h⟩ := h
    exact c_rGoF7 hTb hD (ct_rGoF7_m hQ h)
  · exact h.elim
set_option maxHeartbeats 4000000 in
set_option maxRecDepth 100000 in
theorem c_rGoF75 (hTb : aTb zSh rx_tb cl) {t : Int → Int} {n k ph bg pr o p e : Int} {w c : List Int} {fs : List mFr} {kk v : Int} {D : Nat} (hD : 3 ≤ D) {st : zS} {Q : zQ} (h : ct_rGoF75 t n k ph bg pr o p e w c fs kk v st Q) : cl D 197 [.inr (.inr (.inl 170))] st Q := by
  obtain ⟨d, rfl⟩ : ∃ d, D = d + 1 := ⟨D - 1, by omega⟩
  refine hTb d 197 (rx_m197, 5, 0, 0, 2) rfl _ _ _ (Nat.le_of_ble_eq_true rfl) (fun K hcl hsf hsl => ?_)
  have hcm : zmo (wcL [(181, k_rLex), (195, k_isTest), (183, k_isWord), (182, k_isSign), (178, k_blame)]) (cl d) := (wcL_m (wm_cons (k_rLex_m hTb (by omega)) (wm_cons (k_isTest_m hTb (by omega)) (wm_cons (k_isWord_m hTb (by omega)) (wm_cons (k_isSign_m hTb (by omega)) (wm_cons (k_blame_m hTb (by omega)) wm_nil))))))
  obtain ⟨hR, hQ⟩ := h
  obtain ⟨hG, mp, ht⟩ := hR
  change mcP t n st ((k, ph, bg, pr, w) :: fs) 1 (o) (c) (p) at mp
  change tk t n p kk v e ∧ ¬ kk = 5 ∧ k = 5 ∧ ¬ (kk = 3 ∧ v = 93) ∧ (ph < 2 → ¬ arS kk v) ∧ ¬ ph = 0 ∧ ¬ aoS kk v at ht
  obtain ⟨mf, mo, mn, mpp, mrd, mq, mbd, mz1, mz2, mz3⟩ := mp
  simp only [List.length_cons] at mz3
  have mq0 := mq
  obtain ⟨mfr, mwb, mcd⟩ := mq
  have mt := FR_top mfr
  have mb := FR_bnd _ _ _ mwb mfr
  simp only [List.length_cons] at mb
  have ml := WB_hd mwb
  have mcl := mcd.1
  have mlw := FR_len mb.2.1 mfr
  have mnb := nots_b w
  have tf := RDr_rv mrd (by rw [mpp]; exact ht.1)
  have n5 := RV_5 tf ht.2.1
  have cs_43 : ph < 2 → NSq st 43 := fun hp => RV_s ht.2.1 tf (fun z => ht.2.2.2.2.1 hp ⟨z.1, by have := z.2; omega⟩)
  have cs_45 : ph < 2 → NSq st 45 := fun hp => RV_s ht.2.1 tf (fun z => ht.2.2.2.2.1 hp ⟨z.1, by have := z.2; omega⟩)
  have cs_42 : ph < 2 → NSq st 42 := fun hp => RV_s ht.2.1 tf (fun z => ht.2.2.2.2.1 hp ⟨z.1, by have := z.2; omega⟩)
  have cs_47 : ph < 2 → NSq st 47 := fun hp => RV_s ht.2.1 tf (fun z => ht.2.2.2.2.1 hp ⟨z.1, by have := z.2; omega⟩)
  have cs_37 : ph < 2 → NSq st 37 := fun hp => RV_s ht.2.1 tf (fun z => ht.2.2.2.2.1 hp ⟨z.1, by have := z.2; omega⟩)
  have cw_6385252 := RV_w (c := 6385252) ht.2.1 tf (fun z => ht.2.2.2.2.2.2 ⟨z.1, by have := z.2; omega⟩)
  have cw_28530 := RV_w (c := 28530) ht.2.1 tf (fun z => ht.2.2.2.2.2.2 ⟨z.1, by have := z.2; omega⟩)
  have cs_93 := RV_s (c := 93) ht.2.1 tf ht.2.2.2.1
  clear tf
  have tkT : k = 1 ∨ k = 5 ∨ k = 6 := Or.inr (Or.inl ht.2.2.1)
  have g1 := g_codes hG
  have g2 := g_in hG
  have g3 := g_isClever hG
  have g4 := g_deep hG
  have g5 := g_open hG
  have g6 := g_opMany hG
  have g7 := g_signAt hG
  have g8 := g_signEnd hG
  have g9 := g_faultKind hG
  have g10 := g_size hG
  have g11 := g_sign hG
  have g12 := g_lexAt hG
  have g13 := g_value hG
  have g14 := g_word hG
  have g15 := g_operand hG
  refine yr1_ok (Rt := Q) (wc := (wcL [(181, k_rLex), (195, k_isTest), (183, k_isWord), (182, k_isSign), (178, k_blame)])) (stp := []) hcm hcl [] 500 ?_
  show (170 = 170 ∧ (rq_rLex  st ∧ (((st 170 8 ≤ (0 : Int) → ((-2147483648 ≤ (st 170 42) - 1 ∧ (st 170 42) - 1 ≤ 2147483647) ∧ ((0 ≤ (st 170 42) - 1 ∧ (st 170 42) - 1 < 20) ∧ (∀ (r17 : Int), en_isTest (st 192 ((st 170 42) - 1 : Int).toNat) st r17 → ((0 ≤ (st 170 42) - 1 ∧ (st 170 42) - 1 < 20) ∧ (((2 : Int) ≤ st 193 ((st 170 42) - 1 : Int).toNat → ((r17 = (0 : Int) → _) ∧ (¬ (r17 = (0 : Int)) → ((0 ≤ (st 170 42) - 1 ∧ (st 170 42) - 1 < 20) ∧ ((¬ st 193 ((st 170 42) - 1 : Int).toNat = (0 : Int) → ((r17 = (0 : Int) → _) ∧ (¬ (r17 = (0 : Int)) → (170 = 170 ∧ (∀ (r18 : Int), en_isWord (6385252) st r18 → ((¬ r18 = (0 : Int) → _) ∧ (¬ (¬ r18 = (0 : Int)) → (170 = 170 ∧ (∀ (r19 : Int), en_isWord (28530) st r19 → ((r19 = (0 : Int) → ((r17 = (0 : Int) → _) ∧ (¬ (r17 = (0 : Int)) → ((0 ≤ (st 170 42) - 1 ∧ (st 170 42) - 1 < 20) ∧ ((¬ st 193 ((st 170 42) - 1 : Int).toNat = (0 : Int) → (((2 : Int) ≤ st 192 ((st 170 42) - 1 : Int).toNat → ((st 192 ((st 170 42) - 1 : Int).toNat = (3 : Int) → _) ∧ (¬ (st 192 ((st 170 42) - 1 : Int).toNat = (3 : Int)) → ((¬ st 192 ((st 170 42) - 1 : Int).toNat = (6 : Int) → ((¬ st 192 ((st 170 42) - 1 : Int).toNat = (5 : Int) → _) ∧ (¬ (¬ st 192 ((st 170 42) - 1 : Int).toNat = (5 : Int)) → (170 = 170 ∧ (∀ (r20 : Int), en_isSign (93) st r20 → ((¬ r20 = (0 : Int) → _) ∧ (¬ (¬ r20 = (0 : Int)) → (170 = 170 ∧ (rq_blame (1) (st 170 4) st ∧ (∀ (s21 : zS), en_blame (1) (st 170 4) st s21 → ((s21 170 8 ≤ (0 : Int) → _) ∧ (¬ (s21 170 8 ≤ (0 : Int)) → ((0 = (0 : Int) ∨ 0 = (1 : Int)) ∧ Q (some (.inl 0)) s21))))))))))))) ∧ (¬ (¬ st 192 ((st 170 42) - 1 : Int).toNat = (6 : Int)) → _))))) ∧ (¬ ((2 : Int) ≤ st 192 ((st 170 42) - 1 : Int).toNat) → _))) ∧ (¬ (¬ st 193 ((st 170 42) - 1 : Int).toNat = (0 : Int)) → _)))))) ∧ (¬ (r19 = (0 : Int)) → _))))))))))) ∧ (¬ (¬ st 193 ((st 170 42) - 1 : Int).toNat = (0 : Int)) → _)))))) ∧ (¬ ((2 : Int) ≤ st 193 ((st 170 42) - 1 : Int).toNat) → (170 = 170 ∧ (∀ (r22 : Int), en_isSign (43) st r22 → ((¬ r22 = (0 : Int) → _) ∧ (¬ (¬ r22 = (0 : Int)) → (170 = 170 ∧ (∀ (r23 : Int), en_isSign (45) st r23 → ((¬ r23 = (0 : Int) → _) ∧ (¬ (¬ r23 = (0 : Int)) → (170 = 170 ∧ (∀ (r24 : Int), en_isSign (42) st r24 → ((¬ r24 = (0 : Int) → _) ∧ (¬ (¬ r24 = (0 : Int)) → (170 = 170 ∧ (∀ (r25 : Int), en_isSign (47) st r25 → ((¬ r25 = (0 : Int) → _) ∧ (¬ (¬ r25 = (0 : Int)) → (170 = 170 ∧ (∀ (r26 : Int), en_isSign (37) st r26 → ((r26 = (0 : Int) → ((r17 = (0 : Int) → _) ∧ (¬ (r17 = (0 : Int)) → ((0 ≤ (st 170 42) - 1 ∧ (st 170 42) - 1 < 20) ∧ ((¬ st 193 ((st 170 42) - 1 : Int).toNat = (0 : Int) → ((r17 = (0 : Int) → _) ∧ (¬ (r17 = (0 : Int)) → (170 = 170 ∧ (∀ (r27 : Int), en_isWord (6385252) st r27 → ((¬ r27 = (0 : Int) → _) ∧ (¬ (¬ r27 = (0 : Int)) → (170 = 170 ∧ (∀ (r28 : Int), en_isWord (28530) st r28 → ((r28 = (0 : Int) → ((r17 = (0 : Int) → _) ∧ (¬ (r17 = (0 : Int)) → ((0 ≤ (st 170 42) - 1 ∧ (st 170 42) - 1 < 20) ∧ ((¬ st 193 ((st 170 42) - 1 : Int).toNat = (0 : Int) → (((2 : Int) ≤ st 192 ((st 170 42) - 1 : Int).toNat → ((st 192 ((st 170 42) - 1 : Int).toNat = (3 : Int) → _) ∧ (¬ (st 192 ((st 170 42) - 1 : Int).toNat = (3 : Int)) → ((¬ st 192 ((st 170 42) - 1 : Int).toNat = (6 : Int) → ((¬ st 192 ((st 170 42) - 1 : Int).toNat = (5 : Int) → _) ∧ (¬ (¬ st 192 ((st 170 42) - 1 : Int).toNat = (5 : Int)) → (170 = 170 ∧ (∀ (r29 : Int), en_isSign (93) st r29 → ((¬ r29 = (0 : Int) → _) ∧ (¬ (¬ r29 = (0 : Int)) → (170 = 170 ∧ (rq_blame (1) (st 170 4) st ∧ (∀ (s30 : zS), en_blame (1) (st 170 4) st s30 → ((s30 170 8 ≤ (0 : Int) → _) ∧ (¬ (s30 170 8 ≤ (0 : Int)) → ((0 = (0 : Int) ∨ 0 = (1 : Int)) ∧ Q (some (.inl 0)) s30))))))))))))) ∧ (¬ (¬ st 192 ((st 170 42) - 1 : Int).toNat = (6 : Int)) → _))))) ∧ (¬ ((2 : Int) ≤ st 192 ((st 170 42) - 1 : Int).toNat) → _))) ∧ (¬ (¬ st 193 ((st 170 42) - 1 : Int).toNat = (0 : Int)) → _)))))) ∧ (¬ (r28 = (0 : Int)) → _))))))))))) ∧ (¬ (¬ st 193 ((st 170 42) - 1 : Int).toNat = (0 : Int)) → _)))))) ∧ (¬ (r26 = (0 : Int)) → _))))))))))))))))))))))))))) ∧ (¬ (st 170 8 ≤ (0 : Int)) → _)))))
  refine ⟨rfl, ⟨hG, (show st 170 12 = -1 from by omega)⟩, ?_⟩
  refine ⟨fun h31 => ?_, fun h31 => (by exfalso; omega)⟩
  refine ⟨by omega, ?_⟩
  have g32 := g_frame hG ((st 170 42) - 1 : Int).toNat
  refine ⟨by omega, ?_⟩
  refine fun r17 q17 => ?_
  have b17 := q17
  change (r17 = 0 ∨ r17 = 1) ∧ (r17 = 1 ↔ (st 192 ((st 170 42) - 1 : Int).toNat) = 1 ∨ (st 192 ((st 170 42) - 1 : Int).toNat) = 5 ∨ (st 192 ((st 170 42) - 1 : Int).toNat) = 6) at b17
  have g33 := g_phase hG ((st 170 42) - 1 : Int).toNat
  refine ⟨by omega, ?_⟩
  refine ⟨fun h34 => ?_, fun h34 => ?_⟩
  · refine ⟨fun h35 => (by exfalso; clear hQ; omega), fun h35 => ?_⟩
    clear h35
    refine ⟨by omega, ?_⟩
    refine ⟨fun h36 => ?_, fun h36 => (by exfalso; omega)⟩
    refine ⟨fun h37 => (by exfalso; clear hQ; omega), fun h37 => ?_⟩
    clear h37
    refine ⟨rfl, fun r18 q18 => ?_⟩
    have b18 := q18
    change (r18 = 0 ∨ r18 = 1) ∧ (r18 = 1 ↔ st 170 3 = 1 ∧ st 170 7 = (6385252)) at b18
    refine ⟨fun h38 => (by exfalso; have cx := cw_6385252; unfold NWq at cx; clear hQ; omega), fun h38 => ?_⟩
    clear h38 b18
    refine ⟨rfl, fun r19 q19 => ?_⟩
    have b19 := q19
    change (r19 = 0 ∨ r19 = 1) ∧ (r19 = 1 ↔ st 170 3 = 1 ∧ st 170 7 = (28530)) at b19
    refine ⟨fun h39 => ?_, fun h39 => (by exfalso; have cx := cw_28530; unfold NWq at cx; clear hQ; omega)⟩
    clear h39 b19
    refine ⟨fun h40 => (by exfalso; clear hQ; omega), fun h40 => ?_⟩
    clear h40
    refine ⟨by omega, ?_⟩
    refine ⟨fun h41 => ?_, fun h41 => (by exfalso; omega)⟩
    refine ⟨fun h42 => ?_, fun h42 => (by exfalso; omega)⟩
    refine ⟨fun h43 => (by exfalso; omega), fun h43 => ?_⟩
    refine ⟨fun h44 => ?_, fun h44 => (by exfalso; omega)⟩
    refine ⟨fun h45 => (by exfalso; omega), fun h45 => ?_⟩
    refine ⟨rfl, fun r20 q20 => ?_⟩
    have b20 := q20
    change (r20 = 0 ∨ r20 = 1) ∧ (r20 = 1 ↔ st 170 3 = 3 ∧ st 170 6 = (93)) at b20
    refine ⟨fun h46 => (by exfalso; have cx := cs_93; unfold NSq at cx; clear hQ; omega), fun h46 => ?_⟩
    clear h46 b20
    refine ⟨rfl, ⟨hG, (show 1 ≤ (1) ∧ (1) ≤ 6 from by omega), (show -2147483648 ≤ (st 170 4) ∧ (st 170 4) ≤ 2147483647 from by omega)⟩, fun s21 q21 => ?_⟩
    obtain ⟨gs21, fs21, p21⟩ := q21
    change (st 170 8 = 0 → s21 170 8 = (1)) ∧ (0 < st 170 8 → s21 170 8 = st 170 8) at p21
    have g47 := g_faultKind gs21
    refine ⟨fun h48 => (by exfalso; omega), fun h48 => ?_⟩
    refine ⟨by omega, ?_⟩
    exact hQ _ _ ⟨gs21, (fr_tr (fr_rf _ _) fs21 rfl), (Z9_fr fs21 (fun _ => rfl) rfl), (show 0 < s21 170 8 ∧ ((0 : Int) = 0 ∨ (0 : Int) = 1) from by omega)⟩
  · refine ⟨rfl, fun r22 q22 => ?_⟩
    have b22 := q22
    change (r22 = 0 ∨ r22 = 1) ∧ (r22 = 1 ↔ st 170 3 = 3 ∧ st 170 6 = (43)) at b22
    refine ⟨fun h49 => (by exfalso; have cx := cs_43 (by omega); unfold NSq at cx; clear hQ; omega), fun h49 => ?_⟩
    clear h49 b22
    refine ⟨rfl, fun r23 q23 => ?_⟩
    have b23 := q23
    change (r23 = 0 ∨ r23 = 1) ∧ (r23 = 1 ↔ st 170 3 = 3 ∧ st 170 6 = (45)) at b23
    refine ⟨fun h50 => (by exfalso; have cx := cs_45 (by omega); unfold NSq at cx; clear hQ; omega), fun h50 => ?_⟩
    clear h50 b23
    refine ⟨rfl, fun r24 q24 => ?_⟩
    have b24 := q24
    change (r24 = 0 ∨ r24 = 1) ∧ (r24 = 1 ↔ st 170 3 = 3 ∧ st 170 6 = (42)) at b24
    refine ⟨fun h51 => (by exfalso; have cx := cs_42 (by omega); unfold NSq at cx; clear hQ; omega), fun h51 => ?_⟩
    clear h51 b24
    refine ⟨rfl, fun r25 q25 => ?_⟩
    have b25 := q25
    change (r25 = 0 ∨ r25 = 1) ∧ (r25 = 1 ↔ st 170 3 = 3 ∧ st 170 6 = (47)) at b25
    refine ⟨fun h52 => (by exfalso; have cx := cs_47 (by omega); unfold NSq at cx; clear hQ; omega), fun h52 => ?_⟩
    clear h52 b25
    refine ⟨rfl, fun r26 q26 => ?_⟩
    have b26 := q26
    change (r26 = 0 ∨ r26 = 1) ∧ (r26 = 1 ↔ st 170 3 = 3 ∧ st 170 6 = (37)) at b26
    refine ⟨fun h53 => ?_, fun h53 => (by exfalso; have cx := cs_37 (by omega); unfold NSq at cx; clear hQ; omega)⟩
    clear h53 b26
    refine ⟨fun h54 => (by exfalso; clear hQ; omega), fun h54 => ?_⟩
    clear h54
    refine ⟨by omega, ?_⟩
    refine ⟨fun h55 => ?_, fun h55 => (by exfalso; omega)⟩
    refine ⟨fun h56 => (by exfalso; clear hQ; omega), fun h56 => ?_⟩
    clear h56
    refine ⟨rfl, fun r27 q27 => ?_⟩
    have b27 := q27
    change (r27 = 0 ∨ r27 = 1) ∧ (r27 = 1 ↔ st 170 3 = 1 ∧ st 170 7 = (6385252)) at b27
    refine ⟨fun h57 => (by exfalso; have cx := cw_6385252; unfold NWq at cx; clear hQ; omega), fun h57 => ?_⟩
    clear h57 b27
    refine ⟨rfl, fun r28 q28 => ?_⟩
    have b28 := q28
    change (r28 = 0 ∨ r28 = 1) ∧ (r28 = 1 ↔ st 170 3 = 1 ∧ st 170 7 = (28530)) at b28
    refine ⟨fun h58 => ?_, fun h58 => (by exfalso; have cx := cw_28530; unfold NWq at cx; clear hQ; omega)⟩
    clear h58 b28
    refine ⟨fun h59 => (by exfalso; clear hQ; omega), fun h59 => ?_⟩
    clear h59
    refine ⟨by omega, ?_⟩
    refine ⟨fun h60 => ?_, fun h60 => (by exfalso; omega)⟩
    refine ⟨fun h61 => ?_, fun h61 => (by exfalso; omega)⟩
    refine ⟨fun h62 => (by exfalso; omega), fun h62 => ?_⟩
    refine ⟨fun h63 => ?_, fun h63 => (by exfalso; omega)⟩
    refine ⟨fun h64 => (by exfalso; omega), fun h64 => ?_⟩
    refine ⟨rfl, fun r29 q29 => ?_⟩
    have b29 := q29
    change (r29 = 0 ∨ r29 = 1) ∧ (r29 = 1 ↔ st 170 3 = 3 ∧ st 170 6 = (93)) at b29
    refine ⟨fun h65 => (by exfalso; have cx := cs_93; unfold NSq at cx; clear hQ; omega), fun h65 => ?_⟩
    clear h65 b29
    refine ⟨rfl, ⟨hG, (show 1 ≤ (1) ∧ (1) ≤ 6 from by omega), (show -2147483648 ≤ (st 170 4) ∧ (st 170 4) ≤ 2147483647 from by omega)⟩, fun s30 q30 => ?_⟩
    obtain ⟨gs30, fs30, p30⟩ := q30
    change (st 170 8 = 0 → s30 170 8 = (1)) ∧ (0 < st 170 8 → s30 170 8 = st 170 8) at p30
    have g66 := g_faultKind gs30
    refine ⟨fun h67 => (by exfalso; omega), fun h67 => ?_⟩
    refine ⟨by omega, ?_⟩
    exact hQ _ _ ⟨gs30, (fr_tr (fr_rf _ _) fs30 rfl), (Z9_fr fs30 (fun _ => rfl) rfl), (show 0 < s30 170 8 ∧ ((0 : Int) = 0 ∨ (0 : Int) = 1) from by omega)⟩
theorem k_rGoF75_m (hTb : aTb zSh rx_tb cl) {t : Int → Int} {n k ph bg pr o p e : Int} {w c : List Int} {fs : List mFr} {kk v : Int} {D : Nat} (hD : 3 ≤ D) : ∀ as st (Q Q' : zQ), (∀ r st', Q r st' → Q' r st') → (k_rGoF75 t n k ph bg pr o p e w c fs kk v) 197 as st Q → cl D 197 as st Q' := by
  intro as st Q Q' hQ h
  unfold k_rGoF75 at h
  split at h
  · obtain ⟨rfl, h⟩ := h
    exact c_rGoF75 hTb hD (ct_rGoF75_m hQ h)
  · exact h.elim
set_option maxHeartbeats 4000000 in
set_option maxRecDepth 100000 in
theorem c_rGoF0 (hTb : aTb zSh rx_tb cl) {t : Int → Int} {n k ph bg pr o p e : Int} {w c : List Int} {fs : List mFr} {v : Int} {D : Nat} (hD : 3 ≤ D) {st : zS} {Q : zQ} (h : ct_rGoF0 t n k ph bg pr o p e w c fs v st Q) : cl D 197 [.inr (.inr (.inl 170))] st Q := by
  obtain ⟨d, rfl⟩ : ∃ d, D = d + 1 := ⟨D - 1, by omega⟩
  refine hTb d 197 (rx_m197, 5, 0, 0, 2) rfl _ _ _ (Nat.le_of_ble_eq_true rfl) (fun K hcl hsf hsl => ?_)
  have hcm : zmo (wcL [(181, k_rLexA)]) (cl d) := (wcL_m (wm_cons (k_rLexA_m hTb (by omega)) wm_nil))
  obtain ⟨hR, hQ⟩ := h
  obtain ⟨hG, mp, ht⟩ := hR
  change mcP t n st ((k, ph, bg, pr, w) :: fs) 1 (o) (c) (p) at mp
  change tk t n p 5 v e at ht
  obtain ⟨mf, mo, mn, mpp, mrd, mq, mbd, mz1, mz2, mz3⟩ := mp
  simp only [List.length_cons] at mz3
  have mq0 := mq
  obtain ⟨mfr, mwb, mcd⟩ := mq
  have mt := FR_top mfr
  have mb := FR_bnd _ _ _ mwb mfr
  simp only [List.length_cons] at mb
  have ml := WB_hd mwb
  have mcl := mcd.1
  have mlw := FR_len mb.2.1 mfr
  have mnb := nots_b w
  have tf := RDr_rv mrd (by rw [mpp]; exact ht)
  unfold RV at tf
  have g1 := g_codes hG
  have g2 := g_in hG
  have g3 := g_isClever hG
  have g4 := g_deep hG
  have g5 := g_open hG
  have g6 := g_opMany hG
  have g7 := g_signAt hG
  have g8 := g_signEnd hG
  have g9 := g_faultKind hG
  have g10 := g_size hG
  have g11 := g_sign hG
  have g12 := g_lexAt hG
  have g13 := g_value hG
  have g14 := g_word hG
  have g15 := g_operand hG
  refine yr1_ok (Rt := Q) (wc := (wcL [(181, k_rLexA)])) (stp := []) hcm hcl [] 500 ?_
  show (170 = 170 ∧ (rq_rLexA  st ∧ (∀ (s16 : zS), en_rLexA  st s16 → ((s16 170 8 ≤ (0 : Int) → _) ∧ (¬ (s16 170 8 ≤ (0 : Int)) → ((0 = (0 : Int) ∨ 0 = (1 : Int)) ∧ Q (some (.inl 0)) s16))))))
  refine ⟨rfl, hG, fun s16 q16 => ?_⟩
  obtain ⟨gs16, fs16, x16⟩ := q16
  change (st 170 12 = -1 → s16 170 8 = st 170 8) ∧ (¬ st 170 12 = -1 → 0 < s16 170 8) ∧ (0 < st 170 8 → 0 < s16 170 8) at x16
  have g17 := g_faultKind gs16
  have e18 : s16 170 3 = st 170 3 := fs16 170 3 rfl rfl
  have e19 : s16 170 6 = st 170 6 := fs16 170 6 rfl rfl
  have e20 : s16 170 7 = st 170 7 := fs16 170 7 rfl rfl
  have e21 : s16 170 12 = st 170 12 := fs16 170 12 rfl rfl
  have e22 : s16 170 4 = st 170 4 := fs16 170 4 rfl rfl
  have e23 : s16 170 43 = st 170 43 := fs16 170 43 rfl rfl
  have e24 : s16 170 42 = st 170 42 := fs16 170 42 rfl rfl
  have e25 : s16 170 45 = st 170 45 := fs16 170 45 rfl rfl
  have e26 : s16 170 5 = st 170 5 := fs16 170 5 rfl rfl
  refine ⟨fun h27 => (by exfalso; omega), fun h27 => ?_⟩
  refine ⟨by omega, ?_⟩
  exact hQ _ _ ⟨gs16, (fr_tr (fr_rf _ _) fs16 rfl), (Z9_fr fs16 (fun _ => rfl) rfl), (show 0 < s16 170 8 ∧ ((0 : Int) = 0 ∨ (0 : Int) = 1) from by omega)⟩
theorem k_rGoF0_m (hTb : aTb zSh rx_tb cl) {t : Int → Int} {n k ph bg pr o p e : Int} {w c : List Int} {fs : List mFr} {v : Int} {D : Nat} (hD : 3 ≤ D) : ∀ as st (Q Q' : zQ), (∀ r st', Q r st' → Q' r st') → (k_rGoF0 t n k ph bg pr o p e w c fs v) 197 as st Q → cl D 197 as st Q' := by
  intro as st Q Q' hQ h
  unfold k_rGoF0 at h
  split at h
  · obtain ⟨rfl, h⟩ := h
    exact c_rGoF0 hTb hD (ct_rGoF0_m hQ h)
  · exact h.elim
end Rz4
