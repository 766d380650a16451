/-! a town told is well told -/
theorem hb_q (g i : Int) : zd (Nat.land (zi (g / zpw (i % 32).toNat)) (zi 1)) = hb g i := by
  have e : Nat.land (zi (g / zpw (i % 32).toNat)) (zi 1) = zi (g / zpw (i % 32).toNat) % 2 := Nat.and_two_pow_sub_one_eq_mod (zi (g / zpw (i % 32).toNat)) 1
  unfold hb
  rw [e]
  have z : zd (zi (g / zpw (i % 32).toNat) % 2) = ((zi (g / zpw (i % 32).toNat) % 2 : Nat) : Int) := by
    unfold zd
    rw [zblt, decide_eq_true (show zi (g / zpw (i % 32).toNat) % 2 < 2147483648 by omega)]
    rfl
  rw [z]
  split <;> omega
def TWs (T : zS) : Prop := ∀ i : Int, 0 ≤ i → i < T 0 3 → (0 ≤ T 2 i.toNat ∧ T 2 i.toNat < T 0 1) ∧ (0 ≤ T 3 i.toNat ∧ T 3 i.toNat < T 0 1) ∧ ¬ T 2 i.toNat = T 3 i.toNat ∧ (1 ≤ T 4 i.toNat ∧ T 4 i.toNat ≤ 99) ∧ lnk T (T 2 i.toNat) (T 3 i.toNat) = i ∧ lnk T (T 3 i.toNat) (T 2 i.toNat) = i
def TWl (T : zS) : Prop := ∀ x y : Int, 0 ≤ x → x < 8 → 0 ≤ y → y < 8 → lnk T x y = -1 ∨ ((0 ≤ lnk T x y ∧ lnk T x y < T 0 3) ∧ ((x = T 2 (lnk T x y).toNat ∧ y = T 3 (lnk T x y).toNat) ∨ (x = T 3 (lnk T x y).toNat ∧ y = T 2 (lnk T x y).toNat)))
def TWt (T : zS) : Prop := ∀ i : Int, 0 ≤ i → i < T 0 8 → (0 ≤ T 7 i.toNat ∧ T 7 i.toNat < T 0 1) ∧ 0 ≤ T 8 i.toNat ∧ T 8 i.toNat ≤ 9
def TWp (T : zS) : Prop := ∀ k : Int, 0 ≤ k → k < T 9 2 → (0 ≤ T 10 k.toNat ∧ T 10 k.toNat < T 0 1) ∧ (0 ≤ T 11 k.toNat ∧ T 11 k.toNat ≤ 30) ∧ (0 < k → ¬ lnk T (T 10 (k - 1).toNat) (T 10 k.toNat) = -1)
def TW (T : zS) : Prop := ((0 ≤ T 0 1 ∧ T 0 1 ≤ 8) ∧ (0 ≤ T 0 3 ∧ T 0 3 ≤ 14) ∧ (0 ≤ T 0 8 ∧ T 0 8 ≤ 8) ∧ (0 ≤ T 9 2 ∧ T 9 2 ≤ 20) ∧ (0 ≤ T 0 13 ∧ T 0 13 ≤ 40) ∧ (0 ≤ T 0 14 ∧ T 0 14 ≤ 100)) ∧ TWs T ∧ TWl T ∧ TWt T ∧ TWp T
/-- what none of it looks at -/
theorem TW_e {T T' : zS} (h : ∀ c i : Nat, ¬ c = 12 → ¬ c = 1 → ¬ c = 6 → ¬ (c = 0 ∧ ¬ (i = 1 ∨ i = 3 ∨ i = 8 ∨ i = 13 ∨ i = 14)) → T' c i = T c i) (k : TW T) : TW T' := by
  have e : ∀ c : Nat, ¬ c = 12 → ¬ c = 1 → ¬ c = 6 → ¬ c = 0 → T' c = T c := fun c h1 h2 h3 h4 => funext (fun i => h c i h1 h2 h3 (fun z => h4 z.1))
  have z : ∀ i : Nat, (i = 1 ∨ i = 3 ∨ i = 8 ∨ i = 13 ∨ i = 14) → T' 0 i = T 0 i := fun i hi => h 0 i (by decide) (by decide) (by decide) (fun q => q.2 hi)
  have e2 := e 2 (by decide) (by decide) (by decide) (by decide)
  have e3 := e 3 (by decide) (by decide) (by decide) (by decide)
  have e4 := e 4 (by decide) (by decide) (by decide) (by decide)
  have e5 := e 5 (by decide) (by decide) (by decide) (by decide)
  have e7 := e 7 (by decide) (by decide) (by decide) (by decide)
  have e8 := e 8 (by decide) (by decide) (by decide) (by decide)
  have e9 := e 9 (by decide) (by decide) (by decide) (by decide)
  have e10 := e 10 (by decide) (by decide) (by decide) (by decide)
  have e11 := e 11 (by decide) (by decide) (by decide) (by decide)
  have z1 := z 1 (by decide)
  have z3 := z 3 (by decide)
  have z8 := z 8 (by decide)
  have z13 := z 13 (by decide)
  have z14 := z 14 (by decide)
  unfold TW TWs TWl TWt TWp lnk at k ⊢
  rw [e2, e3, e4, e5, e7, e8, e9, e10, e11, z1, z3, z8, z13, z14]
  exact k
theorem TW_clr {T : zS} (hc : Clr T) : TW T := by
  obtain ⟨c0, c1, c2, c3, c4, c5, c6, c7, c8, c9, c10⟩ := hc
  refine ⟨by omega, ?_, ?_, ?_, ?_⟩
  · intro i h1 h2
    omega
  · intro x y h1 h2 h3 h4
    have z := c10 (8 * x + y) (by omega) (by omega)
    exact Or.inl z
  · intro i h1 h2
    omega
  · intro i h1 h2
    omega
section TWS
variable {t : Int → Int} {n : Int} {T : zS} {p : Int} {T' : zS} {q : Int}
theorem TW_pl (h : bPl t n T p T' q) (k : TW T) : TW T' := by
  obtain ⟨h0, v, x, h1, h2, h3, h4, rfl⟩ := h
  obtain ⟨b, s, l, t_, p_⟩ := k
  refine ⟨?_, ?_, l, ?_, ?_⟩
  · show (0 ≤ T 0 1 + 1 ∧ T 0 1 + 1 ≤ 8) ∧ _
    exact ⟨by omega, b.2⟩
  · intro i z1 z2
    have y := s i z1 z2
    refine ⟨⟨y.1.1, ?_⟩, ⟨y.2.1.1, ?_⟩, y.2.2⟩
    · show T 2 i.toNat < T 0 1 + 1
      omega
    · show T 3 i.toNat < T 0 1 + 1
      omega
  · intro i z1 z2
    have y := t_ i z1 z2
    refine ⟨⟨y.1.1, ?_⟩, y.2⟩
    show T 7 i.toNat < T 0 1 + 1
    omega
  · intro i z1 z2
    have y := p_ i z1 z2
    refine ⟨⟨y.1.1, ?_⟩, y.2⟩
    show T 10 i.toNat < T 0 1 + 1
    omega
theorem TW_th (h : bTh t n T p T' q) (k : TW T) : TW T' := by
  obtain ⟨h0, v, x, e1, e2, u, a, e3, e4, m, h1, h2, h3, h4, h5, h6, h7, h8, h9, h10, rfl⟩ := h
  obtain ⟨b, s, l, t_, p_⟩ := k
  have ka := KnP_b h7
  have km := tk_num h9
  refine ⟨?_, s, l, ?_, p_⟩
  · show (0 ≤ T 0 1 ∧ T 0 1 ≤ 8) ∧ (0 ≤ T 0 3 ∧ T 0 3 ≤ 14) ∧ (0 ≤ T 0 8 + 1 ∧ T 0 8 + 1 ≤ 8) ∧ _
    exact ⟨b.1, b.2.1, by omega, b.2.2.2⟩
  · intro i z1 z2
    have z2 : i < T 0 8 + 1 := z2
    show (0 ≤ up1 (T 7) (T 0 8).toNat a i.toNat ∧ up1 (T 7) (T 0 8).toNat a i.toNat < T 0 1) ∧ 0 ≤ up1 (T 8) (T 0 8).toNat m i.toNat ∧ up1 (T 8) (T 0 8).toNat m i.toNat ≤ 9
    by_cases e : i = T 0 8
    · rw [e, up1_e, up1_e]
      omega
    · rw [up1_n _ _ (by omega), up1_n _ _ (by omega)]
      exact t_ i z1 (by omega)
theorem TW_sp (h : bSp t n T p T' q) (k : TW T) : TW T' := by
  obtain ⟨h0, v, a, e1, e2, m, h1, h2, h3, h4, h5, h6, rfl⟩ := h
  obtain ⟨b, s, l, t_, p_⟩ := k
  have ka := KnP_b h2
  have km := tk_num h5
  refine ⟨?_, s, l, t_, ?_⟩
  · show (0 ≤ T 0 1 ∧ T 0 1 ≤ 8) ∧ (0 ≤ T 0 3 ∧ T 0 3 ≤ 14) ∧ (0 ≤ T 0 8 ∧ T 0 8 ≤ 8) ∧ (0 ≤ T 9 2 + 1 ∧ T 9 2 + 1 ≤ 20) ∧ _
    exact ⟨b.1, b.2.1, b.2.2.1, by omega, b.2.2.2.2⟩
  · intro i z1 z2
    have z2 : i < T 9 2 + 1 := z2
    show (0 ≤ up1 (T 10) (T 9 2).toNat a i.toNat ∧ up1 (T 10) (T 9 2).toNat a i.toNat < T 0 1) ∧ (0 ≤ up1 (T 11) (T 9 2).toNat m i.toNat ∧ up1 (T 11) (T 9 2).toNat m i.toNat ≤ 30) ∧ (0 < i → ¬ lnk T (up1 (T 10) (T 9 2).toNat a (i - 1).toNat) (up1 (T 10) (T 9 2).toNat a i.toNat) = -1)
    by_cases e : i = T 9 2
    · rw [e, up1_e, up1_e]
      refine ⟨by omega, by omega, fun z => ?_⟩
      rw [up1_n _ _ (by omega)]
      rcases h3 with h3 | h3
      · omega
      · exact h3
    · have y := p_ i z1 (by omega)
      rw [up1_n _ _ (show ¬ i.toNat = (T 9 2).toNat by omega), up1_n _ _ (show ¬ i.toNat = (T 9 2).toNat by omega)]
      refine ⟨y.1, y.2.1, fun z => ?_⟩
      rw [up1_n _ _ (by omega)]
      exact y.2.2 z
theorem TW_sym (k : TW T) {x y : Int} (x1 : 0 ≤ x) (x2 : x < 8) (y1 : 0 ≤ y) (y2 : y < 8) (h : lnk T x y = -1) : lnk T y x = -1 := by
  obtain ⟨b, s, l, t_, p_⟩ := k
  rcases l y x y1 y2 x1 x2 with z | ⟨z1, z2⟩
  · exact z
  · exfalso
    have w := s _ z1.1 z1.2
    rcases z2 with ⟨u1, u2⟩ | ⟨u1, u2⟩
    · have v := w.2.2.2.2.2
      rw [← u1, ← u2, h] at v
      omega
    · have v := w.2.2.2.2.1
      rw [← u1, ← u2, h] at v
      omega
theorem TW_st (h : bSt t n T p T' q) (k : TW T) : TW T' := by
  obtain ⟨h0, v, a, e1, e2, u, c, e3, e4, m, h1, h2, h3, h4, h5, h6, h7, h8, h9, h10, h11, rfl⟩ := h
  have hs := TW_sym k (x := a) (y := c)
  obtain ⟨b, s, l, t_, p_⟩ := k
  have ka := KnP_b h2
  have kc := KnP_b h5
  have hs := hs (by omega) (by omega) (by omega) (by omega) h7
  have g0 : 0 ≤ T 0 3 := b.2.1.1
  have L : ∀ x y : Int, 0 ≤ x → x < 8 → 0 ≤ y → y < 8 → up1 (up1 (T 5) (a * 8 + c).toNat (T 0 3)) (c * 8 + a).toNat (T 0 3) (8 * x + y).toNat = if (x = a ∧ y = c) ∨ (x = c ∧ y = a) then T 0 3 else lnk T x y := by
    intro x y x1 x2 y1 y2
    by_cases z1 : x = c ∧ y = a
    · rw [if_pos (Or.inr z1), z1.1, z1.2, show (8 * c + a).toNat = (c * 8 + a).toNat by omega, up1_e]
    · rw [up1_n _ _ (by omega)]
      by_cases z2 : x = a ∧ y = c
      · rw [if_pos (Or.inl z2), z2.1, z2.2, show (8 * a + c).toNat = (a * 8 + c).toNat by omega, up1_e]
      · rw [up1_n _ _ (by omega), if_neg (by omega)]
        rfl
  have L1 : ∀ x y : Int, 0 ≤ x → x < 8 → 0 ≤ y → y < 8 → lnk (zup (zup (zup (zup (zup (zup T 2 (T 0 3).toNat a) 3 (T 0 3).toNat c) 4 (T 0 3).toNat m) 5 (a * 8 + c).toNat (T 0 3)) 5 (c * 8 + a).toNat (T 0 3)) 0 3 (T 0 3 + 1)) x y = if (x = a ∧ y = c) ∨ (x = c ∧ y = a) then T 0 3 else lnk T x y := L
  refine ⟨?_, ?_, ?_, t_, ?_⟩
  · show (0 ≤ T 0 1 ∧ T 0 1 ≤ 8) ∧ (0 ≤ T 0 3 + 1 ∧ T 0 3 + 1 ≤ 14) ∧ _
    exact ⟨b.1, by omega, b.2.2⟩
  · intro i z1 z2
    have z2 : i < T 0 3 + 1 := z2
    show (0 ≤ up1 (T 2) (T 0 3).toNat a i.toNat ∧ up1 (T 2) (T 0 3).toNat a i.toNat < T 0 1) ∧ (0 ≤ up1 (T 3) (T 0 3).toNat c i.toNat ∧ up1 (T 3) (T 0 3).toNat c i.toNat < T 0 1) ∧ ¬ up1 (T 2) (T 0 3).toNat a i.toNat = up1 (T 3) (T 0 3).toNat c i.toNat ∧ (1 ≤ up1 (T 4) (T 0 3).toNat m i.toNat ∧ up1 (T 4) (T 0 3).toNat m i.toNat ≤ 99) ∧ lnk _ (up1 (T 2) (T 0 3).toNat a i.toNat) (up1 (T 3) (T 0 3).toNat c i.toNat) = i ∧ lnk _ (up1 (T 3) (T 0 3).toNat c i.toNat) (up1 (T 2) (T 0 3).toNat a i.toNat) = i
    by_cases e : i = T 0 3
    · rw [e, up1_e, up1_e, up1_e]
      refine ⟨by omega, by omega, by omega, by omega, ?_, ?_⟩
      · rw [L1 _ _ (by omega) (by omega) (by omega) (by omega), if_pos (Or.inl ⟨rfl, rfl⟩)]
      · rw [L1 _ _ (by omega) (by omega) (by omega) (by omega), if_pos (Or.inr ⟨rfl, rfl⟩)]
    · have y := s i z1 (by omega)
      rw [up1_n _ _ (show ¬ i.toNat = (T 0 3).toNat by omega), up1_n _ _ (show ¬ i.toNat = (T 0 3).toNat by omega), up1_n _ _ (show ¬ i.toNat = (T 0 3).toNat by omega)]
      have y5 := y.2.2.2.2.1
      have y6 := y.2.2.2.2.2
      refine ⟨y.1, y.2.1, y.2.2.1, y.2.2.2.1, ?_, ?_⟩
      · rw [L1 _ _ (by omega) (by omega) (by omega) (by omega), if_neg]
        · exact y5
        · rintro (⟨w1, w2⟩ | ⟨w1, w2⟩)
          · rw [w1, w2, h7] at y5; omega
          · rw [w1, w2, hs] at y5; omega
      · rw [L1 _ _ (by omega) (by omega) (by omega) (by omega), if_neg]
        · exact y6
        · rintro (⟨w1, w2⟩ | ⟨w1, w2⟩)
          · rw [w1, w2, h7] at y6; omega
          · rw [w1, w2, hs] at y6; omega
  · intro x y x1 x2 y1 y2
    show lnk _ x y = -1 ∨ ((0 ≤ lnk _ x y ∧ lnk _ x y < T 0 3 + 1) ∧ ((x = up1 (T 2) (T 0 3).toNat a (lnk _ x y).toNat ∧ y = up1 (T 3) (T 0 3).toNat c (lnk _ x y).toNat) ∨ (x = up1 (T 3) (T 0 3).toNat c (lnk _ x y).toNat ∧ y = up1 (T 2) (T 0 3).toNat a (lnk _ x y).toNat)))
    rw [L1 x y x1 x2 y1 y2]
    by_cases e : (x = a ∧ y = c) ∨ (x = c ∧ y = a)
    · rw [if_pos e, up1_e, up1_e]
      exact Or.inr ⟨by omega, e⟩
    · rw [if_neg e]
      rcases l x y x1 x2 y1 y2 with z | ⟨z1, z2⟩
      · exact Or.inl z
      · rw [up1_n _ _ (by omega), up1_n _ _ (by omega)]
        exact Or.inr ⟨by omega, z2⟩
  · intro i z1 z2
    have y := p_ i z1 z2
    refine ⟨y.1, y.2.1, fun z => ?_⟩
    have y0 := p_ (i - 1) (by omega) (by have z2 : i < T 9 2 := z2; omega)
    have w := y.2.2 z
    show ¬ lnk _ (T 10 (i - 1).toNat) (T 10 i.toNat) = -1
    rw [L1 _ _ (by omega) (by omega) (by omega) (by omega)]
    split
    · omega
    · exact w
theorem TW_sB {i : Nat} (h : sB t n T p T' q i) (k : TW T) : TW T' := by
  rcases (show i = 0 ∨ i = 1 ∨ i = 4 ∨ i = 6 ∨ i = 9 ∨ i = 10 ∨ i = 11 ∨ i = 12 ∨ (¬ i = 0 ∧ ¬ i = 1 ∧ ¬ i = 4 ∧ ¬ i = 6 ∧ ¬ i = 9 ∧ ¬ i = 10 ∧ ¬ i = 11 ∧ ¬ i = 12) by omega) with rfl | rfl | rfl | rfl | rfl | rfl | rfl | rfl | hi
  · exact TW_pl h k
  · exact TW_st h k
  · exact TW_sp h k
  · exact TW_th h k
  · obtain ⟨_, c, n1, h1, h2, h3, h4, h5, h6⟩ := (show bRd t n T p T' q 17 ((0 : Int) = 1) 0 from h)
    exact TW_e (fun c i y1 y2 y3 y4 => h6 c i y1 (fun z => y4 ⟨z.1, by omega⟩)) k
  · obtain ⟨_, c, n1, h1, h2, h3, h4, h5, h6⟩ := (show bRd t n T p T' q 18 ((1 : Int) = 1) 5 from h)
    exact TW_e (fun c i y1 y2 y3 y4 => h6 c i y1 (fun z => y4 ⟨z.1, by omega⟩)) k
  · obtain ⟨m, h1, h2, rfl⟩ := (show bHe t n T p T' q 13 40 from h)
    have km := tk_num h1
    obtain ⟨b, s⟩ := k
    refine ⟨?_, s⟩
    show (0 ≤ T 0 1 ∧ T 0 1 ≤ 8) ∧ (0 ≤ T 0 3 ∧ T 0 3 ≤ 14) ∧ (0 ≤ T 0 8 ∧ T 0 8 ≤ 8) ∧ (0 ≤ T 9 2 ∧ T 9 2 ≤ 20) ∧ (0 ≤ m ∧ m ≤ 40) ∧ (0 ≤ T 0 14 ∧ T 0 14 ≤ 100)
    omega
  · obtain ⟨m, h1, h2, rfl⟩ := (show bHe t n T p T' q 14 100 from h)
    have km := tk_num h1
    obtain ⟨b, s⟩ := k
    refine ⟨?_, s⟩
    show (0 ≤ T 0 1 ∧ T 0 1 ≤ 8) ∧ (0 ≤ T 0 3 ∧ T 0 3 ≤ 14) ∧ (0 ≤ T 0 8 ∧ T 0 8 ≤ 8) ∧ (0 ≤ T 9 2 ∧ T 9 2 ≤ 20) ∧ (0 ≤ T 0 13 ∧ T 0 13 ≤ 40) ∧ (0 ≤ m ∧ m ≤ 100)
    omega
  · exfalso
    unfold sB at h
    split at h <;> first | exact h.elim | omega
theorem TW_SS (h : SS t n T p T' q) (k : TW T) : TW T' := by
  obtain ⟨i, e, e2, T1, a1, a2, a3, a4, rfl⟩ := h
  exact TW_e (fun c i y1 y2 y3 y4 => zup_ne T1 _ (fun z => y4 ⟨z.1, by omega⟩)) (TW_sB a3 k)
end TWS
theorem TW_ok {t : Int → Int} {n gd : Int} {m : Nat} {Ts : Nat → zS} {ps : Nat → Int} (h : TGH t n gd m Ts ps) : ∀ j : Nat, j ≤ m → TW (Ts j) := by
  intro j
  induction j with
  | zero => intro _; exact TW_clr h.1
  | succ j ih => intro hj; exact TW_SS (h.2.2.1 j (by omega)) (ih (by omega))
theorem TW_POK {t : Int → Int} {n r : Int} {T : zS} (h : POK t n T r) : TW T := by
  obtain ⟨m, Ts, ps, hg, hr, hT⟩ := TGH_ok h
  rw [← hT]
  exact TW_ok hg m (Nat.le_refl _)
theorem zad_l {T st : zS} (h : RT (st 170 13) T st) {x y : Int} (x1 : 0 ≤ x) (x2 : x < 8) (y1 : 0 ≤ y) (y2 : y < 8) : zad st x y = lnk T x y + 1 := by
  have z := h.2.2.1.2.2.2 (8 * x + y) (by omega) (by omega)
  rw [show 64 * st 170 13 + (8 * x + y) = 64 * st 170 13 + 8 * x + y by omega] at z
  exact z
