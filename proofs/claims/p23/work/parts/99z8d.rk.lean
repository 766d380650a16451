/-! the codes of a town: the class's, and the reference's, are of one list -/
def RKs (b w : Int) (s : zS) (c : List Int) : Prop := 0 ≤ s 186 (2 * b + w).toNat ∧ s 187 (2 * b + w).toNat = s 186 (2 * b + w).toNat + (c.length : Int) ∧ RCA (s 188) (s 189) (1600 * b + s 186 (2 * b + w).toNat) c
def RKc (w : Int) (T : zS) (c : List Int) : Prop := CCA (T 0 16) (T 12) (T 0 (17 + w).toNat) c ∧ (w = 0 → xTY ((0 : Int) = 1) c [] [false]) ∧ (w = 1 → xTY ((1 : Int) = 1) c [] [true])
def RKw (e b w : Int) (T s : zS) : Prop := ¬ T 0 (17 + w).toNat = -1 → ∃ c : List Int, RKc w T c ∧ RKs b w s c ∧ s 187 (2 * b + w).toNat ≤ e
def RK (e b : Int) (T s : zS) : Prop := RKw e b 0 T s ∧ RKw e b 1 T s
theorem RK_e {e e' b : Int} {T T' st s : zS} (he : e ≤ e') (h1 : ∀ i : Nat, T' 12 i = T 12 i) (h2 : ∀ i : Nat, i = 16 ∨ i = 17 ∨ i = 18 → T' 0 i = T 0 i) (h3 : ∀ c i : Nat, 186 ≤ c → c ≤ 189 → s c i = st c i) (k : RK e b T st) : RK e' b T' s := by
  have e1 : T' 12 = T 12 := funext h1
  have q : ∀ c : Nat, 186 ≤ c → c ≤ 189 → s c = st c := fun c z1 z2 => funext (fun i => h3 c i z1 z2)
  have e6 := q 186 (by decide) (by decide)
  have e7 := q 187 (by decide) (by decide)
  have e8 := q 188 (by decide) (by decide)
  have e9 := q 189 (by decide) (by decide)
  have f : ∀ w : Int, (w = 0 ∨ w = 1) → RKw e b w T st → RKw e' b w T' s := by
    intro w hw k hn
    have ew : T' 0 (17 + w).toNat = T 0 (17 + w).toNat := h2 _ (by omega)
    rw [ew] at hn
    obtain ⟨c, ⟨k1, k2⟩, ⟨k3, k4, k5⟩, k6⟩ := k hn
    refine ⟨c, ⟨?_, k2⟩, ⟨?_, ?_, ?_⟩, ?_⟩
    · rw [h2 16 (by decide), e1, ew]; exact k1
    · rw [e6]; exact k3
    · rw [e6, e7]; exact k4
    · rw [e6, e8, e9]; exact k5
    · rw [e7]; omega
  exact ⟨f 0 (Or.inl rfl) k.1, f 1 (Or.inr rfl) k.2⟩
theorem RK_clr {e b : Int} {T s : zS} (hc : Clr T) : RK e b T s := by
  obtain ⟨c0, c1, c2, c3, c4, c5, c6, c7, c8, c9, c10⟩ := hc
  exact ⟨fun z => absurd c8 z, fun z => absurd c9 z⟩
/-- a sum more is read -/
theorem RK_rd {b k : Int} {T T1 st s : zS} {C gc : List Int} {n1 : Int} (hk : k = 0 ∨ k = 1) (h : RK (C.length : Int) b T st) (h0 : 0 ≤ T 0 16) (hd : CDA (T 0 16) n1 (T 12) (T1 12) gc) (hs : T1 12 n1.toNat = 13238272) (hf : T1 0 (17 + k).toNat = T 0 16) (h16 : T1 0 16 = n1 + 1) (ho : ∀ w : Int, (w = 0 ∨ w = 1) → ¬ w = k → T1 0 (17 + w).toNat = T 0 (17 + w).toNat) (ht : (k = 0 → xTY ((0 : Int) = 1) gc [] [false]) ∧ (k = 1 → xTY ((1 : Int) = 1) gc [] [true])) (hb : 0 ≤ b) {m : Int} (cd0 : CDr b (C.length : Int) (st 188) (st 189) C) (cd1 : CDr b m (s 188) (s 189) (C ++ gc)) (h186 : ∀ i : Nat, s 186 i = up1 (st 186) (2 * b + k).toNat (C.length : Int) i) (h187 : ∀ i : Nat, s 187 i = up1 (st 187) (2 * b + k).toNat m i) : RK m b T1 s := by
  have hm : m = (C.length : Int) + (gc.length : Int) := by
    have z := cd1.1
    rw [List.length_append] at z
    omega
  have hn : n1 = T 0 16 + (gc.length : Int) := hd.2.1
  have f : ∀ w : Int, (w = 0 ∨ w = 1) → RKw (C.length : Int) b w T st → RKw m b w T1 s := by
    intro w hw z hn1
    by_cases e : w = k
    · subst e
      refine ⟨gc, ⟨⟨?_, ?_, ?_, ?_⟩, ht⟩, ⟨?_, ?_, ?_, ?_⟩, ?_⟩
      · rw [hf]; exact h0
      · rw [hf, h16]; omega
      · intro i hi
        rw [hf]
        exact hd.2.2.1 i hi
      · rw [hf, ← hn]; exact hs
      · rw [h186, up1_e]; omega
      · rw [h186, h187, up1_e, up1_e]; omega
      · rw [h186, up1_e]; omega
      · intro i hi
        rw [h186, up1_e]
        have y := cd1.2 (C.length + i) (by rw [List.length_append]; omega)
        rw [getD_a2 _ _ _ (by omega), show C.length + i - C.length = i by omega, show (1600 * b + ((C.length + i : Nat) : Int)).toNat = (1600 * b + (C.length : Int)).toNat + i by omega] at y
        exact y
      · rw [h187, up1_e]; omega
    · have e1 := ho w hw e
      rw [e1] at hn1
      obtain ⟨c, ⟨⟨k1, k2, k3, k4⟩, k5⟩, ⟨k6, k7, k8, k9⟩, k10⟩ := z hn1
      have e6 : s 186 (2 * b + w).toNat = st 186 (2 * b + w).toNat := by rw [h186, up1_n _ _ (by omega)]
      have e7 : s 187 (2 * b + w).toNat = st 187 (2 * b + w).toNat := by rw [h187, up1_n _ _ (by omega)]
      refine ⟨c, ⟨⟨?_, ?_, ?_, ?_⟩, k5⟩, ⟨?_, ?_, ?_, ?_⟩, ?_⟩
      · rw [e1]; exact k1
      · rw [e1, h16]; omega
      · intro i hi
        rw [e1, hd.2.2.2 _ (by omega)]
        exact k3 i hi
      · rw [e1, hd.2.2.2 _ (by omega)]
        exact k4
      · rw [e6]; exact k6
      · rw [e6, e7]; exact k7
      · rw [e6]; exact k8
      · intro i hi
        rw [e6]
        have y := k9 i hi
        have z0 := cd0.2 (st 186 (2 * b + w).toNat + (i : Int)).toNat (by omega)
        have z1 := cd1.2 (st 186 (2 * b + w).toNat + (i : Int)).toNat (by rw [List.length_append]; omega)
        rw [getD_a1 _ _ _ (by omega)] at z1
        rw [show (1600 * b + (((st 186 (2 * b + w).toNat + (i : Int)).toNat : Nat) : Int)).toNat = (1600 * b + st 186 (2 * b + w).toNat).toNat + i by omega] at z0 z1
        rw [z0.1] at y
        refine ⟨z1.1.trans y.1, fun hz => ?_⟩
        rw [z1.2 (y.1.trans hz), ← z0.2 (y.1.trans hz)]
        exact y.2 hz
      · rw [e7]; omega
  exact ⟨f 0 (Or.inl rfl) h.1, f 1 (Or.inr rfl) h.2⟩
theorem RG_g2 {t : Int → Int} {n : Int} {T T1 : zS} {e q2 k gd : Int} (gh : RGH t n T e T1 q2 k gd) (h0 : 0 ≤ e) : ∃ gc : List Int, (gd = 1 → (gc.length : Int) ≤ q2 - e ∧ e ≤ q2) ∧ (T 0 (17 + k).toNat = -1 → (k = 0 → RDD t n ((0 : Int) = 1) 0 gd q2 gc e) ∧ (k = 1 → RDD t n ((1 : Int) = 1) 1 gd q2 gc e)) ∧ (gd = 1 → ∃ n1 : Int, CDA (T 0 16) n1 (T 12) (T1 12) gc ∧ T1 12 n1.toNat = 13238272 ∧ T1 0 (17 + k).toNat = T 0 16 ∧ T1 0 16 = n1 + 1 ∧ (∀ w : Int, (w = 0 ∨ w = 1) → ¬ w = k → T1 0 (17 + w).toNat = T 0 (17 + w).toNat) ∧ (k = 0 → xTY ((0 : Int) = 1) gc [] [false]) ∧ (k = 1 → xTY ((1 : Int) = 1) gc [] [true])) := by
  rcases gh with ⟨rfl, ⟨g, h⟩ | ⟨g, h⟩⟩ | ⟨rfl, ⟨g, h⟩ | ⟨g, h⟩⟩
  · obtain ⟨-, c, n1, h1, h2, h3, h4, h5, h6⟩ := h
    have l := Gr_len h1 h0
    refine ⟨c, fun _ => ⟨l.2, l.1⟩, fun _ => ⟨fun _ => Or.inl ⟨rfl, Or.inl ⟨g, h1, Gr_tk h1 h0⟩⟩, fun z => absurd z (by decide)⟩, fun _ => ⟨n1, h2, h3, h4, h5, fun w hw hn => ?_, fun _ => Gr_sumT h1, fun z => absurd z (by decide)⟩⟩
    exact h6 0 _ (by decide) (by omega)
  · refine ⟨[], fun z => by omega, fun hT => ⟨fun _ => Or.inl ⟨rfl, Or.inr ⟨g, ?_⟩⟩, fun z => absurd z (by decide)⟩, fun z => by omega⟩
    rcases h with h | h
    · exact absurd hT h
    · exact h
  · obtain ⟨-, c, n1, h1, h2, h3, h4, h5, h6⟩ := h
    have l := Gr_len h1 h0
    refine ⟨c, fun _ => ⟨l.2, l.1⟩, fun _ => ⟨fun z => absurd z (by decide), fun _ => Or.inr ⟨rfl, Or.inl ⟨g, h1, Gr_tk h1 h0⟩⟩⟩, fun _ => ⟨n1, h2, h3, h4, h5, fun w hw hn => ?_, fun z => absurd z (by decide), fun _ => Gr_tstT h1⟩⟩
    exact h6 0 _ (by decide) (by omega)
  · refine ⟨[], fun z => by omega, fun hT => ⟨fun z => absurd z (by decide), fun _ => Or.inr ⟨rfl, Or.inr ⟨g, ?_⟩⟩⟩, fun z => by omega⟩
    rcases h with h | h
    · exact absurd hT h
    · exact h
/-- the other statements touch no codes -/
theorem sB_cd {t : Int → Int} {n : Int} {T : zS} {e : Int} {T1 : zS} {q : Int} {i : Nat} (h : sB t n T e T1 q i) (hi : ¬ i = 9 ∧ ¬ i = 10) : (∀ j : Nat, T1 12 j = T 12 j) ∧ ∀ j : Nat, j = 16 ∨ j = 17 ∨ j = 18 → T1 0 j = T 0 j := by
  rcases (show i = 0 ∨ i = 1 ∨ i = 4 ∨ i = 6 ∨ i = 11 ∨ i = 12 ∨ (¬ i = 0 ∧ ¬ i = 1 ∧ ¬ i = 4 ∧ ¬ i = 6 ∧ ¬ i = 9 ∧ ¬ i = 10 ∧ ¬ i = 11 ∧ ¬ i = 12) by omega) with rfl | rfl | rfl | rfl | rfl | rfl | hj
  · obtain ⟨h0, v, x, h1, h2, h3, h4, rfl⟩ := (show bPl t n T e T1 q from h)
    exact ⟨fun j => rfl, fun j hj => by rcases hj with rfl | rfl | rfl <;> rfl⟩
  · obtain ⟨h0, v, a, e1, e2, u, c, e3, e4, m, h1, h2, h3, h4, h5, h6, h7, h8, h9, h10, h11, rfl⟩ := (show bSt t n T e T1 q from h)
    exact ⟨fun j => rfl, fun j hj => by rcases hj with rfl | rfl | rfl <;> rfl⟩
  · obtain ⟨h0, v, a, e1, e2, m, h1, h2, h3, h4, h5, h6, rfl⟩ := (show bSp t n T e T1 q from h)
    exact ⟨fun j => rfl, fun j hj => by rcases hj with rfl | rfl | rfl <;> rfl⟩
  · obtain ⟨h0, v, x, e1, e2, u, a, e3, e4, m, h1, h2, h3, h4, h5, h6, h7, h8, h9, h10, rfl⟩ := (show bTh t n T e T1 q from h)
    exact ⟨fun j => rfl, fun j hj => by rcases hj with rfl | rfl | rfl <;> rfl⟩
  · obtain ⟨m, h1, h2, rfl⟩ := (show bHe t n T e T1 q 13 40 from h)
    exact ⟨fun j => rfl, fun j hj => by rcases hj with rfl | rfl | rfl <;> rfl⟩
  · obtain ⟨m, h1, h2, rfl⟩ := (show bHe t n T e T1 q 14 100 from h)
    exact ⟨fun j => rfl, fun j hj => by rcases hj with rfl | rfl | rfl <;> rfl⟩
  · exfalso
    unfold sB at h
    split at h <;> first | exact h.elim | omega
