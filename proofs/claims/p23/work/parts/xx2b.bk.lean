/-! what stands of the codes of the bank in use -/
def bK (st s : zS) : Prop := (∀ i : Nat, 2 * st 170 13 ≤ (i : Int) → (i : Int) < 2 * st 170 13 + 2 → s 187 i = st 187 i) ∧ ∀ i : Nat, 1600 * st 170 13 ≤ (i : Int) → (i : Int) < 1600 * st 170 13 + 1600 → s 188 i = st 188 i ∧ s 189 i = st 189 i
theorem bK_of {st s : zS} (h : jR st s) (k : ∀ i : Nat, 1600 * st 170 13 ≤ (i : Int) → (i : Int) < 1600 * st 170 13 + 1600 → s 189 i = st 189 i) : bK st s :=
  ⟨fun i h1 h2 => h 187 i (by unfold jrel; omega), fun i h1 h2 => ⟨h 188 i (by unfold jrel; omega), k i h1 h2⟩⟩
theorem bK_o {st s : zS} (h : ∀ c i : Nat, (c = 187 ∨ c = 188 ∨ c = 189) → s c i = st c i) : bK st s := ⟨fun i _ _ => h 187 i (by omega), fun i _ _ => ⟨h 188 i (by omega), h 189 i (by omega)⟩⟩
theorem RK_bK {T st s : zS} (hb : 0 ≤ st 170 13 ∧ st 170 13 ≤ 1) (h : bR st s) (hK : bK st s) (k : RK 1600 (st 170 13) T st) : RK 1600 (st 170 13) T s := by
  have f : ∀ w : Int, (w = 0 ∨ w = 1) → RKw 1600 (st 170 13) w T st → RKw 1600 (st 170 13) w T s := by
    intro w hw k hn
    obtain ⟨c, k1, ⟨k3, k4, k5, k6⟩, k7⟩ := k hn
    have e6 : s 186 (2 * st 170 13 + w).toNat = st 186 (2 * st 170 13 + w).toNat := h 186 _ (by unfold brel; omega)
    have e7 : s 187 (2 * st 170 13 + w).toNat = st 187 (2 * st 170 13 + w).toNat := hK.1 _ (by omega) (by omega)
    refine ⟨c, k1, ⟨?_, ?_, ?_, ?_⟩, ?_⟩
    · rw [e6]; exact k3
    · rw [e6, e7]; exact k4
    · rw [e6]; exact k5
    · intro i hi
      rw [e6]
      have e8 := hK.2 ((1600 * st 170 13 + st 186 (2 * st 170 13 + w).toNat).toNat + i) (by omega) (by omega)
      rw [e8.1, e8.2]
      exact k6 i hi
    · rw [e7]; exact k7
  exact ⟨f 0 (Or.inl rfl) k.1, f 1 (Or.inr rfl) k.2⟩
/-- the town behind a statement -/
theorem TIN_T {t : Int → Int} {n gd : Int} {m : Nat} {Ts : Nat → zS} {ps : Nat → Int} (h : TGH t n gd m Ts ps) {k : Int} (h0 : 0 ≤ k) {sd : Int} {gi : Nat} {ge : Int} {T1 : zS} {q2 : Int} (g : TSG t n gd m Ts ps k.toNat sd gi ge T1 q2) {s1 s2 : zS} (o1 : (sd = 1 ∧ s1 170 8 = 0 ∧ s1 170 4 = q2) ∨ 0 < s1 170 8)
    (o2 : (s2 170 8 = 0 ∧ s1 170 8 = 0 ∧ tk t n (s1 170 4) 3 59 (s2 170 4) ∧ RDr s2 t n ∧ (k + 1 = 80 → ∃ v e : Int, tk t n (s2 170 4) 0 v e)) ∨ (0 < s2 170 8 ∧ s1 170 8 = 0 ∧ ¬ ∃ q : Int, tk t n (s1 170 4) 3 59 q ∧ (k + 1 = 80 → ∃ v e : Int, tk t n q 0 v e)) ∨ (0 < s2 170 8 ∧ 0 < s1 170 8)) (hz : s2 170 8 = 0) (hk : k.toNat ≤ m) : Ts (k.toNat + 1) = zup T1 0 0 (T1 0 0 + 1) := by
  obtain ⟨g1, g2, g3, g4⟩ := g
  rcases o2 with ⟨-, y2, y3, y4, y5⟩ | ⟨y1, -⟩ | ⟨y1, -⟩
  · rcases o1 with ⟨x1, x2, x3⟩ | x1
    · rw [x3] at y3
      have hlt : k.toNat < m := by
        by_cases q : k.toNat = m
        · exact absurd ⟨_, y3⟩ (g4 q x1)
        · omega
      exact (g2 hlt).2.2
    · omega
  · omega
  · omega
