/-! fillings: a count that is not 0 has a way on -/
def npl (s : zS) : Int := s 172 (s 170 13).toNat
def FLr (s : zS) (i p : Int) : Prop := ¬ s 218 (8 * i + p).toNat = 0 → ∃ q : Int, 0 ≤ q ∧ q < npl s ∧ 0 < zad s p q ∧ ¬ s 218 (8 * (i + 1) + q).toNat = 0
def FLA (s : zS) (n a : Int) : Prop := ∀ i p : Int, a ≤ i → i < n - 1 → 0 ≤ p → p < npl s → FLr s i p
def FLb (s : zS) (n i p : Int) : Prop := i < n - 1 → ∀ c : Int, 0 ≤ c → c < p → FLr s i c
def FLw (s : zS) (n i p q ways : Int) : Prop := i < n - 1 → ¬ ways = 0 → ∃ c : Int, 0 ≤ c ∧ c < q ∧ 0 < zad s p c ∧ ¬ s 218 (8 * (i + 1) + c).toNat = 0
def FL0 (s : zS) (q ways : Int) : Prop := ¬ ways = 0 → ∃ c : Int, 0 ≤ c ∧ c < q ∧ ¬ s 218 c.toNat = 0
theorem FLr_up {s : zS} {i p i' p' v : Int} (h8 : npl s ≤ 8) (hi : 0 ≤ i) (hp : 0 ≤ p ∧ p < 8) (hp' : 0 ≤ p') (hne : i < i' ∨ (i = i' ∧ p' < p)) (h : FLr s i' p') : FLr (zup s 218 (8 * i + p).toNat v) i' p' := by
  intro hn
  change ¬ up1 (s 218) (8 * i + p).toNat v (8 * i' + p').toNat = 0 at hn
  rw [up1_n (s 218) v (show ¬ (8 * i' + p').toNat = (8 * i + p).toNat by omega)] at hn
  obtain ⟨q, q1, q2, q3, q4⟩ := h hn
  refine ⟨q, q1, q2, q3, ?_⟩
  show ¬ up1 (s 218) (8 * i + p).toNat v (8 * (i' + 1) + q).toNat = 0
  rw [up1_n (s 218) v (show ¬ (8 * (i' + 1) + q).toNat = (8 * i + p).toNat by omega)]
  exact q4
theorem FLA_up {s : zS} {n i p v : Int} (h8 : npl s ≤ 8) (hi : 0 ≤ i) (hp : 0 ≤ p ∧ p < 8) (h : FLA s n (i + 1)) : FLA (zup s 218 (8 * i + p).toNat v) n (i + 1) := fun i' p' a b c d => FLr_up h8 hi hp c (Or.inl (by omega)) (h i' p' a b c d)
theorem FLb_up {s : zS} {n i p q v ways : Int} (h8 : npl s ≤ 8) (hi : 0 ≤ i) (hp : 0 ≤ p ∧ p < 8) (hb : FLb s n i p) (hw : FLw s n i p q ways) (hq : q ≤ npl s) (hv : ¬ v = 0 → v = ways) : FLb (zup s 218 (8 * i + p).toNat v) n i (p + 1) := by
  intro hi' c h1 h2
  by_cases e : c = p
  · subst e
    intro hn
    change ¬ up1 (s 218) (8 * i + c).toNat v (8 * i + c).toNat = 0 at hn
    rw [up1_e] at hn
    obtain ⟨d, d1, d2, d3, d4⟩ := hw hi' (by rw [← hv hn]; exact hn)
    refine ⟨d, d1, by show d < npl s; omega, d3, ?_⟩
    show ¬ up1 (s 218) (8 * i + c).toNat v (8 * (i + 1) + d).toNat = 0
    rw [up1_n (s 218) v (show ¬ (8 * (i + 1) + d).toNat = (8 * i + c).toNat by omega)]
    exact d4
  · exact FLr_up h8 hi hp h1 (Or.inr ⟨rfl, by omega⟩) (hb hi' c h1 (by omega))
theorem FLA_dn {s : zS} {n i p : Int} (ha : FLA s n (i + 1)) (hb : FLb s n i p) (hp : npl s ≤ p) : FLA s n i := by
  intro i' p' a b c d
  by_cases e : i' = i
  · subst e
    exact hb b p' c (by omega)
  · exact ha i' p' (by omega) b c d
theorem FLA_u {s : zS} {n a v : Int} {i : Nat} (h : FLA s n a) : FLA (zup s 219 i v) n a := h
theorem FLsum {P : Int → Prop} {q ways x : Int} (h : ¬ ways = 0 → ∃ c : Int, 0 ≤ c ∧ c < q ∧ P c) (h0 : 0 ≤ q) (hx : ¬ x = 0 → P q) (hn : ¬ zx (ways + x) = 0) : ∃ c : Int, 0 ≤ c ∧ c < q + 1 ∧ P c := by
  by_cases e : ways = 0
  · have z : ¬ x = 0 := fun z => hn (by rw [e, z]; decide)
    exact ⟨q, h0, by omega, hx z⟩
  · obtain ⟨c, a, b, d⟩ := h e
    exact ⟨c, a, by omega, d⟩
theorem FLw_s {s : zS} {n i p q ways x : Int} (h : FLw s n i p q ways) (h0 : 0 ≤ q) (hx : ¬ x = 0 → 0 < zad s p q ∧ ¬ s 218 (8 * (i + 1) + q).toNat = 0) : FLw s n i p (q + 1) (zx (ways + x)) := fun hi hn => FLsum (P := fun c => 0 < zad s p c ∧ ¬ s 218 (8 * (i + 1) + c).toNat = 0) (h hi) h0 hx hn
theorem FL0_s {s : zS} {q ways : Int} (h : FL0 s q ways) (h0 : 0 ≤ q) : FL0 s (q + 1) (zx (ways + s 218 q.toNat)) := fun hn => FLsum (P := fun c => ¬ s 218 c.toNat = 0) h h0 (fun z => z) hn
theorem FL0_m {s : zS} {q q' ways : Int} (h : FL0 s q ways) (hq : q ≤ q') : FL0 s q' ways := fun hn => by
  obtain ⟨c, a, b, d⟩ := h hn
  exact ⟨c, a, by omega, d⟩
def FLt (s : zS) (i was a : Int) : Prop := ∃ c : Int, a ≤ c ∧ c < npl s ∧ ¬ s 218 (8 * i + c).toNat = 0 ∧ (¬ was = -1 → 0 < zad s was c)
def FLs (s : zS) (i was : Int) : Prop := (i = 0 ∧ was = -1) ∨ (0 < i ∧ 0 ≤ was ∧ was < npl s ∧ ¬ s 218 (8 * (i - 1) + was).toNat = 0)
theorem FLt_b {s : zS} {i was a : Int} (h : FLt s i was a) : a < s 172 (s 170 13).toNat := by
  obtain ⟨c, h1, h2, -⟩ := h
  have h2 : c < s 172 (s 170 13).toNat := h2
  omega
theorem FLs_b {s : zS} {i was : Int} (h : FLs s i was) : was = -1 ∨ (0 ≤ was ∧ was < s 172 (s 170 13).toNat) := by
  rcases h with h | h
  · exact Or.inl h.2
  · exact Or.inr ⟨h.2.1, h.2.2.1⟩
theorem FLt_s {s : zS} {i was a : Int} (h : FLt s i was a) (hn : s 218 (8 * i + a).toNat = 0 ∨ (¬ was = -1 ∧ zad s was a = 0)) : FLt s i was (a + 1) := by
  obtain ⟨c, h1, h2, h3, h4⟩ := h
  refine ⟨c, ?_, h2, h3, h4⟩
  have e : ¬ c = a := by
    intro e
    subst e
    rcases hn with q | q
    · exact h3 q
    · have := h4 q.1
      omega
  omega
theorem FLt_0 {s : zS} {n i was : Int} (ha : FLA s n 0) (h0 : ∃ c : Int, 0 ≤ c ∧ c < npl s ∧ ¬ s 218 c.toNat = 0) (hs : FLs s i was) (hi : i < n) : FLt s i was 0 := by
  rcases hs with ⟨q1, q2⟩ | ⟨q1, q2, q3, q4⟩
  · obtain ⟨c, c1, c2, c3⟩ := h0
    refine ⟨c, c1, c2, ?_, fun z => absurd q2 z⟩
    rw [show 8 * i + c = c by omega]
    exact c3
  · obtain ⟨c, c1, c2, c3, c4⟩ := ha (i - 1) was (by omega) (by omega) q2 q3 q4
    refine ⟨c, c1, c2, ?_, fun _ => c3⟩
    rw [show 8 * (i - 1 + 1) + c = 8 * i + c by omega] at c4
    exact c4
