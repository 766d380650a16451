/-! shortest ways: what the reference's three loops leave behind -/
def dd (d : Nat → Int) (x y : Int) : Int := d (8 * x + y).toNat
def eg (st : zS) (h x y : Int) : Prop := 0 < zad st x y ∧ ¬ hb h (zad st x y - 1) = 1
def wgt (st : zS) (x y : Int) : Int := st 176 (14 * st 170 13 + zad st x y - 1).toNat
def mn (d : Nat → Int) (k x y : Int) : Int := if dd d x k + dd d k y < dd d x y then dd d x k + dd d k y else dd d x y
def FWs (e : Int → Int → Prop) (wg : Int → Int → Int) (d : Nat → Int) (k : Int) : Prop :=
  (∀ a : Int, 0 ≤ a → a < 8 → dd d a a = 0) ∧
  (∀ a b : Int, 0 ≤ a → a < 8 → 0 ≤ b → b < 8 → 0 ≤ dd d a b ∧ dd d a b ≤ 100000000) ∧
  (∀ a c : Int, 0 ≤ a → a < 8 → 0 ≤ c → c < 8 → ¬ a = c → e a c → dd d a c ≤ wg a c) ∧
  (∀ a b : Int, 0 ≤ a → a < 8 → 0 ≤ b → b < 8 → ¬ a = b → dd d a b < 100000000 → ∃ c : Int, 0 ≤ c ∧ c < 8 ∧ ¬ a = c ∧ e a c ∧ wg a c + dd d c b ≤ dd d a b) ∧
  (∀ j : Int, 0 ≤ j → j < k → ∀ a b : Int, 0 ≤ a → a < 8 → 0 ≤ b → b < 8 → dd d a b ≤ dd d a j + dd d j b)
theorem mn_b (d : Nat → Int) (k x y : Int) : mn d k x y ≤ dd d x y ∧ mn d k x y ≤ dd d x k + dd d k y ∧ (mn d k x y = dd d x y ∨ mn d k x y = dd d x k + dd d k y) := by
  unfold mn
  split <;> omega
theorem FW_pass {e : Int → Int → Prop} {wg : Int → Int → Int} {d d' : Nat → Int} {k : Int} (h : FWs e wg d k) (h0 : 0 ≤ k) (h8 : k < 8) (hd : ∀ a b : Int, 0 ≤ a → a < 8 → 0 ≤ b → b < 8 → dd d' a b = mn d k a b) : FWs e wg d' (k + 1) := by
  obtain ⟨z, r, w, R, t⟩ := h
  have zk := z k h0 h8
  refine ⟨?_, ?_, ?_, ?_, ?_⟩
  · intro a a1 a2
    have m := mn_b d k a a
    rw [hd a a a1 a2 a1 a2]
    have z1 := z a a1 a2
    have r1 := r a k a1 a2 h0 h8
    have r2 := r k a h0 h8 a1 a2
    omega
  · intro a b a1 a2 b1 b2
    have m := mn_b d k a b
    rw [hd a b a1 a2 b1 b2]
    have r0 := r a b a1 a2 b1 b2
    have r1 := r a k a1 a2 h0 h8
    have r2 := r k b h0 h8 b1 b2
    omega
  · intro a c a1 a2 c1 c2 n1 n2
    have m := mn_b d k a c
    rw [hd a c a1 a2 c1 c2]
    have := w a c a1 a2 c1 c2 n1 n2
    omega
  · intro a b a1 a2 b1 b2 n1 n2
    have m := mn_b d k a b
    rw [hd a b a1 a2 b1 b2] at n2 ⊢
    have r0 := r a b a1 a2 b1 b2
    have r1 := r a k a1 a2 h0 h8
    have r2 := r k b h0 h8 b1 b2
    by_cases q : mn d k a b = dd d a b
    · obtain ⟨c, c1, c2, c3, c4, c5⟩ := R a b a1 a2 b1 b2 n1 (by omega)
      refine ⟨c, c1, c2, c3, c4, ?_⟩
      have m2 := mn_b d k c b
      rw [hd c b c1 c2 b1 b2]
      omega
    · have q2 : mn d k a b = dd d a k + dd d k b := by omega
      have ak : ¬ a = k := by
        intro q3
        subst q3
        omega
      obtain ⟨c, c1, c2, c3, c4, c5⟩ := R a k a1 a2 h0 h8 ak (by omega)
      refine ⟨c, c1, c2, c3, c4, ?_⟩
      have m2 := mn_b d k c b
      rw [hd c b c1 c2 b1 b2]
      omega
  · intro j j1 j2 a b a1 a2 b1 b2
    have j3 : j < 8 := by omega
    have m := mn_b d k a b
    have m1 := mn_b d k a j
    have m2 := mn_b d k j b
    rw [hd a b a1 a2 b1 b2, hd a j a1 a2 j1 j3, hd j b j1 j3 b1 b2]
    have r1 := r j k j1 j3 h0 h8
    have r2 := r k j h0 h8 j1 j3
    have r3 := r a k a1 a2 h0 h8
    have r4 := r k b h0 h8 b1 b2
    by_cases q : j = k
    · subst q
      omega
    · have t1 := t j j1 (by omega) a b a1 a2 b1 b2
      have t2 := t j j1 (by omega) a k a1 a2 h0 h8
      have t3 := t j j1 (by omega) k b h0 h8 b1 b2
      omega
/-- what is left at the end -/
theorem FW_end {e : Int → Int → Prop} {wg : Int → Int → Int} {d : Nat → Int} (h : FWs e wg d 8) {a b : Int} (a1 : 0 ≤ a) (a2 : a < 8) (b1 : 0 ≤ b) (b2 : b < 8) (n1 : ¬ a = b) (n2 : dd d a b < 100000000) : ∃ c : Int, 0 ≤ c ∧ c < 8 ∧ ¬ a = c ∧ e a c ∧ wg a c + dd d c b = dd d a b := by
  obtain ⟨z, r, w, R, t⟩ := h
  obtain ⟨c, c1, c2, c3, c4, c5⟩ := R a b a1 a2 b1 b2 n1 n2
  refine ⟨c, c1, c2, c3, c4, ?_⟩
  have t1 := t c c1 c2 a b a1 a2 b1 b2
  have w1 := w a c a1 a2 c1 c2 c3 c4
  omega
def FWb (d0 d : Nat → Int) (k a b : Int) : Prop := ∀ x y : Int, 0 ≤ x → x < 8 → 0 ≤ y → y < 8 → ((x < a ∨ x = a ∧ y < b) → dd d x y = mn d0 k x y) ∧ (¬ (x < a ∨ x = a ∧ y < b) → dd d x y = dd d0 x y)
theorem FWb_start (d0 : Nat → Int) (k : Int) : FWb d0 d0 k 0 0 := fun x y h1 h2 h3 h4 => ⟨fun q => by omega, fun _ => rfl⟩
theorem FWb_row {d0 d : Nat → Int} {k a b : Int} (h : FWb d0 d k a b) (hb : 8 ≤ b) : FWb d0 d k (a + 1) 0 := fun x y h1 h2 h3 h4 => ⟨fun q => (h x y h1 h2 h3 h4).1 (by omega), fun q => (h x y h1 h2 h3 h4).2 (by omega)⟩
theorem FWb_end {d0 d : Nat → Int} {k a b : Int} (h : FWb d0 d k a b) (ha : 8 ≤ a) : ∀ x y : Int, 0 ≤ x → x < 8 → 0 ≤ y → y < 8 → dd d x y = mn d0 k x y := fun x y h1 h2 h3 h4 => (h x y h1 h2 h3 h4).1 (by omega)
section FWB
variable {e : Int → Int → Prop} {wg : Int → Int → Int} {d0 d : Nat → Int} {k a b : Int}
/-- the row and the column of the pass stand -/
theorem FWb_rd (hs : FWs e wg d0 k) (h : FWb d0 d k a b) (k1 : 0 ≤ k) (k2 : k < 8) (a1 : 0 ≤ a) (a2 : a < 8) (b1 : 0 ≤ b) (b2 : b < 8) : dd d a k = dd d0 a k ∧ dd d k b = dd d0 k b ∧ dd d a b = dd d0 a b := by
  have zk := hs.1 k k1 k2
  have m1 := mn_b d0 k a k
  have m2 := mn_b d0 k k b
  have r1 := hs.2.1 a k a1 a2 k1 k2
  have r2 := hs.2.1 k b k1 k2 b1 b2
  have f1 := h a k a1 a2 k1 k2
  have f2 := h k b k1 k2 b1 b2
  have f3 := h a b a1 a2 b1 b2
  refine ⟨?_, ?_, f3.2 (by omega)⟩
  · by_cases q : k < b
    · rw [f1.1 (by omega)]; omega
    · exact f1.2 (by omega)
  · by_cases q : k < a
    · rw [f2.1 (by omega)]; omega
    · exact f2.2 (by omega)
theorem FWb_keep (hs : FWs e wg d0 k) (h : FWb d0 d k a b) (k1 : 0 ≤ k) (k2 : k < 8) (a1 : 0 ≤ a) (a2 : a < 8) (b1 : 0 ≤ b) (b2 : b < 8) (hn : dd d a b ≤ dd d a k + dd d k b) : FWb d0 d k a (b + 1) := by
  obtain ⟨e1, e2, e3⟩ := FWb_rd hs h k1 k2 a1 a2 b1 b2
  intro x y h1 h2 h3 h4
  refine ⟨fun q => ?_, fun q => (h x y h1 h2 h3 h4).2 (by omega)⟩
  by_cases q1 : x = a ∧ y = b
  · obtain ⟨rfl, rfl⟩ := q1
    unfold mn
    rw [if_neg (by omega)]
    exact e3
  · exact (h x y h1 h2 h3 h4).1 (by omega)
theorem FWb_set (hs : FWs e wg d0 k) (h : FWb d0 d k a b) (k1 : 0 ≤ k) (k2 : k < 8) (a1 : 0 ≤ a) (a2 : a < 8) (b1 : 0 ≤ b) (b2 : b < 8) (hn : dd d a k + dd d k b < dd d a b) {i : Nat} {z : Int} (hi : i = (8 * a + b).toNat) (hz : z = dd d a k + dd d k b) : FWb d0 (up1 d i z) k a (b + 1) := by
  obtain ⟨e1, e2, e3⟩ := FWb_rd hs h k1 k2 a1 a2 b1 b2
  subst hi
  intro x y h1 h2 h3 h4
  by_cases q1 : x = a ∧ y = b
  · obtain ⟨rfl, rfl⟩ := q1
    refine ⟨fun _ => ?_, fun q => by omega⟩
    show up1 d (8 * x + y).toNat z (8 * x + y).toNat = _
    rw [up1_e]
    unfold mn
    rw [if_pos (by omega)]
    omega
  · have q2 : ¬ (8 * x + y).toNat = (8 * a + b).toNat := by omega
    have q3 : dd (up1 d (8 * a + b).toNat z) x y = dd d x y := up1_n d z q2
    rw [q3]
    exact ⟨fun q => (h x y h1 h2 h3 h4).1 (by omega), fun q => (h x y h1 h2 h3 h4).2 (by omega)⟩
end FWB
/-- the first matrix -/
def FWi (e : Int → Int → Prop) (wg : Int → Int → Int) (d : Nat → Int) (a b : Int) : Prop := ∀ x y : Int, 0 ≤ x → x < 8 → 0 ≤ y → y < 8 → (x < a ∨ x = a ∧ y < b) → (x = y → dd d x y = 0) ∧ (¬ x = y → e x y → dd d x y = wg x y) ∧ (¬ x = y → ¬ e x y → dd d x y = 100000000)
theorem FWi_start (e : Int → Int → Prop) (wg : Int → Int → Int) (d : Nat → Int) : FWi e wg d 0 0 := fun x y h1 h2 h3 h4 q => by omega
theorem FWi_row {e : Int → Int → Prop} {wg : Int → Int → Int} {d : Nat → Int} {a b : Int} (h : FWi e wg d a b) (hb : 8 ≤ b) : FWi e wg d (a + 1) 0 := fun x y h1 h2 h3 h4 q => h x y h1 h2 h3 h4 (by omega)
theorem FWi_set {e : Int → Int → Prop} {wg : Int → Int → Int} {d : Nat → Int} {a b z : Int} {i : Nat} (h : FWi e wg d a b) (a1 : 0 ≤ a) (a2 : a < 8) (b1 : 0 ≤ b) (b2 : b < 8) (hi : i = (8 * a + b).toNat) (h1 : a = b → z = 0) (h2 : ¬ a = b → e a b → z = wg a b) (h3 : ¬ a = b → ¬ e a b → z = 100000000) : FWi e wg (up1 d i z) a (b + 1) := by
  subst hi
  intro x y q1 q2 q3 q4 q5
  by_cases q : x = a ∧ y = b
  · obtain ⟨rfl, rfl⟩ := q
    have : dd (up1 d (8 * x + y).toNat z) x y = z := up1_e _ _ _
    rw [this]
    exact ⟨h1, h2, h3⟩
  · have : dd (up1 d (8 * a + b).toNat z) x y = dd d x y := up1_n d z (show ¬ (8 * x + y).toNat = (8 * a + b).toNat by omega)
    rw [this]
    exact h x y q1 q2 q3 q4 (by omega)
theorem FWi_end {e : Int → Int → Prop} {wg : Int → Int → Int} {d : Nat → Int} {a b : Int} (h : FWi e wg d a b) (ha : 8 ≤ a) (hw : ∀ x y : Int, 0 ≤ wg x y ∧ wg x y ≤ 99) : FWs e wg d 0 := by
  refine ⟨fun a a1 a2 => (h a a a1 a2 a1 a2 (by omega)).1 rfl, fun a b a1 a2 b1 b2 => ?_, fun a c a1 a2 c1 c2 n1 n2 => ?_, fun a b a1 a2 b1 b2 n1 n2 => ?_, fun j j1 j2 => by omega⟩
  · have h1 := h a b a1 a2 b1 b2 (by omega)
    have h2 := hw a b
    by_cases q : a = b
    · rw [h1.1 q]; omega
    · by_cases q2 : e a b
      · rw [h1.2.1 q q2]; omega
      · rw [h1.2.2 q q2]; omega
  · rw [(h a c a1 a2 c1 c2 (by omega)).2.1 n1 n2]
    exact Int.le_refl _
  · have h1 := h a b a1 a2 b1 b2 (by omega)
    by_cases q2 : e a b
    · refine ⟨b, b1, b2, n1, q2, ?_⟩
      rw [(h b b b1 b2 b1 b2 (by omega)).1 rfl, h1.2.1 n1 q2]
      omega
    · rw [h1.2.2 n1 q2] at n2
      omega
