/-! the fillings of a half told -/
def flS (f : Nat → Int) : Nat → Int
  | 0 => 0
  | n + 1 => flS f n + f n
theorem flS_e {f g : Nat → Int} : ∀ {n : Nat}, (∀ i : Nat, i < n → f i = g i) → flS f n = flS g n := by
  intro n
  induction n with
  | zero => intro _; rfl
  | succ n ih =>
    intro h
    show flS f n + f n = flS g n + g n
    rw [ih (fun i hi => h i (by omega)), h n (by omega)]
theorem flS_b {f : Nat → Int} {b : Int} : ∀ {n : Nat}, (∀ i : Nat, i < n → 0 ≤ f i ∧ f i ≤ b) → 0 ≤ flS f n ∧ flS f n ≤ (n : Int) * b := by
  intro n
  induction n with
  | zero =>
    intro _
    rw [show ((0 : Nat) : Int) * b = 0 from Int.zero_mul b]
    exact ⟨Int.le_refl 0, Int.le_refl 0⟩
  | succ n ih =>
    intro h
    have z := ih (fun i hi => h i (by omega))
    have y := h n (by omega)
    have e : ((n + 1 : Nat) : Int) * b = (n : Int) * b + b := by
      rw [show ((n + 1 : Nat) : Int) = (n : Int) + 1 from rfl, Int.add_mul, Int.one_mul]
    show 0 ≤ flS f n + f n ∧ flS f n + f n ≤ _
    rw [e]
    generalize (n : Int) * b = x at z ⊢
    omega
theorem flS_b8 {f : Nat → Int} {b : Int} {n : Nat} (hn : n ≤ 8) (hb : 0 ≤ b) (h : ∀ i : Nat, i < n → 0 ≤ f i ∧ f i ≤ b) : 0 ≤ flS f n ∧ flS f n ≤ 8 * b := by
  have z := flS_b h
  have y : (n : Int) * b ≤ 8 * b := Int.mul_le_mul_of_nonneg_right (show (n : Int) ≤ 8 by omega) hb
  exact ⟨z.1, Int.le_trans z.2 y⟩
theorem flS_0 {f : Nat → Int} : ∀ {n : Nat}, (∀ i : Nat, i < n → f i = 0) → flS f n = 0 := by
  intro n
  induction n with
  | zero => intro _; rfl
  | succ n ih =>
    intro h
    show flS f n + f n = 0
    rw [ih (fun i hi => h i (by omega)), h n (by omega)]
    rfl
theorem flS_p {f : Nat → Int} : ∀ {n : Nat}, (∀ i : Nat, i < n → 0 ≤ f i) → 0 < flS f n → ∃ i : Nat, i < n ∧ 0 < f i := by
  intro n
  induction n with
  | zero => intro _ h; exact absurd h (Int.lt_irrefl 0)
  | succ n ih =>
    intro h k
    by_cases q : 0 < f n
    · exact ⟨n, by omega, q⟩
    · have z := h n (by omega)
      have k2 : 0 < flS f n + f n := k
      obtain ⟨i, i1, i2⟩ := ih (fun i hi => h i (by omega)) (by omega)
      exact ⟨i, by omega, i2⟩
/-- eights -/
def pe (k : Nat) : Int := ((8 ^ k : Nat) : Int)
theorem pe_s (k : Nat) : pe (k + 1) = 8 * pe k := by
  unfold pe
  rw [Nat.pow_succ]
  generalize (8 ^ k : Nat) = x
  omega
theorem pe_0 : pe 0 = 1 := rfl
theorem pe_p : ∀ k : Nat, 0 < pe k := by
  intro k
  induction k with
  | zero => rw [pe_0]; decide
  | succ k ih => rw [pe_s]; omega
theorem pe_le : ∀ {k m : Nat}, k ≤ m → pe k ≤ pe m := by
  intro k m
  induction m with
  | zero => intro h; rw [show k = 0 by omega]; exact Int.le_refl _
  | succ m ih =>
    intro h
    by_cases q : k ≤ m
    · have z := ih q
      have y := pe_p m
      rw [pe_s]
      omega
    · rw [show k = m + 1 by omega]
      exact Int.le_refl _
theorem pe_add (a : Nat) : ∀ b : Nat, pe a * pe b = pe (a + b) := by
  intro b
  induction b with
  | zero => rw [pe_0, Int.mul_one, Nat.add_zero]
  | succ b ih => rw [pe_s, show a + (b + 1) = (a + b) + 1 by omega, pe_s, ← ih, Int.mul_left_comm]
theorem pe_19 : pe 19 = 144115188075855872 := by
  unfold pe
  first | decide | rfl
/-- the places beside one -/
def flb (T : zS) (f : Nat → Int) (p : Nat) : Int := flS (fun q => if 0 ≤ lnk T (p : Int) (q : Int) then f q else 0) (T 0 1).toNat
theorem flb_e {T : zS} {f g : Nat → Int} {p : Nat} (h : ∀ q : Nat, q < (T 0 1).toNat → f q = g q) : flb T f p = flb T g p := by
  refine flS_e (fun i hi => ?_)
  show (if 0 ≤ lnk T (p : Int) (i : Int) then f i else 0) = if 0 ≤ lnk T (p : Int) (i : Int) then g i else 0
  rw [h i hi]
theorem flb_b {T : zS} (hP : (T 0 1).toNat ≤ 8) {f : Nat → Int} {b : Int} (hb : 0 ≤ b) (p : Nat) (h : ∀ q : Nat, q < (T 0 1).toNat → 0 ≤ f q ∧ f q ≤ b) : 0 ≤ flb T f p ∧ flb T f p ≤ 8 * b := by
  refine flS_b8 hP hb (fun i hi => ?_)
  have z := h i hi
  show 0 ≤ (if 0 ≤ lnk T (p : Int) (i : Int) then f i else 0) ∧ (if 0 ≤ lnk T (p : Int) (i : Int) then f i else 0) ≤ b
  split
  · exact z
  · exact ⟨Int.le_refl 0, hb⟩
/-- how many routes lead to a place at a step; how many lead on from there -/
def flU (T : zS) (o : Nat → Nat → Int) : Nat → Nat → Int
  | 0, p => if o 0 p = 1 then 1 else 0
  | k + 1, p => if o (k + 1) p = 1 then flb T (flU T o k) p else 0
def flD (T : zS) (o : Nat → Nat → Int) (m : Nat) : Nat → Nat → Int
  | 0, p => if o m p = 1 then 1 else 0
  | d + 1, p => if o (m - (d + 1)) p = 1 then flb T (flD T o m d) p else 0
theorem flU_b {T : zS} (hP : (T 0 1).toNat ≤ 8) (o : Nat → Nat → Int) : ∀ k p : Nat, 0 ≤ flU T o k p ∧ flU T o k p ≤ pe k := by
  intro k
  induction k with
  | zero =>
    intro p
    rw [pe_0]
    show 0 ≤ (if o 0 p = 1 then (1 : Int) else 0) ∧ (if o 0 p = 1 then (1 : Int) else 0) ≤ 1
    split <;> decide
  | succ k ih =>
    intro p
    have y := pe_p k
    rw [pe_s]
    show 0 ≤ (if o (k + 1) p = 1 then flb T (flU T o k) p else 0) ∧ (if o (k + 1) p = 1 then flb T (flU T o k) p else 0) ≤ 8 * pe k
    split
    · exact flb_b hP (by omega) p (fun q _ => ih q)
    · omega
theorem flD_b {T : zS} (hP : (T 0 1).toNat ≤ 8) (o : Nat → Nat → Int) (m : Nat) : ∀ d p : Nat, 0 ≤ flD T o m d p ∧ flD T o m d p ≤ pe d := by
  intro d
  induction d with
  | zero =>
    intro p
    rw [pe_0]
    show 0 ≤ (if o m p = 1 then (1 : Int) else 0) ∧ (if o m p = 1 then (1 : Int) else 0) ≤ 1
    split <;> decide
  | succ d ih =>
    intro p
    have y := pe_p d
    rw [pe_s]
    show 0 ≤ (if o (m - (d + 1)) p = 1 then flb T (flD T o m d) p else 0) ∧ (if o (m - (d + 1)) p = 1 then flb T (flD T o m d) p else 0) ≤ 8 * pe d
    split
    · exact flb_b hP (by omega) p (fun q _ => ih q)
    · omega
/-- as numbers: at most 8 to the 19 -/
theorem flU_c {T : zS} (hP : (T 0 1).toNat ≤ 8) (o : Nat → Nat → Int) {k : Nat} (hk : k ≤ 19) (p : Nat) : 0 ≤ flU T o k p ∧ flU T o k p ≤ 144115188075855872 := by
  have z := flU_b hP o k p
  have y := pe_le hk
  rw [pe_19] at y
  omega
theorem flD_c {T : zS} (hP : (T 0 1).toNat ≤ 8) (o : Nat → Nat → Int) {m d : Nat} (hk : d ≤ 19) (p : Nat) : 0 ≤ flD T o m d p ∧ flD T o m d p ≤ 144115188075855872 := by
  have z := flD_b hP o m d p
  have y := pe_le hk
  rw [pe_19] at y
  omega
theorem flUD_c {T : zS} (hP : (T 0 1).toNat ≤ 8) (o : Nat → Nat → Int) {m k : Nat} (hk : k ≤ m) (hm : m ≤ 19) (p : Nat) : 0 ≤ flU T o k p * flD T o m (m - k) p ∧ flU T o k p * flD T o m (m - k) p ≤ 144115188075855872 := by
  have z := flU_b hP o k p
  have y := flD_b hP o m (m - k) p
  have e := pe_add k (m - k)
  rw [show k + (m - k) = m by omega] at e
  have x := pe_le hm
  rw [pe_19] at x
  refine ⟨Int.mul_nonneg z.1 y.1, ?_⟩
  have w : flU T o k p * flD T o m (m - k) p ≤ pe k * pe (m - k) := Int.mul_le_mul z.2 y.2 y.1 (Int.le_of_lt (pe_p k))
  rw [e] at w
  exact Int.le_trans w x
def flT (T : zS) (o : Nat → Nat → Int) (m : Nat) : Int := flS (flD T o m m) (T 0 1).toNat
theorem flT_c {T : zS} (hP : (T 0 1).toNat ≤ 8) (o : Nat → Nat → Int) {m : Nat} (hm : m ≤ 19) : 0 ≤ flT T o m ∧ flT T o m ≤ 1152921504606846976 := by
  have z := flS_b8 hP (show (0 : Int) ≤ 144115188075855872 by decide) (fun i _ => flD_c hP o (m := m) hm i)
  exact ⟨z.1, Int.le_trans z.2 (by decide)⟩
theorem flT_0 {T : zS} {o : Nat → Nat → Int} {m : Nat} (h : ∀ p : Nat, ¬ o 0 p = 1) : flT T o m = 0 := by
  refine flS_0 (fun i _ => ?_)
  cases m with
  | zero => exact if_neg (h i)
  | succ d =>
    show (if o (d + 1 - (d + 1)) i = 1 then flb T (flD T o (d + 1) d) i else 0) = 0
    rw [Nat.sub_self, if_neg (h i)]
/-- a step in a place meets the rows, and no row is beyond -/
def flP (R S : Nat → Int) (c n : Int) (k p : Nat) : Prop := (∀ i : Nat, (i : Int) < c → R i < n → R i = (k : Int) → S i = (p : Int)) ∧ (k = 0 → ∀ i : Nat, (i : Int) < c → R i < n)
noncomputable def flo (R S : Nat → Int) (c n : Int) (k p : Nat) : Int := @ite Int (flP R S c n k p) (Classical.propDecidable _) 1 0
theorem flo_1 {R S : Nat → Int} {c n : Int} {k p : Nat} : flo R S c n k p = 1 ↔ flP R S c n k p := by
  unfold flo
  by_cases q : flP R S c n k p
  · rw [if_pos q]; exact ⟨fun _ => q, fun _ => rfl⟩
  · rw [if_neg q]; exact ⟨fun z => absurd z (by decide), fun z => absurd z q⟩
theorem flP_e {R S R' S' : Nat → Int} {c n : Int} (h : ∀ i : Nat, (i : Int) < c → R i = R' i ∧ S i = S' i) {k p : Nat} (z : flP R S c n k p) : flP R' S' c n k p := by
  refine ⟨fun i i1 i2 i3 => ?_, fun q i i1 => ?_⟩
  · rw [← (h i i1).2]
    exact z.1 i i1 (by rw [(h i i1).1]; exact i2) (by rw [(h i i1).1]; exact i3)
  · rw [← (h i i1).1]
    exact z.2 q i i1
theorem flo_e {R S R' S' : Nat → Int} {c n : Int} (h : ∀ i : Nat, (i : Int) < c → R i = R' i ∧ S i = S' i) : flo R S c n = flo R' S' c n := by
  refine funext (fun k => funext (fun p => ?_))
  have q : flP R S c n k p ↔ flP R' S' c n k p := ⟨fun z => flP_e h z, fun z => flP_e (fun i i1 => ⟨(h i i1).1.symm, (h i i1).2.symm⟩) z⟩
  unfold flo
  by_cases y : flP R S c n k p
  · rw [if_pos y, if_pos (q.mp y)]
  · rw [if_neg y, if_neg (fun z => y (q.mpr z))]
theorem flo_far {T : zS} {R S : Nat → Int} {c n : Int} {i : Nat} {m : Nat} (i1 : (i : Int) < c) (i2 : n ≤ R i) : flT T (flo R S c n) m = 0 := by
  refine flT_0 (fun p z => ?_)
  have y := (flo_1.mp z).2 rfl i i1
  omega
theorem flo_in {R S : Nat → Int} {c n : Int} (h : ∀ i : Nat, (i : Int) < c → R i < n) {k p : Nat} : flo R S c n k p = 1 ↔ ∀ i : Nat, (i : Int) < c → R i = (k : Int) → S i = (p : Int) := by
  rw [flo_1]
  exact ⟨fun z i i1 i2 => z.1 i i1 (h i i1) i2, fun z => ⟨fun i i1 _ i3 => z i i1 i3, fun _ => h⟩⟩
/-- the least place that leads on -/
def FN (T : zS) (f : Nat → Int) (a r : Int) : Prop := (0 ≤ r ∧ r < T 0 1) ∧ ((a = -1 ∨ 0 ≤ lnk T a r) ∧ 0 < f r.toNat) ∧ ∀ q : Int, 0 ≤ q → q < r → ¬ ((a = -1 ∨ 0 ≤ lnk T a q) ∧ 0 < f q.toNat)
theorem FN_u {T : zS} {f : Nat → Int} {a r r' : Int} (h : FN T f a r) (k : FN T f a r') : r = r' := by
  rcases Int.lt_trichotomy r r' with q | q | q
  · exact absurd h.2.1 (k.2.2 r h.1.1 q)
  · exact q
  · exact absurd k.2.1 (h.2.2 r' k.1.1 q)
theorem FN_e {T : zS} {f g : Nat → Int} {a r : Int} (e : ∀ q : Nat, (q : Int) < T 0 1 → f q = g q) (h : FN T f a r) : FN T g a r := by
  have e2 : ∀ q : Int, 0 ≤ q → q < T 0 1 → f q.toNat = g q.toNat := fun q q1 q2 => e q.toNat (by omega)
  refine ⟨h.1, ⟨h.2.1.1, ?_⟩, fun q q1 q2 => ?_⟩
  · rw [← e2 r h.1.1 h.1.2]; exact h.2.1.2
  · rw [← e2 q q1 (by have := h.1.2; omega)]; exact h.2.2 q q1 q2
noncomputable def fln (T : zS) (f : Nat → Int) (a : Int) : Int := Classical.epsilon (FN T f a)
theorem fln_eq {T : zS} {f : Nat → Int} {a r : Int} (h : FN T f a r) : r = fln T f a := FN_u h (Classical.epsilon_spec (p := FN T f a) ⟨r, h⟩)
/-- the first filling's places, step by step -/
noncomputable def flF (T : zS) (o : Nat → Nat → Int) (m : Nat) : Nat → Int
  | 0 => fln T (flD T o m m) (-1)
  | k + 1 => fln T (flD T o m (m - (k + 1))) (flF T o m k)
/-- at step k: what it found ahead of it -/
noncomputable def flG (T : zS) (o : Nat → Nat → Int) (m : Nat) : Nat → Int
  | 0 => -1
  | k + 1 => flF T o m k
theorem flG_s {T : zS} {o : Nat → Nat → Int} {m k : Nat} {r : Int} (h : FN T (flD T o m (m - k)) (flG T o m k) r) : r = flG T o m (k + 1) := by
  cases k with
  | zero => exact fln_eq h
  | succ k => exact fln_eq h
/-- a route is there: it goes on from step to step -/
def FX (T : zS) (o : Nat → Nat → Int) (m k : Nat) : Prop := (k = 0 ∧ flG T o m k = -1) ∨ (0 < k ∧ (0 ≤ flG T o m k ∧ flG T o m k < T 0 1) ∧ 0 < flD T o m (m - (k - 1)) (flG T o m k).toNat)
theorem FX_ex {T : zS} (hP : (T 0 1).toNat ≤ 8) {o : Nat → Nat → Int} {m k : Nat} (ht : 0 < flT T o m) (hk : k ≤ m) (h : FX T o m k) : ∃ q : Int, (0 ≤ q ∧ q < T 0 1) ∧ ((flG T o m k = -1 ∨ 0 ≤ lnk T (flG T o m k) q) ∧ 0 < flD T o m (m - k) q.toNat) := by
  rcases h with ⟨h1, h2⟩ | ⟨h1, h2, h3⟩
  · subst h1
    obtain ⟨i, i1, i2⟩ := flS_p (fun i _ => (flD_b hP o m m i).1) ht
    exact ⟨(i : Int), ⟨by omega, by omega⟩, Or.inl h2, i2⟩
  · rw [show m - (k - 1) = (m - k) + 1 by omega] at h3
    have e : flD T o m ((m - k) + 1) (flG T o m k).toNat = if o (m - ((m - k) + 1)) (flG T o m k).toNat = 1 then flb T (flD T o m (m - k)) (flG T o m k).toNat else 0 := rfl
    rw [e] at h3
    by_cases q : o (m - ((m - k) + 1)) (flG T o m k).toNat = 1
    · rw [if_pos q] at h3
      obtain ⟨i, i1, i2⟩ := flS_p (fun i _ => by
        show 0 ≤ (if 0 ≤ lnk T ((flG T o m k).toNat : Int) (i : Int) then flD T o m (m - k) i else 0)
        split
        · exact (flD_b hP o m (m - k) i).1
        · exact Int.le_refl 0) h3
      have i3 : 0 < (if 0 ≤ lnk T ((flG T o m k).toNat : Int) (i : Int) then flD T o m (m - k) i else 0) := i2
      rw [show (((flG T o m k).toNat : Nat) : Int) = flG T o m k by omega] at i3
      by_cases y : 0 ≤ lnk T (flG T o m k) (i : Int)
      · rw [if_pos y] at i3
        exact ⟨(i : Int), ⟨by omega, by omega⟩, Or.inr y, i3⟩
      · rw [if_neg y] at i3
        omega
    · rw [if_neg q] at h3
      omega
theorem FX_0 {T : zS} {o : Nat → Nat → Int} {m : Nat} : FX T o m 0 := Or.inl ⟨rfl, rfl⟩
theorem FX_s {T : zS} {o : Nat → Nat → Int} {m k : Nat} {r : Int} (h : FN T (flD T o m (m - k)) (flG T o m k) r) : FX T o m (k + 1) := by
  have e := flG_s h
  refine Or.inr ⟨by omega, ?_, ?_⟩
  · rw [← e]; exact h.1
  · rw [← e, show k + 1 - 1 = k by omega]; exact h.2.1.2
/-- what is asked for -/
def flX (f : Nat → Int) : Nat → Int
  | 0 => 0
  | n + 1 => if flX f n < f n then f n else flX f n
theorem flX_e {f g : Nat → Int} : ∀ {n : Nat}, (∀ i : Nat, i < n → f i = g i) → flX f n = flX g n := by
  intro n
  induction n with
  | zero => intro _; rfl
  | succ n ih =>
    intro h
    show (if flX f n < f n then f n else flX f n) = if flX g n < g n then g n else flX g n
    rw [ih (fun i hi => h i (by omega)), h n (by omega)]
theorem flX_b {f : Nat → Int} {b : Int} (hb : 0 ≤ b) : ∀ {n : Nat}, (∀ i : Nat, i < n → f i ≤ b) → 0 ≤ flX f n ∧ flX f n ≤ b := by
  intro n
  induction n with
  | zero => intro _; exact ⟨Int.le_refl 0, hb⟩
  | succ n ih =>
    intro h
    have z := ih (fun i hi => h i (by omega))
    have y := h n (by omega)
    show 0 ≤ (if flX f n < f n then f n else flX f n) ∧ (if flX f n < f n then f n else flX f n) ≤ b
    split <;> omega
def flM (T : zS) (o : Nat → Nat → Int) (m k : Nat) : Int := flX (fun p => flU T o k p * flD T o m (m - k) p) (T 0 1).toNat
theorem flM_c {T : zS} (hP : (T 0 1).toNat ≤ 8) (o : Nat → Nat → Int) {m k : Nat} (hk : k ≤ m) (hm : m ≤ 19) : 0 ≤ flM T o m k ∧ flM T o m k ≤ 144115188075855872 := flX_b (by decide) (fun i _ => (flUD_c hP o hk hm i).2)
def flA (g : Nat → Int) : Nat → Nat
  | 0 => 0
  | n + 1 => if g (n + 1) < g (flA g n) then n + 1 else flA g n
theorem flA_b (g : Nat → Int) : ∀ n : Nat, flA g n ≤ n := by
  intro n
  induction n with
  | zero => exact Nat.le_refl 0
  | succ n ih =>
    show (if g (n + 1) < g (flA g n) then n + 1 else flA g n) ≤ n + 1
    split <;> omega
/-- where the asking stands behind k steps -/
def AK (g : Nat → Int) (k : Int) (a l : Int) : Prop := (k = 0 ∧ a = -1) ∨ (1 ≤ k ∧ a = ((flA g (k - 1).toNat : Nat) : Int) ∧ l = g (flA g (k - 1).toNat))
theorem AK_0 (g : Nat → Int) (l : Int) : AK g 0 (-1) l := Or.inl ⟨rfl, rfl⟩
theorem AK_new {g : Nat → Int} {k a l x : Int} (h : AK g k a l) (hk : 0 ≤ k) (hx : x = g k.toNat) (c : a = -1 ∨ x < l) : AK g (k + 1) k x := by
  rcases h with ⟨h1, h2⟩ | ⟨h1, h2, h3⟩
  · subst h1
    refine Or.inr ⟨by decide, rfl, ?_⟩
    rw [hx]
    rfl
  · have e : flA g (k + 1 - 1 : Int).toNat = k.toNat := by
      rw [show (k + 1 - 1 : Int).toNat = (k - 1).toNat + 1 by omega]
      show (if g ((k - 1).toNat + 1) < g (flA g (k - 1).toNat) then (k - 1).toNat + 1 else flA g (k - 1).toNat) = k.toNat
      rw [if_pos (by rw [show (k - 1).toNat + 1 = k.toNat by omega, ← hx, ← h3]; omega)]
      omega
    refine Or.inr ⟨by omega, by rw [e]; omega, by rw [e]; exact hx⟩
theorem AK_old {g : Nat → Int} {k a l x : Int} (h : AK g k a l) (hx : x = g k.toNat) (c : ¬ a = -1 ∧ ¬ x < l) : AK g (k + 1) a l := by
  rcases h with ⟨h1, h2⟩ | ⟨h1, h2, h3⟩
  · exact absurd h2 c.1
  · have e : flA g (k + 1 - 1 : Int).toNat = flA g (k - 1).toNat := by
      rw [show (k + 1 - 1 : Int).toNat = (k - 1).toNat + 1 by omega]
      show (if g ((k - 1).toNat + 1) < g (flA g (k - 1).toNat) then (k - 1).toNat + 1 else flA g (k - 1).toNat) = _
      rw [if_neg (by rw [show (k - 1).toNat + 1 = k.toNat by omega, ← hx, ← h3]; exact c.2)]
    refine Or.inr ⟨by omega, by rw [e]; exact h2, by rw [e]; exact h3⟩
/-- the three answers -/
def cp9 (x : Int) : Int := if 999999999 < x then 999999999 else x
noncomputable def fF (T : zS) (R S : Nat → Int) (c n : Int) : Int := if 1 ≤ n ∧ n ≤ 20 then cp9 (flT T (flo R S c n) (n - 1).toNat) else -1
noncomputable def fG (T : zS) (R S : Nat → Int) (c n k : Int) : Int := if (1 ≤ n ∧ n ≤ 20) ∧ (0 ≤ k ∧ k < n) ∧ ¬ flT T (flo R S c n) (n - 1).toNat = 0 then flG T (flo R S c n) (n - 1).toNat (k + 1).toNat else -1
noncomputable def fA (T : zS) (R S : Nat → Int) (c n x : Int) : Int := if (1 ≤ n ∧ n ≤ 20) ∧ (0 ≤ x ∧ x ≤ 1) ∧ ¬ flT T (flo R S c n) (n - 1).toNat = 0 then (if x = 0 then ((flA (flM T (flo R S c n) (n - 1).toNat) (n - 1).toNat : Nat) : Int) else cp9 (flM T (flo R S c n) (n - 1).toNat (flA (flM T (flo R S c n) (n - 1).toNat) (n - 1).toNat))) else -1
/-! the bits of what may be -/
theorem hb_t {a p : Int} (a0 : 0 ≤ a) (a1 : a < 2147483648) (p0 : 0 ≤ p) (p1 : p < 32) : hb a p = 1 ↔ a.toNat.testBit p.toNat = true := by
  have hz : zpw (p % 32).toNat = ((2 ^ p.toNat : Nat) : Int) := by
    rw [show (p % 32).toNat = p.toNat by omega]
    rfl
  have hq := hb_q a p
  have e : Nat.land (zi (a / zpw (p % 32).toNat)) (zi 1) = zi (a / zpw (p % 32).toNat) % 2 := Nat.and_two_pow_sub_one_eq_mod (zi (a / zpw (p % 32).toNat)) 1
  have d : a / zpw (p % 32).toNat = ((a.toNat / 2 ^ p.toNat : Nat) : Int) := by
    rw [hz]
    have y : a = (a.toNat : Int) := by omega
    rw [y, ← Int.natCast_ediv]
    rfl
  have l : a.toNat / 2 ^ p.toNat ≤ a.toNat := Nat.div_le_self _ _
  have z : zi (a / zpw (p % 32).toNat) = a.toNat / 2 ^ p.toNat := by
    rw [d]
    unfold zi
    generalize a.toNat / 2 ^ p.toNat = x at l ⊢
    omega
  rw [e, z] at hq
  have w : zd (a.toNat / 2 ^ p.toNat % 2) = ((a.toNat / 2 ^ p.toNat % 2 : Nat) : Int) := by
    unfold zd
    rw [zblt, decide_eq_true (show a.toNat / 2 ^ p.toNat % 2 < 2147483648 by omega)]
    rfl
  rw [w] at hq
  rw [← hq, Nat.testBit_eq_decide_div_mod_eq, decide_eq_true_iff]
  omega
theorem zsh {s : Int} (s0 : 0 ≤ s) (s1 : s ≤ 8) : zd ((zi 1 * 2 ^ (zi s % 32)) % 4294967296) = ((2 ^ s.toNat : Nat) : Int) := by
  have h : s = 0 ∨ s = 1 ∨ s = 2 ∨ s = 3 ∨ s = 4 ∨ s = 5 ∨ s = 6 ∨ s = 7 ∨ s = 8 := by omega
  rcases h with h | h | h | h | h | h | h | h | h <;> (subst h; decide)
theorem pw256 {s : Int} (s0 : 0 ≤ s) (s1 : s ≤ 8) : 1 ≤ 2 ^ s.toNat ∧ 2 ^ s.toNat ≤ 256 := by
  have h : s = 0 ∨ s = 1 ∨ s = 2 ∨ s = 3 ∨ s = 4 ∨ s = 5 ∨ s = 6 ∨ s = 7 ∨ s = 8 := by omega
  rcases h with h | h | h | h | h | h | h | h | h <;> (subst h; decide)
theorem zland8 {a b : Int} (a0 : 0 ≤ a) (a1 : a ≤ 255) (b0 : 0 ≤ b) (b1 : b ≤ 256) : zd (Nat.land (zi a) (zi b)) = ((a.toNat &&& b.toNat : Nat) : Int) ∧ (a.toNat &&& b.toNat) ≤ 255 := by
  have za : zi a = a.toNat := by unfold zi; omega
  have zb : zi b = b.toNat := by unfold zi; omega
  have l : a.toNat &&& b.toNat ≤ a.toNat := Nat.and_le_left
  refine ⟨?_, by omega⟩
  rw [za, zb]
  show zd (a.toNat &&& b.toNat) = _
  unfold zd
  rw [zblt, decide_eq_true (show a.toNat &&& b.toNat < 2147483648 by omega)]
  rfl
theorem hb_and {a s p : Int} (a0 : 0 ≤ a) (a1 : a ≤ 255) (s0 : 0 ≤ s) (s1 : s < 8) (p0 : 0 ≤ p) (p1 : p < 8) : (hb (zd (Nat.land (zi a) (zi (zd ((zi 1 * 2 ^ (zi s % 32)) % 4294967296))))) p = 1 ↔ hb a p = 1 ∧ p = s) ∧ 0 ≤ zd (Nat.land (zi a) (zi (zd ((zi 1 * 2 ^ (zi s % 32)) % 4294967296)))) ∧ zd (Nat.land (zi a) (zi (zd ((zi 1 * 2 ^ (zi s % 32)) % 4294967296)))) ≤ 255 := by
  rw [zsh s0 (by omega)]
  have b := pw256 s0 (by omega)
  obtain ⟨e, f⟩ := zland8 a0 a1 (show (0 : Int) ≤ ((2 ^ s.toNat : Nat) : Int) by omega) (by omega)
  rw [e]
  refine ⟨?_, by omega, by omega⟩
  rw [hb_t (by omega) (by omega) p0 (by omega), hb_t a0 (by omega) p0 (by omega)]
  rw [Int.toNat_natCast, Int.toNat_natCast, Nat.testBit_and, Nat.testBit_two_pow, Bool.and_eq_true, decide_eq_true_iff]
  constructor
  · rintro ⟨q1, q2⟩
    exact ⟨q1, by omega⟩
  · rintro ⟨q1, q2⟩
    exact ⟨q1, by omega⟩
theorem hb_and0 {a : Int} (p : Int) : hb (zd (Nat.land (zi a) (zi 0))) p = 0 ∧ zd (Nat.land (zi a) (zi 0)) = 0 := by
  have e : Nat.land (zi a) (zi 0) = 0 := Nat.and_zero (zi a)
  rw [e]
  have z : zd 0 = 0 := by decide
  rw [z]
  refine ⟨?_, rfl⟩
  have k := hb_q 0 p
  rw [Int.zero_ediv] at k
  rw [← k]
  decide
theorem hb_all {P p : Int} (P0 : 0 ≤ P) (P1 : P ≤ 8) (p0 : 0 ≤ p) (p1 : p < P) : hb (zd ((zi 1 * 2 ^ (zi P % 32)) % 4294967296) - 1) p = 1 ∧ 0 ≤ zd ((zi 1 * 2 ^ (zi P % 32)) % 4294967296) - 1 ∧ zd ((zi 1 * 2 ^ (zi P % 32)) % 4294967296) - 1 ≤ 255 := by
  rw [zsh P0 P1]
  have b := pw256 P0 P1
  refine ⟨?_, by omega, by omega⟩
  rw [hb_t (by omega) (by omega) p0 (by omega)]
  rw [show (((2 ^ P.toNat : Nat) : Int) - 1).toNat = 2 ^ P.toNat - 1 by omega, Nat.testBit_two_pow_sub_one, decide_eq_true_iff]
  omega
/-- what may be behind i rows -/
def OPN (P : Int) (R S : Nat → Int) (n i : Int) (A : Nat → Int) : Prop := (∀ k : Nat, k < 20 → 0 ≤ A k ∧ A k ≤ 255) ∧ ∀ k p : Nat, k < 20 → (p : Int) < P → (hb (A k) (p : Int) = 1 ↔ flP R S i n k p)
theorem OPN_0 {P : Int} (P0 : 0 ≤ P) (P1 : P ≤ 8) {R S A : Nat → Int} {n : Int} {v : Int} (hv : v = zd ((zi 1 * 2 ^ (zi P % 32)) % 4294967296) - 1) (h : ∀ j : Int, 0 ≤ j → j < 20 → A j.toNat = v) : OPN P R S n 0 A := by
  have hA : ∀ k : Nat, k < 20 → A k = v := fun k hk => by
    have z := h (k : Int) (by omega) (by omega)
    rw [Int.toNat_natCast] at z
    exact z
  have b := pw256 P0 P1
  refine ⟨fun k hk => ?_, fun k p hk hp => ?_⟩
  · rw [hA k hk, hv, zsh P0 P1]
    omega
  · rw [hA k hk, hv]
    exact ⟨fun _ => ⟨fun i i1 => by omega, fun _ i i1 => by omega⟩, fun _ => (hb_all P0 P1 (by omega) hp).1⟩
theorem OPN_in {P : Int} (P1 : P ≤ 8) {R S A : Nat → Int} {n i : Int} {x : Nat} {v : Int} (h : OPN P R S n i A) (i0 : 0 ≤ i) (r0 : 0 ≤ R i.toNat) (r1 : R i.toNat ≤ 19) (s0 : 0 ≤ S i.toNat) (s1 : S i.toNat < 8) (hn : R i.toNat < n) (hx : x = (R i.toNat).toNat) (hv : v = zd (Nat.land (zi (A x)) (zi (zd ((zi 1 * 2 ^ (zi (S i.toNat) % 32)) % 4294967296))))) : OPN P R S n (i + 1) (up1 A x v) := by
  have ha := h.1 x (by omega)
  refine ⟨fun k hk => ?_, fun k p hk hp => ?_⟩
  · by_cases q : k = x
    · rw [q, up1_e, hv]
      exact (hb_and ha.1 ha.2 s0 s1 (show (0 : Int) ≤ 0 by decide) (by decide)).2
    · rw [up1_n _ _ q]
      exact h.1 k hk
  · have z := h.2 k p hk hp
    have key : flP R S (i + 1) n k p ↔ flP R S i n k p ∧ (k = x → (p : Int) = S i.toNat) := by
      constructor
      · intro y
        refine ⟨⟨fun j j1 j2 j3 => y.1 j (by omega) j2 j3, fun q j j1 => y.2 q j (by omega)⟩, fun q => ?_⟩
        exact (y.1 i.toNat (by omega) hn (by omega)).symm
      · rintro ⟨y1, y2⟩
        refine ⟨fun j j1 j2 j3 => ?_, fun q j j1 => ?_⟩
        · by_cases u : j = i.toNat
          · rw [u] at j3 ⊢
            exact (y2 (by omega)).symm
          · exact y1.1 j (by omega) j2 j3
        · by_cases u : j = i.toNat
          · rw [u]; exact hn
          · exact y1.2 q j (by omega)
    rw [key]
    by_cases q : k = x
    · rw [q] at z ⊢
      rw [up1_e, hv, (hb_and ha.1 ha.2 s0 s1 (show (0 : Int) ≤ (p : Int) by omega) (by omega)).1, z]
      exact ⟨fun y => ⟨y.1, fun _ => y.2⟩, fun y => ⟨y.1, y.2 rfl⟩⟩
    · rw [up1_n _ _ q, z]
      exact ⟨fun y => ⟨y, fun u => absurd u q⟩, fun y => y.1⟩
theorem OPN_out {P : Int} {R S A : Nat → Int} {n i : Int} {v : Int} (h : OPN P R S n i A) (i0 : 0 ≤ i) (hn : ¬ R i.toNat < n) (hv : v = zd (Nat.land (zi (A 0)) (zi 0))) : OPN P R S n (i + 1) (up1 A 0 v) := by
  refine ⟨fun k hk => ?_, fun k p hk hp => ?_⟩
  · by_cases q : k = 0
    · rw [q, up1_e, hv, (hb_and0 0).2]
      exact ⟨by decide, by decide⟩
    · rw [up1_n _ _ q]
      exact h.1 k hk
  · have z := h.2 k p hk hp
    by_cases q : k = 0
    · subst q
      rw [up1_e, hv, (hb_and0 (p : Int)).1]
      refine ⟨fun y => absurd y (by decide), fun y => ?_⟩
      exact absurd (y.2 rfl i.toNat (by omega)) hn
    · rw [up1_n _ _ q, z]
      refine ⟨fun y => ⟨fun j j1 j2 j3 => ?_, fun u => absurd u q⟩, fun y => ⟨fun j j1 j2 j3 => y.1 j (by omega) j2 j3, fun u => absurd u q⟩⟩
      by_cases u : j = i.toNat
      · rw [u] at j2
        exact absurd j2 hn
      · exact y.1 j (by omega) j2 j3
/-! tables of routes, step by step -/
def TD (T : zS) (o : Nat → Nat → Int) (m : Nat) (A : Nat → Int) (k : Int) : Prop := ∀ j p : Nat, k < (j : Int) → j ≤ m → (p : Int) < T 0 1 → A (8 * j + p) = flD T o m (m - j) p
def TDp (T : zS) (o : Nat → Nat → Int) (m : Nat) (A : Nat → Int) (k z : Int) : Prop := ∀ p : Nat, (p : Int) < z → A (8 * k.toNat + p) = flD T o m (m - k.toNat) p
def TU (T : zS) (o : Nat → Nat → Int) (A : Nat → Int) (k : Int) : Prop := ∀ j p : Nat, (j : Int) < k → (p : Int) < T 0 1 → A (8 * j + p) = flU T o j p
def TUp (T : zS) (o : Nat → Nat → Int) (A : Nat → Int) (k z : Int) : Prop := ∀ p : Nat, (p : Int) < z → A (8 * k.toNat + p) = flU T o k.toNat p
section TDs
variable {T : zS} {o : Nat → Nat → Int} {m : Nat} {A : Nat → Int} {k z v : Int}
theorem TD_0 (T : zS) (o : Nat → Nat → Int) (m : Nat) (A : Nat → Int) (h : (m : Int) ≤ k) : TD T o m A k := fun j p h1 h2 _ => by omega
theorem TDp_0 (T : zS) (o : Nat → Nat → Int) (m : Nat) (A : Nat → Int) (k : Int) : TDp T o m A k 0 := fun p h => by omega
theorem TU_0 (T : zS) (o : Nat → Nat → Int) (A : Nat → Int) : TU T o A 0 := fun j p h1 _ => by omega
theorem TUp_0 (T : zS) (o : Nat → Nat → Int) (A : Nat → Int) (k : Int) : TUp T o A k 0 := fun p h => by omega
theorem TD_up (hP : T 0 1 ≤ 8) (h : TD T o m A k) (k0 : 0 ≤ k) (z0 : 0 ≤ z) (z1 : z < 8) {x : Nat} (hx : (x : Int) = 8 * k + z) : TD T o m (up1 A x v) k := by
  intro j p h1 h2 h3
  rw [up1_n _ _ (by omega)]
  exact h j p h1 h2 h3
theorem TDp_up (h : TDp T o m A k z) (k0 : 0 ≤ k) (z0 : 0 ≤ z) {x : Nat} (hx : (x : Int) = 8 * k + z) (hv : v = flD T o m (m - k.toNat) z.toNat) : TDp T o m (up1 A x v) k (z + 1) := by
  intro p h1
  by_cases q : p = z.toNat
  · rw [show 8 * k.toNat + p = x by omega, up1_e, hv, q]
  · rw [up1_n _ _ (by omega)]
    exact h p (by omega)
theorem TD_row (h : TD T o m A k) (hp : TDp T o m A k z) (k0 : 0 ≤ k) (hz : T 0 1 ≤ z) : TD T o m A (k - 1) := by
  intro j p h1 h2 h3
  by_cases q : (j : Int) = k
  · have w := hp p (by omega)
    rw [show k.toNat = j by omega] at w
    exact w
  · exact h j p (by omega) h2 h3
theorem TD_v1 (hk : k.toNat = m) (p : Nat) : flD T o m (m - k.toNat) p = if o k.toNat p = 1 then 1 else 0 := by
  rw [hk, Nat.sub_self]
  rfl
theorem TD_v2 {g : Nat → Int} (k0 : 0 ≤ k) (hk : k < (m : Int)) (h : TD T o m A k) (hg : ∀ q : Nat, (q : Int) < T 0 1 → g q = A (8 * (k.toNat + 1) + q)) (p : Nat) : flD T o m (m - k.toNat) p = if o k.toNat p = 1 then flb T g p else 0 := by
  rw [show m - k.toNat = (m - (k.toNat + 1)) + 1 by omega]
  show (if o (m - ((m - (k.toNat + 1)) + 1)) p = 1 then flb T (flD T o m (m - (k.toNat + 1))) p else 0) = _
  rw [show m - ((m - (k.toNat + 1)) + 1) = k.toNat by omega]
  rw [flb_e (g := g) (fun q hq => ?_)]
  rw [hg q (by omega)]
  exact (h (k.toNat + 1) q (by omega) (by omega) (by omega)).symm
theorem TD_b (hP : (T 0 1).toNat ≤ 8) (hm : m ≤ 19) (h : TD T o m A k) {j : Nat} (hk : k < (j : Int)) (hj : j ≤ m) {q : Nat} (hq : (q : Int) < T 0 1) : 0 ≤ A (8 * j + q) ∧ A (8 * j + q) ≤ 144115188075855872 := by
  rw [h j q hk hj hq]
  exact flD_c hP o (by omega) q
theorem TU_up (hP : T 0 1 ≤ 8) (h : TU T o A k) (k0 : 0 ≤ k) (z0 : 0 ≤ z) {x : Nat} (hx : (x : Int) = 8 * k + z) : TU T o (up1 A x v) k := by
  intro j p h1 h3
  rw [up1_n _ _ (by omega)]
  exact h j p h1 h3
theorem TUp_up (h : TUp T o A k z) (k0 : 0 ≤ k) (z0 : 0 ≤ z) {x : Nat} (hx : (x : Int) = 8 * k + z) (hv : v = flU T o k.toNat z.toNat) : TUp T o (up1 A x v) k (z + 1) := by
  intro p h1
  by_cases q : p = z.toNat
  · rw [show 8 * k.toNat + p = x by omega, up1_e, hv, q]
  · rw [up1_n _ _ (by omega)]
    exact h p (by omega)
theorem TU_row (h : TU T o A k) (hp : TUp T o A k z) (k0 : 0 ≤ k) (hz : T 0 1 ≤ z) : TU T o A (k + 1) := by
  intro j p h1 h3
  by_cases q : (j : Int) = k
  · have w := hp p (by omega)
    rw [show k.toNat = j by omega] at w
    exact w
  · exact h j p (by omega) h3
theorem TU_v1 (hk : k = 0) (p : Nat) : flU T o k.toNat p = if o k.toNat p = 1 then 1 else 0 := by
  rw [hk]
  rfl
theorem TU_v2 {g : Nat → Int} (k0 : 0 < k) (h : TU T o A k) (hg : ∀ q : Nat, (q : Int) < T 0 1 → g q = A (8 * (k.toNat - 1) + q)) (p : Nat) : flU T o k.toNat p = if o k.toNat p = 1 then flb T g p else 0 := by
  rw [show k.toNat = (k.toNat - 1) + 1 by omega]
  show (if o ((k.toNat - 1) + 1) p = 1 then flb T (flU T o (k.toNat - 1)) p else 0) = _
  rw [flb_e (g := g) (fun q hq => ?_)]
  rw [hg q (by omega)]
  exact (h (k.toNat - 1) q (by omega) (by omega)).symm
theorem TU_b (hP : (T 0 1).toNat ≤ 8) (h : TU T o A k) {j : Nat} (hk : (j : Int) < k) (hj : j ≤ 19) {q : Nat} (hq : (q : Int) < T 0 1) : 0 ≤ A (8 * j + q) ∧ A (8 * j + q) ≤ 144115188075855872 := by
  rw [h j q hk hq]
  exact flU_c hP o hj q
theorem TT_sum (h : TD T o m A (-1)) {g : Nat → Int} (hg : ∀ q : Nat, (q : Int) < T 0 1 → g q = A q) : flS g (T 0 1).toNat = flT T o m := by
  refine flS_e (fun i hi => ?_)
  have z := h 0 i (by decide) (by omega) (by omega)
  rw [show 8 * 0 + i = i by omega] at z
  rw [hg i (by omega), z]
  rfl
theorem TT_max (hd : TD T o m A (-1)) {B : Nat → Int} (hu : TU T o B ((m : Int) + 1)) {j : Nat} (hj : j ≤ m) {g : Nat → Int} (hg : ∀ q : Nat, (q : Int) < T 0 1 → g q = B (8 * j + q) * A (8 * j + q)) : flX g (T 0 1).toNat = flM T o m j := by
  refine flX_e (fun i hi => ?_)
  rw [hg i (by omega), hd j i (by omega) hj (by omega), hu j i (by omega) (by omega)]
end TDs
/-- a sum over what is beside, as it grows -/
theorem flb_s {T : zS} {f : Nat → Int} {p i : Int} (i0 : 0 ≤ i) (p0 : 0 ≤ p) : flS (fun q => if 0 ≤ lnk T (p.toNat : Int) (q : Int) then f q else 0) (i + 1).toNat = flS (fun q => if 0 ≤ lnk T (p.toNat : Int) (q : Int) then f q else 0) i.toNat + if 0 ≤ lnk T p i then f i.toNat else 0 := by
  rw [show (i + 1).toNat = i.toNat + 1 by omega]
  show flS _ i.toNat + (if 0 ≤ lnk T (p.toNat : Int) (i.toNat : Int) then f i.toNat else 0) = _
  rw [show ((p.toNat : Nat) : Int) = p by omega, show ((i.toNat : Nat) : Int) = i by omega]
theorem flS_s {f : Nat → Int} {i : Int} (i0 : 0 ≤ i) : flS f (i + 1).toNat = flS f i.toNat + f i.toNat := by
  rw [show (i + 1).toNat = i.toNat + 1 by omega]
  rfl
theorem flX_s {f : Nat → Int} {i : Int} (i0 : 0 ≤ i) : flX f (i + 1).toNat = if flX f i.toNat < f i.toNat then f i.toNat else flX f i.toNat := by
  rw [show (i + 1).toNat = i.toNat + 1 by omega]
  rfl
theorem cp9_c {x : Int} : (999999999 < x → cp9 x = 999999999) ∧ (¬ 999999999 < x → cp9 x = x) := by
  unfold cp9
  exact ⟨fun h => if_pos h, fun h => if_neg h⟩
theorem flo_01 (R S : Nat → Int) (c n : Int) (k p : Nat) : flo R S c n k p = 0 ∨ flo R S c n k p = 1 := by
  unfold flo
  split
  · exact Or.inr rfl
  · exact Or.inl rfl
theorem OPN_o {P n c : Int} {R S A : Nat → Int} (h : OPN P R S n c A) {k p : Int} (k0 : 0 ≤ k) (hk : k < 20) (p0 : 0 ≤ p) (hp : p < P) : hb (A k.toNat) p = flo R S c n k.toNat p.toNat := by
  have z := (h.2 k.toNat p.toNat (by omega) (by omega)).trans flo_1.symm
  rw [show ((p.toNat : Nat) : Int) = p by omega] at z
  have a := hb_01 (A k.toNat) p
  have b := flo_01 R S c n k.toNat p.toNat
  omega
noncomputable def cbv (R S : Nat → Int) (c x p : Int) : Int := @ite Int (∀ i : Nat, (i : Int) < c → R i = x → S i = p) (Classical.propDecidable _) 1 0
theorem cbv_y {R S : Nat → Int} {c x p : Int} (h : ∀ i : Nat, (i : Int) < c → R i = x → S i = p) : 1 = cbv R S c x p := (if_pos h).symm
theorem cbv_n {R S : Nat → Int} {c x p : Int} {i : Nat} (h1 : (i : Int) < c) (h2 : R i = x) (h3 : ¬ S i = p) : 0 = cbv R S c x p := (if_neg (fun h => h3 (h i h1 h2))).symm
theorem cbv_o {R S : Nat → Int} {c n k p : Int} (h : ∀ i : Nat, (i : Int) < c → R i < n) (k0 : 0 ≤ k) (p0 : 0 ≤ p) : cbv R S c k p = flo R S c n k.toNat p.toNat := by
  have z := flo_in (S := S) h (k := k.toNat) (p := p.toNat)
  rw [show ((k.toNat : Nat) : Int) = k by omega, show ((p.toNat : Nat) : Int) = p by omega] at z
  unfold cbv
  by_cases q : ∀ i : Nat, (i : Int) < c → R i = k → S i = p
  · rw [if_pos q]
    exact (z.mpr q).symm
  · rw [if_neg q]
    have b := flo_01 R S c n k.toNat p.toNat
    have y : ¬ flo R S c n k.toNat p.toNat = 1 := fun y => q (z.mp y)
    omega
