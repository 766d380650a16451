/-! TOKENS: what both readers see of a text t of n bytes from a place p on. A kind: 0 the end, 1 a word (its letters in a number, eight bits each), 2 a number, 3 a sign, 5 a word or number that is wrong -/
def tcc (t : Int → Int) (n k : Int) : Int := if 0 ≤ k ∧ k < n then t k else -1
def wbl (c : Int) : Prop := c = 32 ∨ c = 10
def wle (c : Int) : Prop := 97 ≤ c ∧ c ≤ 122
def wdi (c : Int) : Prop := 48 ≤ c ∧ c ≤ 57
noncomputable def pk8 (t : Int → Int) (s : Int) (m : Nat) : Int := Nat.rec 0 (fun i a => 256 * a + t (s + (i : Int))) m
noncomputable def pk5 (t : Int → Int) (s : Int) (m : Nat) : Int := Nat.rec 0 (fun i a => 32 * a + (t (s + (i : Int)) - 96)) m
noncomputable def pkd (t : Int → Int) (s : Int) (m : Nat) : Int := Nat.rec 0 (fun i a => 10 * a + (t (s + (i : Int)) - 48)) m
theorem pk8_s (t : Int → Int) (s : Int) (m : Nat) : pk8 t s (m + 1) = 256 * pk8 t s m + t (s + (m : Int)) := rfl
theorem pk5_s (t : Int → Int) (s : Int) (m : Nat) : pk5 t s (m + 1) = 32 * pk5 t s m + (t (s + (m : Int)) - 96) := rfl
theorem pkd_s (t : Int → Int) (s : Int) (m : Nat) : pkd t s (m + 1) = 10 * pkd t s m + (t (s + (m : Int)) - 48) := rfl
/-- a run: up to its end and no further -/
def wrn (P : Int → Prop) (s e : Int) : Prop := s ≤ e ∧ (∀ j : Int, s ≤ j → j < e → P j) ∧ ¬ P e
theorem wrn_u {P : Int → Prop} {s e e' : Int} (h : wrn P s e) (h' : wrn P s e') : e = e' := by
  obtain ⟨a1, a2, a3⟩ := h
  obtain ⟨b1, b2, b3⟩ := h'
  rcases Int.lt_trichotomy e e' with q | q | q
  · exact absurd (b2 e a1 q) a3
  · exact q
  · exact absurd (a2 e' b1 q) b3
/-- a letter or a digit right ahead of a place -/
def nbp (t : Int → Int) (p : Int) : Prop := 0 < p ∧ (wle (t (p - 1)) ∨ wdi (t (p - 1)))
def TK (t : Int → Int) (n p k v s e : Int) : Prop := wrn (fun j => wbl (tcc t n j)) p s ∧
  ((n ≤ s ∧ k = 0 ∧ v = 0 ∧ e = s) ∨
   (s < n ∧ wle (t s) ∧ ∃ m : Int, wrn (fun j => wle (tcc t n j)) s m ∧ (((nbp t s ∨ 6 < m - s) ∧ k = 5 ∧ v = 0 ∧ e = m) ∨ (¬ nbp t s ∧ m - s ≤ 6 ∧ k = 1 ∧ v = pk8 t s (m - s).toNat ∧ e = m))) ∨
   (s < n ∧ wdi (t s) ∧ ∃ m : Int, wrn (fun j => wdi (tcc t n j)) s m ∧ (((nbp t s ∨ 4 < m - s) ∧ k = 5 ∧ v = 0 ∧ e = m) ∨ (¬ nbp t s ∧ m - s ≤ 4 ∧ k = 2 ∧ v = pkd t s (m - s).toNat ∧ e = m))) ∨
   (s < n ∧ ¬ wle (t s) ∧ ¬ wdi (t s) ∧ k = 3 ∧ v = t s ∧ e = s + 1))
/-- there is one token -/
theorem TK_u {t : Int → Int} {n p k v s e k' v' s' e' : Int} (h : TK t n p k v s e) (h' : TK t n p k' v' s' e') : k = k' ∧ v = v' ∧ s = s' ∧ e = e' := by
  obtain ⟨a, h⟩ := h
  obtain ⟨a', h'⟩ := h'
  have es := wrn_u a a'
  subst es
  rcases h with ⟨h1, h2, h3, h4⟩ | ⟨h1, h2, m, hm, h3⟩ | ⟨h1, h2, m, hm, h3⟩ | ⟨h1, h2, h3, h4, h5, h6⟩
  · rcases h' with ⟨g1, g2, g3, g4⟩ | ⟨g1, -⟩ | ⟨g1, -⟩ | ⟨g1, -⟩
    · omega
    · omega
    · omega
    · omega
  · rcases h' with ⟨g1, -⟩ | ⟨g1, g2, m', gm, g3⟩ | ⟨g1, g2, -⟩ | ⟨g1, g2, -⟩
    · omega
    · have em := wrn_u hm gm
      subst em
      rcases h3 with ⟨c, x1, x2, x3⟩ | ⟨c1, c2, x1, x2, x3⟩
      · rcases g3 with ⟨d, y1, y2, y3⟩ | ⟨d1, d2, y1, y2, y3⟩
        · omega
        · rcases c with c | c
          · exact absurd c d1
          · omega
      · rcases g3 with ⟨d, y1, y2, y3⟩ | ⟨d1, d2, y1, y2, y3⟩
        · rcases d with d | d
          · exact absurd d c1
          · omega
        · exact ⟨by omega, by rw [x2, y2], rfl, by omega⟩
    · exact absurd h2 (by unfold wle wdi at *; omega)
    · exact absurd h2 g2
  · rcases h' with ⟨g1, -⟩ | ⟨g1, g2, -⟩ | ⟨g1, g2, m', gm, g3⟩ | ⟨g1, g2, g3, -⟩
    · omega
    · exact absurd h2 (by unfold wle wdi at *; omega)
    · have em := wrn_u hm gm
      subst em
      rcases h3 with ⟨c, x1, x2, x3⟩ | ⟨c1, c2, x1, x2, x3⟩
      · rcases g3 with ⟨d, y1, y2, y3⟩ | ⟨d1, d2, y1, y2, y3⟩
        · omega
        · rcases c with c | c
          · exact absurd c d1
          · omega
      · rcases g3 with ⟨d, y1, y2, y3⟩ | ⟨d1, d2, y1, y2, y3⟩
        · rcases d with d | d
          · exact absurd d c1
          · omega
        · exact ⟨by omega, by rw [x2, y2], rfl, by omega⟩
    · exact absurd h2 g3
  · rcases h' with ⟨g1, -⟩ | ⟨g1, g2, -⟩ | ⟨g1, g2, -⟩ | ⟨g1, g2, g3, y1, y2, y3⟩
    · omega
    · exact absurd g2 h2
    · exact absurd g2 h3
    · omega
/-- its letters, 0 for none -/
def isN6 (v x : Int) : Prop := ∃ a b c d e f : Int, (1 ≤ a ∧ a ≤ 26) ∧ (0 ≤ b ∧ b ≤ 26) ∧ (0 ≤ c ∧ c ≤ 26) ∧ (0 ≤ d ∧ d ≤ 26) ∧ (0 ≤ e ∧ e ≤ 26) ∧ (0 ≤ f ∧ f ≤ 26) ∧ x = 33554432 * a + 1048576 * b + 32768 * c + 1024 * d + 32 * e + f ∧
  ((b = 0 ∧ c = 0 ∧ d = 0 ∧ e = 0 ∧ f = 0 ∧ v = a + 96) ∨ (1 ≤ b ∧ c = 0 ∧ d = 0 ∧ e = 0 ∧ f = 0 ∧ v = 256 * (a + 96) + (b + 96)) ∨ (1 ≤ b ∧ 1 ≤ c ∧ d = 0 ∧ e = 0 ∧ f = 0 ∧ v = 65536 * (a + 96) + 256 * (b + 96) + (c + 96)) ∨
   (1 ≤ b ∧ 1 ≤ c ∧ 1 ≤ d ∧ e = 0 ∧ f = 0 ∧ v = 16777216 * (a + 96) + 65536 * (b + 96) + 256 * (c + 96) + (d + 96)) ∨
   (1 ≤ b ∧ 1 ≤ c ∧ 1 ≤ d ∧ 1 ≤ e ∧ f = 0 ∧ v = 4294967296 * (a + 96) + 16777216 * (b + 96) + 65536 * (c + 96) + 256 * (d + 96) + (e + 96)) ∨
   (1 ≤ b ∧ 1 ≤ c ∧ 1 ≤ d ∧ 1 ≤ e ∧ 1 ≤ f ∧ v = 1099511627776 * (a + 96) + 4294967296 * (b + 96) + 16777216 * (c + 96) + 65536 * (d + 96) + 256 * (e + 96) + (f + 96)))
/-- the same letters: the same number, both ways -/
theorem isN6_u {v x v' x' : Int} (h : isN6 v x) (h' : isN6 v' x') : v = v' ↔ x = x' := by
  obtain ⟨a, b, c, d, e, f, h1, h2, h3, h4, h5, h6, hx, hv⟩ := h
  obtain ⟨a', b', c', d', e', f', g1, g2, g3, g4, g5, g6, gx, gv⟩ := h'
  constructor
  · intro q
    rcases hv with hv | hv | hv | hv | hv | hv <;> rcases gv with gv | gv | gv | gv | gv | gv <;> omega
  · intro q
    have e1 : a = a' ∧ b = b' ∧ c = c' ∧ d = d' ∧ e = e' ∧ f = f' := by omega
    obtain ⟨rfl, rfl, rfl, rfl, rfl, rfl⟩ := e1
    rcases hv with hv | hv | hv | hv | hv | hv <;> rcases gv with gv | gv | gv | gv | gv | gv <;> omega
/-- the words read: both numbers have the same letters -/
theorem pk_N6 {t : Int → Int} {s : Int} {m : Nat} (h1 : 1 ≤ m) (h6 : m ≤ 6) (hl : ∀ j : Int, s ≤ j → j < s + (m : Int) → wle (t j)) : isN6 (pk8 t s m) (pk5 t s m * 32 ^ (6 - m)) := by
  have l0 := hl s (by omega) (by omega)
  unfold wle at hl l0
  rcases (show m = 1 ∨ m = 2 ∨ m = 3 ∨ m = 4 ∨ m = 5 ∨ m = 6 by omega) with rfl | rfl | rfl | rfl | rfl | rfl
  · have e8 : pk8 t s 1 = 256 * 0 + t (s + ((0 : Nat) : Int)) := rfl
    have e5 : pk5 t s 1 = 32 * 0 + (t (s + ((0 : Nat) : Int)) - 96) := rfl
    rw [e8, e5]
    have z0 := hl (s + ((0 : Nat) : Int)) (by omega) (by omega)
    refine ⟨t (s + ((0 : Nat) : Int)) - 96, 0, 0, 0, 0, 0, by omega, by omega, by omega, by omega, by omega, by omega, by show (32 * 0 + (t (s + ((0 : Nat) : Int)) - 96)) * 33554432 = _; omega, Or.inl ⟨rfl, rfl, rfl, rfl, rfl, by omega⟩⟩
  · have e8 : pk8 t s 2 = 256 * (256 * 0 + t (s + ((0 : Nat) : Int))) + t (s + ((1 : Nat) : Int)) := rfl
    have e5 : pk5 t s 2 = 32 * (32 * 0 + (t (s + ((0 : Nat) : Int)) - 96)) + (t (s + ((1 : Nat) : Int)) - 96) := rfl
    rw [e8, e5]
    have z0 := hl (s + ((0 : Nat) : Int)) (by omega) (by omega)
    have z1 := hl (s + ((1 : Nat) : Int)) (by omega) (by omega)
    refine ⟨t (s + ((0 : Nat) : Int)) - 96, t (s + ((1 : Nat) : Int)) - 96, 0, 0, 0, 0, by omega, by omega, by omega, by omega, by omega, by omega, by show (32 * (32 * 0 + (t (s + ((0 : Nat) : Int)) - 96)) + (t (s + ((1 : Nat) : Int)) - 96)) * 1048576 = _; omega, Or.inr (Or.inl ⟨by omega, rfl, rfl, rfl, rfl, by omega⟩)⟩
  · have e8 : pk8 t s 3 = 256 * (256 * (256 * 0 + t (s + ((0 : Nat) : Int))) + t (s + ((1 : Nat) : Int))) + t (s + ((2 : Nat) : Int)) := rfl
    have e5 : pk5 t s 3 = 32 * (32 * (32 * 0 + (t (s + ((0 : Nat) : Int)) - 96)) + (t (s + ((1 : Nat) : Int)) - 96)) + (t (s + ((2 : Nat) : Int)) - 96) := rfl
    rw [e8, e5]
    have z0 := hl (s + ((0 : Nat) : Int)) (by omega) (by omega)
    have z1 := hl (s + ((1 : Nat) : Int)) (by omega) (by omega)
    have z2 := hl (s + ((2 : Nat) : Int)) (by omega) (by omega)
    refine ⟨t (s + ((0 : Nat) : Int)) - 96, t (s + ((1 : Nat) : Int)) - 96, t (s + ((2 : Nat) : Int)) - 96, 0, 0, 0, by omega, by omega, by omega, by omega, by omega, by omega, by show (32 * (32 * (32 * 0 + (t (s + ((0 : Nat) : Int)) - 96)) + (t (s + ((1 : Nat) : Int)) - 96)) + (t (s + ((2 : Nat) : Int)) - 96)) * 32768 = _; omega, Or.inr (Or.inr (Or.inl ⟨by omega, by omega, rfl, rfl, rfl, by omega⟩))⟩
  · have e8 : pk8 t s 4 = 256 * (256 * (256 * (256 * 0 + t (s + ((0 : Nat) : Int))) + t (s + ((1 : Nat) : Int))) + t (s + ((2 : Nat) : Int))) + t (s + ((3 : Nat) : Int)) := rfl
    have e5 : pk5 t s 4 = 32 * (32 * (32 * (32 * 0 + (t (s + ((0 : Nat) : Int)) - 96)) + (t (s + ((1 : Nat) : Int)) - 96)) + (t (s + ((2 : Nat) : Int)) - 96)) + (t (s + ((3 : Nat) : Int)) - 96) := rfl
    rw [e8, e5]
    have z0 := hl (s + ((0 : Nat) : Int)) (by omega) (by omega)
    have z1 := hl (s + ((1 : Nat) : Int)) (by omega) (by omega)
    have z2 := hl (s + ((2 : Nat) : Int)) (by omega) (by omega)
    have z3 := hl (s + ((3 : Nat) : Int)) (by omega) (by omega)
    refine ⟨t (s + ((0 : Nat) : Int)) - 96, t (s + ((1 : Nat) : Int)) - 96, t (s + ((2 : Nat) : Int)) - 96, t (s + ((3 : Nat) : Int)) - 96, 0, 0, by omega, by omega, by omega, by omega, by omega, by omega, by show (32 * (32 * (32 * (32 * 0 + (t (s + ((0 : Nat) : Int)) - 96)) + (t (s + ((1 : Nat) : Int)) - 96)) + (t (s + ((2 : Nat) : Int)) - 96)) + (t (s + ((3 : Nat) : Int)) - 96)) * 1024 = _; omega, Or.inr (Or.inr (Or.inr (Or.inl ⟨by omega, by omega, by omega, rfl, rfl, by omega⟩)))⟩
  · have e8 : pk8 t s 5 = 256 * (256 * (256 * (256 * (256 * 0 + t (s + ((0 : Nat) : Int))) + t (s + ((1 : Nat) : Int))) + t (s + ((2 : Nat) : Int))) + t (s + ((3 : Nat) : Int))) + t (s + ((4 : Nat) : Int)) := rfl
    have e5 : pk5 t s 5 = 32 * (32 * (32 * (32 * (32 * 0 + (t (s + ((0 : Nat) : Int)) - 96)) + (t (s + ((1 : Nat) : Int)) - 96)) + (t (s + ((2 : Nat) : Int)) - 96)) + (t (s + ((3 : Nat) : Int)) - 96)) + (t (s + ((4 : Nat) : Int)) - 96) := rfl
    rw [e8, e5]
    have z0 := hl (s + ((0 : Nat) : Int)) (by omega) (by omega)
    have z1 := hl (s + ((1 : Nat) : Int)) (by omega) (by omega)
    have z2 := hl (s + ((2 : Nat) : Int)) (by omega) (by omega)
    have z3 := hl (s + ((3 : Nat) : Int)) (by omega) (by omega)
    have z4 := hl (s + ((4 : Nat) : Int)) (by omega) (by omega)
    refine ⟨t (s + ((0 : Nat) : Int)) - 96, t (s + ((1 : Nat) : Int)) - 96, t (s + ((2 : Nat) : Int)) - 96, t (s + ((3 : Nat) : Int)) - 96, t (s + ((4 : Nat) : Int)) - 96, 0, by omega, by omega, by omega, by omega, by omega, by omega, by show (32 * (32 * (32 * (32 * (32 * 0 + (t (s + ((0 : Nat) : Int)) - 96)) + (t (s + ((1 : Nat) : Int)) - 96)) + (t (s + ((2 : Nat) : Int)) - 96)) + (t (s + ((3 : Nat) : Int)) - 96)) + (t (s + ((4 : Nat) : Int)) - 96)) * 32 = _; omega, Or.inr (Or.inr (Or.inr (Or.inr (Or.inl ⟨by omega, by omega, by omega, by omega, rfl, by omega⟩))))⟩
  · have e8 : pk8 t s 6 = 256 * (256 * (256 * (256 * (256 * (256 * 0 + t (s + ((0 : Nat) : Int))) + t (s + ((1 : Nat) : Int))) + t (s + ((2 : Nat) : Int))) + t (s + ((3 : Nat) : Int))) + t (s + ((4 : Nat) : Int))) + t (s + ((5 : Nat) : Int)) := rfl
    have e5 : pk5 t s 6 = 32 * (32 * (32 * (32 * (32 * (32 * 0 + (t (s + ((0 : Nat) : Int)) - 96)) + (t (s + ((1 : Nat) : Int)) - 96)) + (t (s + ((2 : Nat) : Int)) - 96)) + (t (s + ((3 : Nat) : Int)) - 96)) + (t (s + ((4 : Nat) : Int)) - 96)) + (t (s + ((5 : Nat) : Int)) - 96) := rfl
    rw [e8, e5]
    have z0 := hl (s + ((0 : Nat) : Int)) (by omega) (by omega)
    have z1 := hl (s + ((1 : Nat) : Int)) (by omega) (by omega)
    have z2 := hl (s + ((2 : Nat) : Int)) (by omega) (by omega)
    have z3 := hl (s + ((3 : Nat) : Int)) (by omega) (by omega)
    have z4 := hl (s + ((4 : Nat) : Int)) (by omega) (by omega)
    have z5 := hl (s + ((5 : Nat) : Int)) (by omega) (by omega)
    refine ⟨t (s + ((0 : Nat) : Int)) - 96, t (s + ((1 : Nat) : Int)) - 96, t (s + ((2 : Nat) : Int)) - 96, t (s + ((3 : Nat) : Int)) - 96, t (s + ((4 : Nat) : Int)) - 96, t (s + ((5 : Nat) : Int)) - 96, by omega, by omega, by omega, by omega, by omega, by omega, by show (32 * (32 * (32 * (32 * (32 * (32 * 0 + (t (s + ((0 : Nat) : Int)) - 96)) + (t (s + ((1 : Nat) : Int)) - 96)) + (t (s + ((2 : Nat) : Int)) - 96)) + (t (s + ((3 : Nat) : Int)) - 96)) + (t (s + ((4 : Nat) : Int)) - 96)) + (t (s + ((5 : Nat) : Int)) - 96)) * 1 = _; omega, Or.inr (Or.inr (Or.inr (Or.inr (Or.inr ⟨by omega, by omega, by omega, by omega, by omega, by omega⟩))))⟩
theorem l255m (a : Int) : zd (Nat.land (zi a) (zi 255)) = a % 256 := by
  have e : Nat.land (zi a) (zi 255) = zi a % 256 := Nat.and_two_pow_sub_one_eq_mod (zi a) 8
  rw [e]
  unfold zd
  rw [zblt, decide_eq_true (show zi a % 256 < 2147483648 by omega)]
  show ((zi a % 256 : Nat) : Int) = a % 256
  unfold zi
  omega
/-- a run has an end -/
theorem wrn_ex {P : Int → Prop} {s n : Int} (hs : s ≤ n) (hn : ¬ P n) : ∃ m : Int, wrn P s m ∧ m ≤ n := by
  have key : ∀ (u : Nat) (s : Int), s ≤ n → (n - s).toNat = u → ∃ m : Int, wrn P s m ∧ m ≤ n := by
    intro u
    induction u with
    | zero =>
      intro s h1 h2
      have e : s = n := by omega
      subst e
      exact ⟨s, ⟨Int.le_refl _, fun j a b => by omega, hn⟩, Int.le_refl _⟩
    | succ u ih =>
      intro s h1 h2
      by_cases hp : P s
      · obtain ⟨m, ⟨m1, m2, m3⟩, m4⟩ := ih (s + 1) (by omega) (by omega)
        refine ⟨m, ⟨by omega, fun j a b => ?_, m3⟩, m4⟩
        by_cases e : j = s
        · rw [e]; exact hp
        · exact m2 j (by omega) b
      · exact ⟨s, ⟨Int.le_refl _, fun j a b => by omega, hp⟩, h1⟩
  exact key _ s hs rfl
theorem tcc_in {t : Int → Int} {n k : Int} (h : 0 ≤ k ∧ k < n) : tcc t n k = t k := if_pos h
theorem tcc_out {t : Int → Int} {n k : Int} (h : ¬ (0 ≤ k ∧ k < n)) : tcc t n k = -1 := if_neg h
theorem tcc_e {t t' : Int → Int} {n : Int} (h : ∀ k : Int, 0 ≤ k → k < n → t' k = t k) (k : Int) : tcc t' n k = tcc t n k := by
  unfold tcc
  split
  · rename_i q
    exact h k q.1 q.2
  · rfl
