/-! the next place of the shortest way, and chains of them -/
def PW1 (st : zS) (g x y c : Int) : Prop := eg st g x c ∧ wgt st x c + dd (st 209) c y = dd (st 209) x y
def OW (st : zS) (x y g r : Int) : Prop := (r = -1 ∧ ∀ c : Int, 0 ≤ c → c < st 172 (st 170 13).toNat → ¬ PW1 st g x y c) ∨ (0 ≤ r ∧ r < st 172 (st 170 13).toNat ∧ PW1 st g x y r ∧ ∀ c : Int, 0 ≤ c → c < r → ¬ PW1 st g x y c)
theorem OW_u {st : zS} {x y g r r' : Int} (h : OW st x y g r) (h' : OW st x y g r') : r = r' := by
  rcases h with ⟨h1, h2⟩ | ⟨h1, h2, h3, h4⟩
  · rcases h' with ⟨k1, k2⟩ | ⟨k1, k2, k3, k4⟩
    · omega
    · exact absurd k3 (h2 r' k1 k2)
  · rcases h' with ⟨k1, k2⟩ | ⟨k1, k2, k3, k4⟩
    · exact absurd h3 (k2 r h1 h2)
    · rcases Int.lt_trichotomy r r' with q | q | q
      · exact absurd h3 (k4 r h1 q)
      · exact q
      · exact absurd k3 (h4 r' k1 q)
def CHN (st : zS) (x y g : Int) : Nat → Int → Prop
  | 0, a => OW st x y g a
  | n + 1, a => ∃ b, CHN st x y g n b ∧ ¬ b = y ∧ OW st b y g a
theorem CHN_u {st : zS} {x y g : Int} : ∀ {n : Nat} {a a' : Int}, CHN st x y g n a → CHN st x y g n a' → a = a' := by
  intro n
  induction n with
  | zero => intro a a' h h'; exact OW_u h h'
  | succ n ih =>
    intro a a' h h'
    obtain ⟨b, h1, h2, h3⟩ := h
    obtain ⟨b', k1, k2, k3⟩ := h'
    have e := ih h1 k1
    subst e
    exact OW_u h3 k3
theorem CHN_lt {st : zS} {x y g : Int} {n : Nat} (hn : CHN st x y g n y) : ∀ {j : Nat} {a : Int}, CHN st x y g j a → ¬ a = y → j < n := by
  have key : ∀ (j : Nat) (a : Int), CHN st x y g j a → n < j → False := by
    intro j
    induction j with
    | zero => intro a _ q; omega
    | succ j ih =>
      intro a h q
      obtain ⟨b, h1, h2, h3⟩ := h
      by_cases e : n = j
      · subst e
        exact h2 (CHN_u h1 hn)
      · exact ih b h1 (by omega)
  intro j a h ha
  rcases Nat.lt_trichotomy j n with q | q | q
  · exact q
  · subst q
    exact absurd (CHN_u h hn) ha
  · exact absurd (key j a h q) id
/-- there is a next place, nearer -/
theorem OW_nx {st : zS} {x y g r : Int} (hG : gInv zgt st) (hS : jS st) (hF : FWs (eg st g) (wgt st) (st 209) 8) (x1 : 0 ≤ x) (x2 : x < 8) (y1 : 0 ≤ y) (y2 : y < 8) (hn : ¬ x = y) (hd : dd (st 209) x y < 100000000) (h : OW st x y g r) : 0 ≤ r ∧ r < 8 ∧ 0 < zad st x r ∧ dd (st 209) r y < dd (st 209) x y := by
  have np := g_places hG (st 170 13).toNat
  obtain ⟨c, c1, c2, c3, c4, c5⟩ := FW_end hF x1 x2 y1 y2 hn hd
  have s1 := hS x c x1 x2 c1 c2 c4.1
  rcases h with ⟨h1, h2⟩ | ⟨h1, h2, h3, h4⟩
  · exact absurd ⟨c4, c5⟩ (h2 c c1 s1.1)
  · have s2 := hS x r x1 x2 h1 (by omega) h3.1.1
    have e1 : 1 ≤ wgt st x r := s2.2.1
    exact ⟨h1, by omega, h3.1.1, by have := h3.2; omega⟩
/-- all of it over another store -/
theorem OW_e {st s : zS} {x y g r : Int} (e13 : s 170 13 = st 170 13) (e177 : ∀ i, s 177 i = st 177 i) (e172 : ∀ i, s 172 i = st 172 i) (e176 : ∀ i, s 176 i = st 176 i) (e209 : ∀ i, s 209 i = st 209 i) (h : OW st x y g r) : OW s x y g r := by
  have f209 : s 209 = st 209 := funext e209
  have hz := zad_e e13 e177
  have hw : ∀ a b, wgt s a b = wgt st a b := by
    intro a b
    unfold wgt
    rw [hz, e13, e176]
  have hp : ∀ c, PW1 s g x y c = PW1 st g x y c := by
    intro c
    unfold PW1 eg
    rw [hz, hw, f209]
  unfold OW
  simp only [hp, e13, e172]
  exact h
theorem CHN_e {st s : zS} {x y g : Int} (e13 : s 170 13 = st 170 13) (e177 : ∀ i, s 177 i = st 177 i) (e172 : ∀ i, s 172 i = st 172 i) (e176 : ∀ i, s 176 i = st 176 i) (e209 : ∀ i, s 209 i = st 209 i) : ∀ {n : Nat} {a : Int}, CHN st x y g n a → CHN s x y g n a := by
  intro n
  induction n with
  | zero => intro a h; exact OW_e e13 e177 e172 e176 e209 h
  | succ n ih =>
    intro a h
    obtain ⟨b, h1, h2, h3⟩ := h
    exact ⟨b, ih h1, h2, OW_e e13 e177 e172 e176 e209 h3⟩
theorem FWs_e {st s : zS} {g k : Int} (e13 : s 170 13 = st 170 13) (e177 : ∀ i, s 177 i = st 177 i) (e176 : ∀ i, s 176 i = st 176 i) (e209 : ∀ i, s 209 i = st 209 i) (h : FWs (eg st g) (wgt st) (st 209) k) : FWs (eg s g) (wgt s) (s 209) k := by
  have f209 : s 209 = st 209 := funext e209
  have hz := zad_e e13 e177
  have hw : wgt s = wgt st := by
    funext a b
    unfold wgt
    rw [hz, e13, e176]
  have he : eg s g = eg st g := by
    funext a b
    unfold eg
    rw [hz]
  rw [f209, hw, he]
  exact h
/-- the route as it goes is along streets -/
def goA (st : zS) : Prop := ∀ k : Int, 0 < k → k < st 170 62 → 0 < zad st (st 210 (k - 1).toNat) (st 210 k.toNat)
