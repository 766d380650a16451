/-! STATEMENTS over tokens: a town T (its cells: 0 the fields, 1 names of places, 2 3 4 streets from, to, paces, 5 links, 6 7 8 things' names, places, pulls, 9 fields of the steps told, 10 11 their places, minutes, 12 codes) before and behind -/
theorem bor {a b : Bool} (h : (a || b) = true) : a = true ∨ b = true := by
  cases a with
  | true => exact Or.inl rfl
  | false => exact Or.inr h
noncomputable def mout (a b : Nat) (m : aM) : Bool := aall (fun q => Nat.blt q.1 a || Nat.blt b q.1) m.1 && aall (fun c => Nat.blt c a || Nat.blt b c) m.2
theorem fr_out {a b : Nat} {m : aM} {st s : zS} (hm : mout a b m = true) (h : aFr m st s) : ∀ c i : Nat, a ≤ c → c ≤ b → s c i = st c i := by
  intro c i ha hb
  obtain ⟨h1, h2⟩ := rx_an hm
  have key : ∀ x : Nat, (Nat.blt x a || Nat.blt b x) = true → ¬ (a ≤ x ∧ x ≤ b) := by
    intro x hx q
    rcases bor hx with z | z
    · have z : x < a := Nat.lt_of_lt_of_le (Nat.lt_succ_self x) (Nat.le_of_ble_eq_true z)
      omega
    · have z : b < x := Nat.lt_of_lt_of_le (Nat.lt_succ_self b) (Nat.le_of_ble_eq_true z)
      omega
  refine h c i ?_ ?_
  · cases e : amf m c i with
    | false => rfl
    | true => exact absurd ⟨ha, hb⟩ (key c (aall_o2 h1 _ (amf_ok.mp e)))
  · cases e : ama m c with
    | false => rfl
    | true => exact absurd ⟨ha, hb⟩ (key c (aall_o2 h2 _ (ama_ok.mp e)))
/-- the town whose object is x -/
def tn (x : Nat) (st : zS) : zS := fun c i => if c ≤ 12 then st (x + c) i else 0
theorem tn_e {x : Nat} {st s : zS} (h : ∀ c i : Nat, x ≤ c → c ≤ x + 12 → s c i = st c i) : tn x s = tn x st := by
  funext c i
  unfold tn
  split
  · exact h _ _ (by omega) (by omega)
  · rfl
theorem tn_fr {x : Nat} {m : aM} {st s : zS} (hm : mout x (x + 12) m = true) (h : aFr m st s) : tn x s = tn x st := tn_e (fr_out hm h)
theorem tn_up (x : Nat) (st : zS) {c : Nat} (i : Nat) (v : Int) (h : c ≤ 12) : tn x (zup st (x + c) i v) = zup (tn x st) c i v := by
  funext c' i'
  rw [zup_if]
  unfold tn
  by_cases q : c' ≤ 12
  · rw [if_pos q, if_pos q, zup_if]
    by_cases q2 : c' = c ∧ i' = i
    · rw [if_pos q2, if_pos ⟨by omega, q2.2⟩]
    · rw [if_neg q2, if_neg (fun z => q2 ⟨by omega, z.2⟩)]
  · rw [if_neg q, if_neg q, if_neg (fun z => q (by omega))]
theorem tn_o (x : Nat) (st : zS) {c : Nat} (i : Nat) (v : Int) (h : c < x ∨ x + 12 < c) : tn x (zup st c i v) = tn x st := tn_e (fun c' i' h1 h2 => zup_nc _ _ (by omega))
def NOwn (v : Int) : Prop := ∀ i : Nat, i < 26 → ¬ v = owv i
/-- a name that is nowhere yet -/
def FrN (T : zS) (x : Int) : Prop := (∀ j : Int, 0 ≤ j → j < T 0 1 → ¬ T 1 j.toNat = x) ∧ ∀ j : Int, 0 ≤ j → j < T 0 8 → ¬ T 6 j.toNat = x
/-- a place told: its number -/
def KnP (T : zS) (v a : Int) : Prop := NOwn v ∧ ∃ x : Int, isN6 v x ∧ (0 ≤ a ∧ a < T 0 1 ∧ T 1 a.toNat = x) ∧ ∀ j : Int, 0 ≤ j → j < a → ¬ T 1 j.toNat = x
theorem KnP_u {T : zS} {v a b : Int} (h : KnP T v a) (k : KnP T v b) : a = b := by
  obtain ⟨-, x, hx, ⟨a1, a2, a3⟩, a4⟩ := h
  obtain ⟨-, y, hy, ⟨b1, b2, b3⟩, b4⟩ := k
  have e := (isN6_u hx hy).mp rfl
  subst e
  rcases Int.lt_trichotomy a b with q | q | q
  · exact absurd a3 (b4 a a1 q)
  · exact q
  · exact absurd b3 (a4 b b1 q)
def lnk (T : zS) (a b : Int) : Int := T 5 (8 * a + b).toNat
section STM
variable (t : Int → Int) (n : Int) (T : zS) (p : Int) (T' : zS) (q : Int)
def bPl : Prop := T 0 1 < 8 ∧ ∃ v x : Int, tk t n p 1 v q ∧ NOwn v ∧ isN6 v x ∧ FrN T x ∧ T' = zup (zup T 1 (T 0 1).toNat x) 0 1 (T 0 1 + 1)
def bSt : Prop := T 0 3 < 14 ∧ ∃ v a e1 e2 w b e3 e4 m : Int, tk t n p 1 v e1 ∧ KnP T v a ∧ tk t n e1 1 29807 e2 ∧ tk t n e2 1 w e3 ∧ KnP T w b ∧ ¬ b = a ∧ lnk T a b = -1 ∧ tk t n e3 1 482670241139 e4 ∧ tk t n e4 2 m q ∧ 1 ≤ m ∧ m ≤ 99 ∧ T' = zup (zup (zup (zup (zup (zup T 2 (T 0 3).toNat a) 3 (T 0 3).toNat b) 4 (T 0 3).toNat m) 5 (a * 8 + b).toNat (T 0 3)) 5 (b * 8 + a).toNat (T 0 3)) 0 3 (T 0 3 + 1)
def bSp : Prop := T 9 2 < 20 ∧ ∃ v a e1 e2 m : Int, tk t n p 1 v e1 ∧ KnP T v a ∧ (T 9 2 = 0 ∨ ¬ lnk T (T 10 (T 9 2 - 1).toNat) a = -1) ∧ tk t n e1 1 6713202 e2 ∧ tk t n e2 2 m q ∧ m ≤ 30 ∧ T' = zup (zup (zup T 10 (T 9 2).toNat a) 11 (T 9 2).toNat m) 9 2 (T 9 2 + 1)
def bTh : Prop := T 0 8 < 8 ∧ ∃ v x e1 e2 w a e3 e4 m : Int, tk t n p 1 v e1 ∧ NOwn v ∧ isN6 v x ∧ FrN T x ∧ tk t n e1 1 24948 e2 ∧ tk t n e2 1 w e3 ∧ KnP T w a ∧ tk t n e3 1 1886743660 e4 ∧ tk t n e4 2 m q ∧ m ≤ 9 ∧ T' = zup (zup (zup (zup T 6 (T 0 8).toNat x) 7 (T 0 8).toNat a) 8 (T 0 8).toNat m) 0 8 (T 0 8 + 1)
def bHe (f : Nat) (l : Int) : Prop := ∃ m : Int, tk t n p 2 m q ∧ m ≤ l ∧ T' = zup T 0 f m
/-- a sum or a test: its codes and a stop behind them -/
def bRd (f : Nat) (cv : Prop) (tag : Nat) : Prop := T 0 f = -1 ∧ ∃ (c : List Int) (n1 : Int), Gr t n cv tag 0 p q c ∧ CDA (T 0 16) n1 (T 12) (T' 12) c ∧ T' 12 n1.toNat = 13238272 ∧ T' 0 f = T 0 16 ∧ T' 0 16 = n1 + 1 ∧ ∀ c i : Nat, ¬ c = 12 → ¬ (c = 0 ∧ (i = f ∨ i = 16)) → T' c i = T c i
def sB (i : Nat) : Prop := match i with
  | 0 => bPl t n T p T' q
  | 1 => bSt t n T p T' q
  | 4 => bSp t n T p T' q
  | 6 => bTh t n T p T' q
  | 9 => bRd t n T p T' q 17 ((0 : Int) = 1) 0
  | 10 => bRd t n T p T' q 18 ((1 : Int) = 1) 5
  | 11 => bHe t n T p T' q 13 40
  | 12 => bHe t n T p T' q 14 100
  | _ => False
def sF (i : Nat) : Prop := match i with
  | 9 => ¬ T 0 17 = -1 ∨ Fl t n ((0 : Int) = 1) 0 0 p
  | 10 => ¬ T 0 18 = -1 ∨ Fl t n ((1 : Int) = 1) 5 0 p
  | _ => ¬ ∃ (T' : zS) (q : Int), sB t n T p T' q i
/-- a statement and its sign -/
def SS : Prop := ∃ (i : Nat) (e e2 : Int) (T1 : zS), i < 26 ∧ tk t n p 1 (owv i) e ∧ sB t n T e T1 e2 i ∧ tk t n e2 3 59 q ∧ T' = zup T1 0 0 (T1 0 0 + 1)
def FS : Prop := (¬ ∃ (i : Nat) (e : Int), i < 26 ∧ tk t n p 1 (owv i) e) ∨ (∃ (i : Nat) (e : Int), i < 26 ∧ tk t n p 1 (owv i) e ∧ sF t n T e i) ∨ ∃ (i : Nat) (e e2 : Int) (T1 : zS), i < 26 ∧ tk t n p 1 (owv i) e ∧ sB t n T e T1 e2 i ∧ ¬ ∃ q : Int, tk t n e2 3 59 q
end STM
