/-! AN INTERVAL EXECUTOR over the second layer. A number: a constant, or a symbol plus a constant; each symbol has bounds. The store: what is known of single fields and of whole arrays, over an invariant of bounds -/
abbrev aI : Type := Option Nat × Int
abbrev aV : Type := aI ⊕ (aI ⊕ Nat)
abbrev aB : Type := Int × Int
abbrev aF : Type := List aB
abbrev aL : Type := List (Nat × aV)
abbrev aO : Type := List ((Nat × Nat) × aI)
abbrev aA : Type := List (Nat × aB)
/-- for each cell the bounds of each slot (one of some), or the bounds of all slots -/
abbrev aG : Type := List (List (List aB) ⊕ aB)
/-- what may be written: fields, arrays -/
abbrev aM : Type := List (Nat × Nat) × List Nat
abbrev aK : Type := List rx_E → aL → List aV → aF → aO → aA → Bool
abbrev aE : Type := Option aV → aF → aO → aA → Bool
def ile (a b : Int) : Bool := match b - a with
  | .ofNat _ => true
  | .negSucc _ => false
theorem ile_ok {a b : Int} (h : ile a b = true) : a ≤ b := by
  unfold ile at h
  split at h
  · rename_i n e
    have : (0 : Int) ≤ b - a := by rw [e]; exact Int.natCast_nonneg n
    omega
  · cases h
theorem ile_no {a b : Int} (h : ile a b = false) : b < a := by
  unfold ile at h
  split at h
  · cases h
  · rename_i n e
    have : b - a < 0 := by rw [e]; exact Int.negSucc_lt_zero n
    omega
def ieq (a b : Int) : Bool := ile a b && ile b a
theorem ieq_ok {a b : Int} (h : ieq a b = true) : a = b := by
  obtain ⟨h1, h2⟩ := rx_an h
  have := ile_ok h1
  have := ile_ok h2
  omega
def imin (a b : Int) : Int := cond (ile a b) a b
def imax (a b : Int) : Int := cond (ile a b) b a
theorem imin_le (a b : Int) : imin a b ≤ a ∧ imin a b ≤ b := by
  unfold imin
  cases h : ile a b with
  | true => have := ile_ok h; simp only [cond_true]; omega
  | false => have := ile_no h; simp only [cond_false]; omega
theorem le_imax (a b : Int) : a ≤ imax a b ∧ b ≤ imax a b := by
  unfold imax
  cases h : ile a b with
  | true => have := ile_ok h; simp only [cond_true]; omega
  | false => have := ile_no h; simp only [cond_false]; omega
theorem le_imin {a b c : Int} (h1 : c ≤ a) (h2 : c ≤ b) : c ≤ imin a b := by
  unfold imin
  cases ile a b
  · exact h2
  · exact h1
theorem imax_le {a b c : Int} (h1 : a ≤ c) (h2 : b ≤ c) : imax a b ≤ c := by
  unfold imax
  cases ile a b
  · exact h1
  · exact h2
noncomputable def afn (F : aF) : Nat → aB := List.rec (fun _ => (0, 0)) (fun q _ ih n => Nat.rec q (fun m _ => ih m) n) F
noncomputable def afs (F : aF) : Nat → aB → aF := List.rec (fun _ _ => []) (fun q t ih n v => Nat.rec (v :: t) (fun m _ => q :: ih m v) n) F
noncomputable def afe (F : aF) (v : aB) : aF := List.rec [v] (fun q _ ih => q :: ih) F
noncomputable def afl (F : aF) : Nat := List.rec 0 (fun _ _ ih => Nat.succ ih) F
noncomputable def arg (F : aF) (v : aI) : aB := match v.1 with
  | none => (v.2, v.2)
  | some k => ((afn F k).1 + v.2, (afn F k).2 + v.2)
/-- v lies in lo .. hi -/
noncomputable def aref (F : aF) (v : aI) (lo hi : Int) (k : aF → Bool) : Bool := match v.1 with
  | none => cond (ile lo v.2 && ile v.2 hi) (k F) true
  | some s => cond (ile (imax ((afn F s).1 + v.2) lo) (imin ((afn F s).2 + v.2) hi)) (k (afs F s (imax ((afn F s).1 + v.2) lo - v.2, imin ((afn F s).2 + v.2) hi - v.2))) true
noncomputable def afr (F : aF) (q : aB) (k : aF → aI → Bool) : Bool := cond (ieq q.1 q.2) (k F (none, q.1)) (k (afe F q) (some (afl F), 0))
noncomputable def alt (F : aF) (a b : aI) (k : aF → Bool) : Bool := aref F a (arg F a).1 ((arg F b).2 - 1) (fun F1 => aref F1 b ((arg F a).1 + 1) (arg F b).2 k)
noncomputable def ale (F : aF) (a b : aI) (k : aF → Bool) : Bool := aref F a (arg F a).1 (arg F b).2 (fun F1 => aref F1 b (arg F a).1 (arg F b).2 k)
noncomputable def aeq (F : aF) (a b : aI) (k : aF → Bool) : Bool := aref F a (arg F b).1 (arg F b).2 (fun F1 => aref F1 b (arg F a).1 (arg F a).2 k)
/-- a is not the number c -/
noncomputable def anc (F : aF) (a : aI) (c : Int) (k : aF → Bool) : Bool := aref F a (arg F a).1 (c - 1) k && aref F a (c + 1) (arg F a).2 k
noncomputable def ane (F : aF) (a b : aI) (k : aF → Bool) : Bool := cond (ieq (arg F b).1 (arg F b).2) (cond (ile (arg F a).1 (arg F b).1 && ile (arg F b).1 (arg F a).2) (anc F a (arg F b).1 k) (k F)) (cond (ieq (arg F a).1 (arg F a).2) (cond (ile (arg F b).1 (arg F a).1 && ile (arg F a).1 (arg F b).2) (anc F b (arg F a).1 k) (k F)) (k F))
noncomputable def acm (c : Jvm.ClassFile.Cond) (F : aF) (a b : aI) (k : aF → Bool) : Bool := match c with
  | .lt => alt F a b k
  | .ge => ale F b a k
  | .gt => alt F b a k
  | .le => ale F a b k
  | .eq => aeq F a b k
  | .ne => ane F a b k
def acn (c : Jvm.ClassFile.Cond) : Jvm.ClassFile.Cond := match c with
  | .lt => .ge
  | .ge => .lt
  | .gt => .le
  | .le => .gt
  | .eq => .ne
  | .ne => .eq
def afI : aB := (-2147483648, 2147483647)
def afJ : aB := (-9223372036854775808, 9223372036854775807)
def ain (f q : aB) : Bool := ile f.1 q.1 && ile q.2 f.2
def aon (a b : Option Nat) : Bool := match a, b with
  | none, none => true
  | some x, some y => Nat.beq x y
  | _, _ => false
noncomputable def aad (f : aB) (F : aF) (a b : aI) (k : aF → aI → Bool) : Bool := cond (ain f ((arg F a).1 + (arg F b).1, (arg F a).2 + (arg F b).2)) (match a.1, b.1 with
  | none, _ => k F (b.1, a.2 + b.2)
  | some _, none => k F (a.1, a.2 + b.2)
  | some _, some _ => afr F ((arg F a).1 + (arg F b).1, (arg F a).2 + (arg F b).2) k) (afr F f k)
noncomputable def asb (f : aB) (F : aF) (a b : aI) (k : aF → aI → Bool) : Bool := cond (aon a.1 b.1) (cond (ain f (a.2 - b.2, a.2 - b.2)) (k F (none, a.2 - b.2)) (afr F f k)) (cond (ain f ((arg F a).1 - (arg F b).2, (arg F a).2 - (arg F b).1)) (match b.1 with
  | none => k F (a.1, a.2 - b.2)
  | some _ => afr F ((arg F a).1 - (arg F b).2, (arg F a).2 - (arg F b).1) k) (afr F f k))
def amn (a b c d : Int) : Int := imin (imin a b) (imin c d)
def amx (a b c d : Int) : Int := imax (imax a b) (imax c d)
noncomputable def aml (f : aB) (F : aF) (a b : aI) (k : aF → aI → Bool) : Bool :=
  cond (ain f (amn ((arg F a).1 * (arg F b).1) ((arg F a).1 * (arg F b).2) ((arg F a).2 * (arg F b).1) ((arg F a).2 * (arg F b).2), amx ((arg F a).1 * (arg F b).1) ((arg F a).1 * (arg F b).2) ((arg F a).2 * (arg F b).1) ((arg F a).2 * (arg F b).2)))
    (afr F (amn ((arg F a).1 * (arg F b).1) ((arg F a).1 * (arg F b).2) ((arg F a).2 * (arg F b).1) ((arg F a).2 * (arg F b).2), amx ((arg F a).1 * (arg F b).1) ((arg F a).1 * (arg F b).2) ((arg F a).2 * (arg F b).1) ((arg F a).2 * (arg F b).2)) k) (afr F f k)
/-- a divisor is not 0 -/
noncomputable def anz (F : aF) (b : aI) : Bool := ile 1 (arg F b).1 || ile (arg F b).2 (-1)
noncomputable def arm (f : aB) (F : aF) (a b : aI) (k : aF → aI → Bool) : Bool := cond (ile 1 (arg F b).1) (cond (ile 0 (arg F a).1) (afr F (0, imin (arg F a).2 ((arg F b).2 - 1)) k) (afr F (- ((arg F b).2 - 1), (arg F b).2 - 1) k)) (afr F f k)
/-- both are not below 0: an and is at most each -/
noncomputable def aan (f : aB) (F : aF) (a b : aI) (k : aF → aI → Bool) : Bool := cond (ile 0 (arg F b).1 && ile (arg F b).2 2147483647) (afr F (0, (arg F b).2) k) (afr F f k)
noncomputable def aget (L : aL) (i : Nat) (k : aV → Bool) : Bool := List.rec false (fun q _ ih => cond (Nat.beq q.1 i) (k q.2) ih) L
def acat (v : aV) : Nat := match v with
  | .inr (.inl _) => 2
  | _ => 1
noncomputable def acats (S : List aV) : Nat := List.rec 0 (fun v _ ih => Nat.add (acat v) ih) S
def aP1 (a : Nat) (q : Nat × aV) : Bool := !Nat.beq q.1 a
def aP2 (a : Nat) (q : Nat × aV) : Bool := !(Nat.beq q.1 a || Nat.beq q.1 (Nat.succ a))
/-- no long begins one ahead of a -/
noncomputable def anl (L : aL) (a : Nat) : Bool := List.rec true (fun q _ ih => cond (Nat.beq (Nat.succ q.1) a) (Nat.beq (acat q.2) 1) ih) L
noncomputable def afil {α : Type} (P : α → Bool) (L : List α) : List α := List.rec [] (fun q _ ih => cond (P q) (q :: ih) ih) L
noncomputable def aall {α : Type} (P : α → Bool) (L : List α) : Bool := List.rec true (fun q _ ih => cond (P q) ih false) L
noncomputable def atake : Nat → List aV → List aV → (List aV → List aV → Bool) → Bool := fun n => Nat.rec (fun S acc k => k acc S) (fun _ ih S acc k => List.rec false (fun v t _ => ih t (v :: acc) k) S) n
noncomputable def aat {α : Type} (l : List α) : Nat → (α → Bool) → Bool := List.rec (fun _ _ => false) (fun a _ ih n k => Nat.rec (k a) (fun m _ => ih m k) n) l
noncomputable def aolk (O : aO) (c f : Nat) (k : aI → Bool) (d : Bool) : Bool := List.rec d (fun q _ ih => cond (Nat.beq q.1.1 c && Nat.beq q.1.2 f) (k q.2) ih) O
noncomputable def aalk (A : aA) (c : Nat) (k : aB → Bool) (d : Bool) : Bool := List.rec d (fun q _ ih => cond (Nat.beq q.1 c) (k q.2) ih) A
/-- the invariant's bounds of a slot -/
noncomputable def agb (gt : aG) (c i : Nat) (k : List aB → Bool) : Bool := aat gt c (fun x => match x with
  | .inl l => aat l i k
  | .inr _ => false)
noncomputable def aos (O : aO) (c f : Nat) (v : aI) : aO := ((c, f), v) :: afil (fun q => !(Nat.beq q.1.1 c && Nat.beq q.1.2 f)) O
noncomputable def aas0 (A : aA) (c : Nat) (b : aB) : aA := (c, b) :: afil (fun q => !Nat.beq q.1 c) A
/-- a slot of kind k, read as a value -/
def akd (k : Nat) (v : aI) (g : aV → Bool) : Bool := cond (Nat.beq k 3) (g (.inr (.inl v))) (cond (Nat.beq k 4) (match v.1 with
  | none => cond (ile 0 v.2) (g (.inr (.inr v.2.toNat))) false
  | some _ => false) (g (.inl v)))
/-- a field is read: known, or anything within the invariant -/
noncomputable def ard (gt : aG) (c f k : Nat) (F : aF) (O : aO) (g : aV → aF → aO → Bool) : Bool := aolk O c f (fun v => akd k v (fun u => g u F O)) (agb gt c f (fun bs => aall (fun q => afr F q (fun F1 v => akd k v (fun u => g u F1 (((c, f), v) :: O)))) bs))
noncomputable def amf (m : aM) (c f : Nat) : Bool := List.rec false (fun q _ ih => cond (Nat.beq q.1 c && Nat.beq q.2 f) true ih) m.1
noncomputable def ama (m : aM) (c : Nat) : Bool := List.rec false (fun q _ ih => cond (Nat.beq q c) true ih) m.2
/-- what is known lies in the invariant -/
noncomputable def aokO (gt : aG) (F : aF) (O : aO) : Bool := aall (fun q => agb gt q.1.1 q.1.2 (fun bs => List.rec false (fun b _ ih => cond (ain b (arg F q.2)) true ih) bs)) O
noncomputable def aokA (gt : aG) (A : aA) : Bool := aall (fun q => aat gt q.1 (fun x => match x with
  | .inl _ => false
  | .inr b => ain b q.2)) A
