/-! THE EXECUTOR: bytecode over a world of cells that is a list; closed runs are decided by the kernel.
An int is a number below 2^32, or a script's int with operations behind it. A long is a number below 2^64, or a script's int widened. A reference is null, a place of the world, or a constant (0 the script, 1 a text, 2 its bytes). -/
abbrev rx_I : Type := Nat ⊕ (Nat × List (Nat × Nat))
abbrev rx_V : Type := rx_I ⊕ ((Nat ⊕ Nat) ⊕ (Option Nat ⊕ Nat))
/-- a cell: an object (class, fields), or an array (0 int, 1 byte, 2 boolean, 3 long, 4 references; length; what was written) -/
abbrev rx_C : Type := (Nat × List rx_V) ⊕ (Nat × Nat × List (Nat × rx_V))
/-- bounds of script ints, by their keys -/
abbrev rx_F : Type := List ((Nat × List (Nat × Nat)) × Nat × Nat)
/-- a row of code: pc, instruction, its length, three numbers, places of words -/
abbrev rx_E : Type := Nat × Jvm.ClassFile.Instr × Nat × Nat × Nat × Nat × List Nat
abbrev rx_L : Type := List (Nat × rx_V)
abbrev rx_R : Type := List rx_E × rx_L × List rx_V × List rx_C × Nat × Nat
abbrev rx_K : Type := List rx_E → rx_L → List rx_V → List rx_C → Nat → Nat → Option rx_R
noncomputable def rx_fN {α : Type} (n : Nat) (k : Nat → α) : α := Nat.rec (k 0) (fun m _ => k (Nat.succ m)) n
theorem rx_fN_eq {α : Type} (n : Nat) (k : Nat → α) : rx_fN n k = k n := by cases n <;> rfl
noncomputable def rx_get {α : Type} (L : rx_L) (i : Nat) (k : rx_V → Option α) : Option α := List.rec none (fun q _ ih => cond (Nat.beq q.1 i) (k q.2) ih) L
theorem rx_get_ok {α : Type} {L : rx_L} {i : Nat} {k : rx_V → Option α} {r : α} (h : rx_get L i k = some r) : ∃ v, (i, v) ∈ L ∧ k v = some r := by
  induction L with
  | nil => cases h
  | cons q t ih =>
    change cond (Nat.beq q.1 i) (k q.2) (rx_get t i k) = some r at h
    cases hq : Nat.beq q.1 i with
    | true =>
      rw [hq] at h
      have e : q.1 = i := Nat.eq_of_beq_eq_true hq
      exact ⟨q.2, by rw [← e]; exact List.mem_cons_self, h⟩
    | false =>
      rw [hq] at h
      obtain ⟨v, h1, h2⟩ := ih h
      exact ⟨v, List.mem_cons_of_mem _ h1, h2⟩
noncomputable def rx_at {α β : Type} (l : List α) : Nat → (α → Option β) → Option β := List.rec (fun _ _ => none) (fun a _ ih n k => Nat.rec (k a) (fun m _ => ih m k) n) l
theorem rx_at_ok {α β : Type} {l : List α} : ∀ {n : Nat} {k : α → Option β} {r : β}, rx_at l n k = some r → ∃ x, l[n]? = some x ∧ k x = some r := by
  induction l with
  | nil => intro n k r h; cases h
  | cons a t ih =>
    intro n k r h
    cases n with
    | zero => exact ⟨a, rfl, h⟩
    | succ m =>
      obtain ⟨x, h1, h2⟩ := ih (n := m) h
      exact ⟨x, by simpa using h1, h2⟩
noncomputable def rx_set {α β : Type} (l : List α) : Nat → α → (List α → Option β) → Option β := List.rec (fun _ _ _ => none) (fun a t ih n v k => Nat.rec (k (v :: t)) (fun m _ => ih m v (fun t' => k (a :: t'))) n) l
theorem rx_set_ok {α β : Type} {l : List α} : ∀ {n : Nat} {v : α} {k : List α → Option β} {r : β}, rx_set l n v k = some r → k (l.set n v) = some r := by
  induction l with
  | nil => intro n v k r h; cases h
  | cons a t ih =>
    intro n v k r h
    cases n with
    | zero => exact h
    | succ m => exact ih (n := m) (k := fun t' => k (a :: t')) h
noncomputable def rx_snoc {α β : Type} (l : List α) (v : α) : Nat → (List α → Nat → β) → β := List.rec (fun n k => k [v] n) (fun a _ ih n k => ih (Nat.succ n) (fun t' m => k (a :: t') m)) l
theorem rx_snoc_eq {α β : Type} (l : List α) (v : α) : ∀ (n : Nat) (k : List α → Nat → β), rx_snoc l v n k = k (l ++ [v]) (n + l.length) := by
  induction l with
  | nil => intro n k; rfl
  | cons a t ih =>
    intro n k
    refine (ih (Nat.succ n) (fun t' m => k (a :: t') m)).trans ?_
    show k (a :: (t ++ [v])) (Nat.succ n + t.length) = k (a :: (t ++ [v])) (n + (t.length + 1))
    rw [show Nat.succ n + t.length = n + (t.length + 1) by omega]
noncomputable def rx_rem {β : Type} (P : Nat → rx_V → Bool) (L : rx_L) : (rx_L → β) → β := List.rec (fun k => k []) (fun q _ ih k => cond (P q.1 q.2) (ih k) (ih (fun t' => k (q :: t')))) L
theorem rx_rem_eq {β : Type} (P : Nat → rx_V → Bool) (L : rx_L) : ∀ k : rx_L → β, rx_rem P L k = k (L.filter (fun q => !P q.1 q.2)) := by
  induction L with
  | nil => intro k; rfl
  | cons q t ih =>
    intro k
    change cond (P q.1 q.2) (rx_rem P t k) (rx_rem P t (fun t' => k (q :: t'))) = _
    cases hq : P q.1 q.2 with
    | true => simp [hq, ih]
    | false => simp [hq, ih]
noncomputable def rx_lk (l : List (Nat × rx_V)) (j : Nat) (d : rx_V) : rx_V := List.rec d (fun q _ ih => cond (Nat.beq q.1 j) q.2 ih) l
noncomputable def rx_find (cd : List rx_E) (tgt : Nat) : List rx_E := List.rec [] (fun e t ih => cond (Nat.beq e.1 tgt) (e :: t) ih) cd
noncomputable def rx_take {β : Type} : Nat → List rx_V → List rx_V → (List rx_V → List rx_V → Option β) → Option β := fun n => Nat.rec (fun S acc k => k acc S) (fun _ ih S acc k => List.rec none (fun v t _ => ih t (v :: acc) k) S) n
theorem rx_take_ok {β : Type} : ∀ {n : Nat} {S acc : List rx_V} {k : List rx_V → List rx_V → Option β} {r : β}, rx_take n S acc k = some r → ∃ as S', S = as.reverse ++ S' ∧ as.length = n ∧ k (as ++ acc) S' = some r := by
  intro n
  induction n with
  | zero => intro S acc k r h; exact ⟨[], S, rfl, rfl, h⟩
  | succ n ih =>
    intro S acc k r h
    cases S with
    | nil => cases h
    | cons v t =>
      obtain ⟨as, S', h1, h2, h3⟩ := ih (S := t) (acc := v :: acc) h
      refine ⟨as ++ [v], S', ?_, ?_, ?_⟩
      · simp [h1]
      · simp [h2]
      · simpa using h3
def rx_cat (v : rx_V) : Nat := match v with
  | .inr (.inl _) => 2
  | _ => 1
noncomputable def rx_cats (S : List rx_V) : Nat := List.rec 0 (fun v _ ih => Nat.add (rx_cat v) ih) S
noncomputable def rx_fact (F : rx_F) (u : Nat × List (Nat × Nat)) : Nat × Nat := List.rec (0, 4294967295) (fun q _ ih => cond (decide (q.1 = u)) q.2 ih) F
noncomputable def rx_iv (F : rx_F) (x : rx_I) : Nat × Nat := match x with
  | .inl n => ((n + 2147483648) % 4294967296, (n + 2147483648) % 4294967296)
  | .inr u => rx_fact F u
noncomputable def rx_lt? (F : rx_F) (x y : rx_I) : Option Bool := cond (Nat.blt (rx_iv F x).2 (rx_iv F y).1) (some true) (cond (Nat.ble (rx_iv F y).2 (rx_iv F x).1) (some false) none)
noncomputable def rx_eq? (F : rx_F) (x y : rx_I) : Option Bool := cond (Nat.blt (rx_iv F x).2 (rx_iv F y).1) (some false) (cond (Nat.blt (rx_iv F y).2 (rx_iv F x).1) (some false) (cond (Nat.beq (rx_iv F x).1 (rx_iv F x).2 && (Nat.beq (rx_iv F y).1 (rx_iv F y).2 && Nat.beq (rx_iv F x).1 (rx_iv F y).1)) (some true) none))
/-- a script's int, or the number that its bounds make it -/
noncomputable def rx_nm (F : rx_F) (u : Nat × List (Nat × Nat)) : rx_I := cond (Nat.beq (rx_fact F u).1 (rx_fact F u).2 && Nat.blt (rx_fact F u).1 4294967296) (.inl (((rx_fact F u).1 + 2147483648) % 4294967296)) (.inr u)
noncomputable def rx_br {β : Type} (o : Option Bool) (t f : Option β) : Option β := match o with
  | some true => t
  | some false => f
  | none => none
noncomputable def rx_cmp {β : Type} (F : rx_F) (c : Jvm.ClassFile.Cond) (x y : rx_I) (t f : Option β) : Option β := match c with
  | .lt => rx_br (rx_lt? F x y) t f
  | .ge => rx_br (rx_lt? F x y) f t
  | .gt => rx_br (rx_lt? F y x) t f
  | .le => rx_br (rx_lt? F y x) f t
  | .eq => rx_br (rx_eq? F x y) t f
  | .ne => rx_br (rx_eq? F x y) f t
-- the instructions by kinds
noncomputable def rx_ld (q : Nat) (K : rx_K) (rest : List rx_E) (a : Nat) (L : rx_L) (S : List rx_V) (w : List rx_C) (cc ss : Nat) : Option rx_R := rx_get L a (fun v => match v with
  | .inl _ => cond (Nat.beq q 0) (K rest L (v :: S) w cc ss) none
  | .inr (.inl _) => cond (Nat.beq q 1) (K rest L (v :: S) w cc ss) none
  | .inr (.inr (.inl none)) => none
  | .inr (.inr _) => cond (Nat.beq q 2) (K rest L (v :: S) w cc ss) none)
def rx_P1 (a : Nat) (j : Nat) (v : rx_V) : Bool := Nat.beq j a || (Nat.beq (Nat.succ j) a && Nat.beq (rx_cat v) 2)
def rx_P2 (a : Nat) (j : Nat) (v : rx_V) : Bool := Nat.beq j a || (Nat.beq j (Nat.succ a) || (Nat.beq (Nat.succ j) a && Nat.beq (rx_cat v) 2))
noncomputable def rx_st (q nL : Nat) (K : rx_K) (rest : List rx_E) (a : Nat) (L : rx_L) (S : List rx_V) (w : List rx_C) (cc ss : Nat) : Option rx_R := match S with
  | v :: S' => (match v with
    | .inl _ => cond (Nat.beq q 0 && Nat.blt a nL) (rx_rem (rx_P1 a) L (fun L' => K rest ((a, v) :: L') S' w cc ss)) none
    | .inr (.inl _) => cond (Nat.beq q 1 && Nat.blt (Nat.succ a) nL) (rx_rem (rx_P2 a) L (fun L' => K rest ((a, v) :: L') S' w cc ss)) none
    | .inr (.inr (.inl none)) => none
    | .inr (.inr _) => cond (Nat.beq q 2 && Nat.blt a nL) (rx_rem (rx_P1 a) L (fun L' => K rest ((a, v) :: L') S' w cc ss)) none)
  | [] => none
noncomputable def rx_o2 (g : Nat → Nat → Bool) (f : Nat → Nat → Nat) (K : rx_K) (rest : List rx_E) (L : rx_L) (S : List rx_V) (w : List rx_C) (cc ss : Nat) : Option rx_R := match S with
  | .inl (.inl y) :: .inl (.inl x) :: S' => cond (g x y) (rx_fN (f x y) (fun z => K rest L (.inl (.inl z) :: S') w cc ss)) none
  | _ => none
noncomputable def rx_o2u (F : rx_F) (o : Nat) (g : Nat → Nat → Bool) (f : Nat → Nat → Nat) (K : rx_K) (rest : List rx_E) (L : rx_L) (S : List rx_V) (w : List rx_C) (cc ss : Nat) : Option rx_R := match S with
  | .inl (.inl y) :: .inl (.inl x) :: S' => cond (g x y) (rx_fN (f x y) (fun z => K rest L (.inl (.inl z) :: S') w cc ss)) none
  | .inl (.inl y) :: .inl (.inr u) :: S' => K rest L (.inl (rx_nm F (u.1, (o, y) :: u.2)) :: S') w cc ss
  | _ => none
noncomputable def rx_o1 (f : Nat → Nat) (K : rx_K) (rest : List rx_E) (L : rx_L) (S : List rx_V) (w : List rx_C) (cc ss : Nat) : Option rx_R := match S with
  | .inl (.inl x) :: S' => rx_fN (f x) (fun z => K rest L (.inl (.inl z) :: S') w cc ss)
  | _ => none
noncomputable def rx_l2 (g : Nat → Nat → Bool) (f : Nat → Nat → Nat) (K : rx_K) (rest : List rx_E) (L : rx_L) (S : List rx_V) (w : List rx_C) (cc ss : Nat) : Option rx_R := match S with
  | .inr (.inl (.inl y)) :: .inr (.inl (.inl x)) :: S' => cond (g x y) (rx_fN (f x y) (fun z => K rest L (.inr (.inl (.inl z)) :: S') w cc ss)) none
  | _ => none
noncomputable def rx_lsh (g : Nat → Bool) (f : Nat → Nat → Nat) (K : rx_K) (rest : List rx_E) (L : rx_L) (S : List rx_V) (w : List rx_C) (cc ss : Nat) : Option rx_R := match S with
  | .inl (.inl y) :: .inr (.inl (.inl x)) :: S' => cond (g x) (rx_fN (f x y) (fun z => K rest L (.inr (.inl (.inl z)) :: S') w cc ss)) none
  | _ => none
noncomputable def rx_lcmp (K : rx_K) (rest : List rx_E) (L : rx_L) (S : List rx_V) (w : List rx_C) (cc ss : Nat) : Option rx_R := match S with
  | .inr (.inl (.inl y)) :: .inr (.inl (.inl x)) :: S' => K rest L (.inl (.inl (cond (Nat.blt ((x + 9223372036854775808) % 18446744073709551616) ((y + 9223372036854775808) % 18446744073709551616)) 4294967295 (cond (Nat.blt ((y + 9223372036854775808) % 18446744073709551616) ((x + 9223372036854775808) % 18446744073709551616)) 1 0))) :: S') w cc ss
  | _ => none
noncomputable def rx_i2l (K : rx_K) (rest : List rx_E) (L : rx_L) (S : List rx_V) (w : List rx_C) (cc ss : Nat) : Option rx_R := match S with
  | .inl (.inl x) :: S' => cond (Nat.blt x 2147483648) (K rest L (.inr (.inl (.inl x)) :: S') w cc ss) none
  | .inl (.inr (k, [])) :: S' => K rest L (.inr (.inl (.inr k)) :: S') w cc ss
  | _ => none
noncomputable def rx_l2i (K : rx_K) (rest : List rx_E) (L : rx_L) (S : List rx_V) (w : List rx_C) (cc ss : Nat) : Option rx_R := match S with
  | .inr (.inl (.inl x)) :: S' => rx_fN (x % 4294967296) (fun z => K rest L (.inl (.inl z) :: S') w cc ss)
  | _ => none
noncomputable def rx_i2bS (F : rx_F) (K : rx_K) (rest : List rx_E) (L : rx_L) (S : List rx_V) (w : List rx_C) (cc ss : Nat) : Option rx_R := match S with
  | .inl (.inl x) :: S' => rx_fN (cond (Nat.blt (x % 256) 128) (x % 256) (x % 256 + 4294967040)) (fun z => K rest L (.inl (.inl z) :: S') w cc ss)
  | .inl (.inr u) :: S' => K rest L (.inl (rx_nm F (u.1, (2, 0) :: u.2)) :: S') w cc ss
  | _ => none
noncomputable def rx_dup (K : rx_K) (rest : List rx_E) (L : rx_L) (S : List rx_V) (w : List rx_C) (cc ss : Nat) : Option rx_R := match S with
  | v :: S' => cond (Nat.beq (rx_cat v) 1) (K rest L (v :: v :: S') w cc ss) none
  | _ => none
noncomputable def rx_dup2 (K : rx_K) (rest : List rx_E) (L : rx_L) (S : List rx_V) (w : List rx_C) (cc ss : Nat) : Option rx_R := match S with
  | v :: u :: S' => cond (Nat.beq (rx_cat v) 1 && Nat.beq (rx_cat u) 1) (K rest L (v :: u :: v :: u :: S') w cc ss) none
  | _ => none
noncomputable def rx_pop (K : rx_K) (rest : List rx_E) (L : rx_L) (S : List rx_V) (w : List rx_C) (cc ss : Nat) : Option rx_R := match S with
  | v :: S' => cond (Nat.beq (rx_cat v) 1) (K rest L S' w cc ss) none
  | _ => none
noncomputable def rx_ic (F : rx_F) (c : Jvm.ClassFile.Cond) (cd : List rx_E) (K : rx_K) (rest : List rx_E) (a : Nat) (L : rx_L) (S : List rx_V) (w : List rx_C) (cc ss : Nat) : Option rx_R := match S with
  | .inl y :: .inl x :: S' => rx_cmp F c x y (K (rx_find cd a) L S' w cc ss) (K rest L S' w cc ss)
  | _ => none
noncomputable def rx_if (F : rx_F) (c : Jvm.ClassFile.Cond) (cd : List rx_E) (K : rx_K) (rest : List rx_E) (a : Nat) (L : rx_L) (S : List rx_V) (w : List rx_C) (cc ss : Nat) : Option rx_R := match S with
  | .inl x :: S' => rx_cmp F c x (.inl 0) (K (rx_find cd a) L S' w cc ss) (K rest L S' w cc ss)
  | _ => none
noncomputable def rx_sw (F : rx_F) (cd : List rx_E) (K : rx_K) (a b c : Nat) (t : List Nat) (L : rx_L) (S : List rx_V) (w : List rx_C) (cc ss : Nat) : Option rx_R := match S with
  | .inl x :: S' => cond (Nat.blt (rx_iv F x).2 b || Nat.blt c (rx_iv F x).1) (K (rx_find cd a) L S' w cc ss) (cond (Nat.beq (rx_iv F x).1 (rx_iv F x).2) (rx_at t ((rx_iv F x).1 - b) (fun g => K (rx_find cd g) L S' w cc ss)) none)
  | _ => none
noncomputable def rx_gf (K : rx_K) (rest : List rx_E) (a b c : Nat) (L : rx_L) (S : List rx_V) (w : List rx_C) (cc ss : Nat) : Option rx_R := match S with
  | .inr (.inr (.inl (some k))) :: S' => cond (Nat.ble c 1) (rx_at w k (fun x => match x with
    | .inl o => cond (Nat.beq o.1 a) (rx_at o.2 b (fun v => K rest L (v :: S') w cc ss)) none
    | .inr _ => none)) none
  | .inr (.inr (.inr k)) :: S' => cond (Nat.beq k 1) (cond (Nat.beq c 2) (K rest L (.inr (.inr (.inr 2)) :: S') w cc ss) (cond (Nat.beq c 3) (K rest L (.inl (.inl 0) :: S') w cc ss) none)) none
  | _ => none
/-- whether a value may lie in a field or place of a kind: 0 int, 2 boolean, 3 long, 4 a reference -/
def rx_fit (q : Nat) (v : rx_V) : Bool := match v with
  | .inl (.inl n) => Nat.beq q 0 || (Nat.beq q 2 && Nat.ble n 1)
  | .inl (.inr _) => Nat.beq q 0
  | .inr (.inl _) => Nat.beq q 3
  | .inr (.inr _) => Nat.beq q 4
noncomputable def rx_pf (K : rx_K) (rest : List rx_E) (a b c : Nat) (L : rx_L) (S : List rx_V) (w : List rx_C) (cc ss : Nat) : Option rx_R := match S with
  | v :: .inr (.inr (.inl (some k))) :: S' => cond (rx_fit c v) (rx_at w k (fun x => match x with
    | .inl o => cond (Nat.beq o.1 a) (rx_set o.2 b v (fun fs => rx_set w k (.inl (o.1, fs)) (fun w' => K rest L S' w' cc ss))) none
    | .inr _ => none)) none
  | _ => none
/-- what an array's untouched place holds -/
def rx_df (t : Nat) : rx_V := match t with
  | 3 => .inr (.inl (.inl 0))
  | 4 => .inr (.inr (.inl none))
  | _ => .inl (.inl 0)
def rx_isK (q : Nat) (v : rx_V) : Bool := match v with
  | .inl _ => Nat.beq q 0 || Nat.beq q 1
  | .inr (.inl _) => Nat.beq q 3
  | .inr (.inr (.inl _)) => Nat.beq q 4
  | .inr (.inr (.inr _)) => false
noncomputable def rx_al (F : rx_F) (sl : Nat) (txt : List Nat) (q : Nat) (K : rx_K) (rest : List rx_E) (L : rx_L) (S : List rx_V) (w : List rx_C) (cc ss : Nat) : Option rx_R := match S with
  | .inl (.inl j) :: .inr (.inr (.inl (some k))) :: S' => rx_at w k (fun x => match x with
    | .inr (t, n, u) => cond (Nat.blt j n && (Nat.blt n 2147483648 && (Nat.beq t q || (Nat.beq q 1 && Nat.beq t 2)))) (cond (rx_isK q (rx_lk u j (rx_df t))) (K rest L (rx_lk u j (rx_df t) :: S') w cc ss) none) none
    | .inl _ => none)
  | .inl (.inl j) :: .inr (.inr (.inr k)) :: S' => cond (Nat.beq k 0) (cond (Nat.blt (Nat.succ j) sl && (Nat.blt sl 2147483648 && Nat.beq q 0)) (K rest L (.inl (rx_nm F (j, [])) :: S') w cc ss) none) (cond (Nat.beq k 2 && Nat.beq q 1) (rx_at txt j (fun z => K rest L (.inl (.inl z) :: S') w cc ss)) none)
  | _ => none
/-- what an array keeps of a value -/
def rx_nar (t : Nat) (v : rx_V) : rx_V := match t with
  | 1 => (match v with
    | .inl (.inl x) => .inl (.inl (cond (Nat.blt (x % 256) 128) (x % 256) (x % 256 + 4294967040)))
    | .inl (.inr u) => .inl (.inr (u.1, (2, 0) :: u.2))
    | y => y)
  | _ => v
noncomputable def rx_as (q : Nat) (K : rx_K) (rest : List rx_E) (L : rx_L) (S : List rx_V) (w : List rx_C) (cc ss : Nat) : Option rx_R := match S with
  | v :: .inl (.inl j) :: .inr (.inr (.inl (some k))) :: S' => rx_at w k (fun x => match x with
    | .inr (t, n, u) => cond (Nat.blt j n && (Nat.blt n 2147483648 && ((Nat.beq t q || (Nat.beq q 1 && Nat.beq t 2)) && rx_fit (cond (Nat.beq t 1) 0 t) v))) (rx_rem (fun i _ => Nat.beq i j) u (fun u' => rx_set w k (.inr (t, n, (j, rx_nar t v) :: u')) (fun w' => K rest L S' w' cc ss))) none
    | .inl _ => none)
  | _ => none
/-- a reference into an array of references: the object's class is looked at -/
noncomputable def rx_aq (a : Nat) (K : rx_K) (rest : List rx_E) (L : rx_L) (S : List rx_V) (w : List rx_C) (cc ss : Nat) : Option rx_R := match S with
  | .inr (.inr (.inl (some y))) :: _ => rx_at w y (fun x => match x with
    | .inl o => cond (Nat.beq o.1 a) (rx_as 4 K rest L S w cc ss) none
    | .inr _ => none)
  | _ => none
noncomputable def rx_len (sl tl : Nat) (K : rx_K) (rest : List rx_E) (L : rx_L) (S : List rx_V) (w : List rx_C) (cc ss : Nat) : Option rx_R := match S with
  | .inr (.inr (.inl (some k))) :: S' => rx_at w k (fun x => match x with
    | .inr (t, n, _) => cond (Nat.blt t 5) (K rest L (.inl (.inl n) :: S') w cc ss) none
    | .inl _ => none)
  | .inr (.inr (.inr k)) :: S' => cond (Nat.beq k 0) (cond (Nat.blt 0 sl) (K rest L (.inl (.inl (sl - 1)) :: S') w cc ss) none) (cond (Nat.beq k 2) (K rest L (.inl (.inl tl) :: S') w cc ss) none)
  | _ => none
noncomputable def rx_na (al : Bool) (mc ms t : Nat) (K : rx_K) (rest : List rx_E) (L : rx_L) (S : List rx_V) (w : List rx_C) (cc ss : Nat) : Option rx_R := match S with
  | .inl (.inl n) :: S' => cond (al && (Nat.ble n 67108864 && (Nat.ble (Nat.succ cc) mc && Nat.ble (ss + n) ms))) (rx_snoc w (.inr (t, n, [])) 0 (fun w' k => K rest L (.inr (.inr (.inl (some k))) :: S') w' (Nat.succ cc) (ss + n))) none
  | _ => none
noncomputable def rx_nw (al : Bool) (mc ms a b : Nat) (df : List rx_V) (K : rx_K) (rest : List rx_E) (L : rx_L) (S : List rx_V) (w : List rx_C) (cc ss : Nat) : Option rx_R := cond (al && (Nat.ble (Nat.succ cc) mc && Nat.ble (ss + b) ms)) (rx_snoc w (.inl (a, df)) 0 (fun w' k => K rest L (.inr (.inr (.inl (some k))) :: S) w' (Nat.succ cc) (ss + b))) none
noncomputable def rx_cpl (u : List (Nat × rx_V)) (sp dp : Nat) (tl : List (Nat × rx_V)) (n : Nat) : List (Nat × rx_V) := Nat.rec tl (fun m ih => (dp + m, rx_lk u (sp + m) (.inl (.inl 0))) :: ih) n
noncomputable def rx_cpy (K : rx_K) (rest : List rx_E) (L : rx_L) (S : List rx_V) (w : List rx_C) (cc ss : Nat) : Option rx_R := match S with
  | .inl (.inl n) :: .inl (.inl dp) :: .inr (.inr (.inl (some k1))) :: .inl (.inl sp) :: .inr (.inr (.inl (some k0))) :: S' => cond (Nat.ble (rx_cats S') 8) (rx_at w k0 (fun x => match x with
    | .inr (t0, n0, u0) => rx_at w k1 (fun y => match y with
      | .inr (t1, n1, u1) => cond (Nat.beq t0 0 && (Nat.beq t1 0 && (Nat.ble (sp + n) n0 && (Nat.ble (dp + n) n1 && (Nat.blt n0 2147483648 && Nat.blt n1 2147483648))))) (rx_set w k1 (.inr (t1, n1, rx_cpl u0 sp dp u1 n)) (fun w' => K rest L S' w' cc ss)) none
      | .inl _ => none)
    | .inl _ => none)) none
  | _ => none
/-- a call; q: 0 a method without a receiver in the world (static, constructor), 1 the receiver is an object of class a, 2 it is the text -/
noncomputable def rx_inv (al : Bool) (mc ms : Nat) (cap : Nat → Nat × Nat) (ex : Nat → List rx_V → List rx_C → Option (Option rx_V × List rx_C)) (K : rx_K) (rest : List rx_E) (nu n q a : Nat) (L : rx_L) (S : List rx_V) (w : List rx_C) (cc ss : Nat) : Option rx_R :=
  rx_take n S [] (fun as S' => cond (Nat.ble (rx_cats S') 8 && (Nat.ble (cc + (cap nu).1) mc && Nat.ble (ss + (cap nu).2) ms)) (match ex nu as w with
    | some (r, w') => (match q, as with
      | 0, _ => K rest L (match r with | some v => v :: S' | none => S') w' (cc + (cap nu).1) (ss + (cap nu).2)
      | 1, .inr (.inr (.inl (some k))) :: _ => rx_at w k (fun x => match x with
        | .inl o => cond (Nat.beq o.1 a) (K rest L (match r with | some v => v :: S' | none => S') w' (cc + (cap nu).1) (ss + (cap nu).2)) none
        | .inr _ => none)
      | 2, .inr (.inr (.inr k)) :: _ => cond (Nat.beq k 1) (K rest L (match r with | some v => v :: S' | none => S') w' (cc + (cap nu).1) (ss + (cap nu).2)) none
      | _, _ => none)
    | none => none) none)
noncomputable def rx_oi (K : rx_K) (rest : List rx_E) (L : rx_L) (S : List rx_V) (w : List rx_C) (cc ss : Nat) : Option rx_R := match S with
  | .inr (.inr (.inl (some _))) :: S' => cond (Nat.ble (rx_cats S') 8) (K rest L S' w cc ss) none
  | _ => none
noncomputable def rx_ii (nL : Nat) (K : rx_K) (rest : List rx_E) (a b : Nat) (L : rx_L) (S : List rx_V) (w : List rx_C) (cc ss : Nat) : Option rx_R := rx_get L a (fun v => match v with
  | .inl (.inl n) => cond (Nat.blt a nL) (rx_fN ((n + b) % 4294967296) (fun z => rx_rem (rx_P1 a) L (fun L' => K rest ((a, .inl (.inl z)) :: L') S w cc ss))) none
  | _ => none)
