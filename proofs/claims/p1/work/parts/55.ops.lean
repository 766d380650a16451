/-! the frequent instructions, by recursors and the numbers' own operations -/
def rx_adN (x y : Nat) : Nat := Nat.mod (Nat.add x y) (nat_lit 4294967296)
def rx_muN (x y : Nat) : Nat := Nat.mod (Nat.mul x y) (nat_lit 4294967296)
theorem rx_adN_eq : rx_adN = fun x y => (x + y) % 4294967296 := rfl
theorem rx_muN_eq : rx_muN = fun x y => (x * y) % 4294967296 := rfl
noncomputable def rx_o2F (f : Nat → Nat → Nat) (K : rx_K) (rest : List rx_E) (L : rx_L) (S : List rx_V) (w : List rx_C) (cc ss : Nat) : Option rx_R :=
  List.rec none (fun v S1 _ => Sum.rec (fun i => Sum.rec (fun y => List.rec none (fun v2 S2 _ => Sum.rec (fun i2 => Sum.rec (fun x => rx_fN (f x y) (fun z => K rest L (.inl (.inl z) :: S2) w cc ss)) (fun _ => none) i2) (fun _ => none) v2) S1) (fun _ => none) i) (fun _ => none) v) S
theorem rx_o2F_eq (f : Nat → Nat → Nat) (K : rx_K) (rest : List rx_E) (L : rx_L) (S : List rx_V) (w : List rx_C) (cc ss : Nat) : rx_o2F f K rest L S w cc ss = rx_o2 (fun _ _ => true) f K rest L S w cc ss := by
  rcases S with _ | ⟨v, S1⟩
  · rfl
  rcases v with (y | u) | v
  · rcases S1 with _ | ⟨v2, S2⟩
    · rfl
    rcases v2 with (x | u) | v2 <;> rfl
  · rfl
  · rfl
noncomputable def rx_ldF (g : rx_V → Option rx_R → Option rx_R) (K : rx_K) (rest : List rx_E) (a : Nat) (L : rx_L) (S : List rx_V) (w : List rx_C) (cc ss : Nat) : Option rx_R := List.rec none (fun q _ ih => Bool.rec ih (g q.2 (K rest L (q.2 :: S) w cc ss)) (Nat.beq q.1 a)) L
noncomputable def rx_g0 : rx_V → Option rx_R → Option rx_R := fun v r => Sum.rec (fun _ => r) (fun _ => none) v
noncomputable def rx_g2 : rx_V → Option rx_R → Option rx_R := fun v r => Sum.rec (fun _ => none) (fun v' => Sum.rec (fun _ => none) (fun o => Sum.rec (fun o' => Option.rec none (fun _ => r) o') (fun _ => r) o) v') v
theorem rx_ldF0 (K : rx_K) (rest : List rx_E) (a : Nat) (L : rx_L) (S : List rx_V) (w : List rx_C) (cc ss : Nat) : rx_ldF rx_g0 K rest a L S w cc ss = rx_ld 0 K rest a L S w cc ss := by
  have go : ∀ (L0 L1 : rx_L), (List.rec none (fun q _ ih => Bool.rec ih (rx_g0 q.2 (K rest L0 (q.2 :: S) w cc ss)) (Nat.beq q.1 a)) L1 : Option rx_R) = rx_get L1 a (fun v => match v with
      | .inl _ => cond (Nat.beq 0 0) (K rest L0 (v :: S) w cc ss) none
      | .inr (.inl _) => cond (Nat.beq 0 1) (K rest L0 (v :: S) w cc ss) none
      | .inr (.inr (.inl none)) => none
      | .inr (.inr _) => cond (Nat.beq 0 2) (K rest L0 (v :: S) w cc ss) none) := by
    intro L0 L1
    induction L1 with
    | nil => rfl
    | cons q t ih =>
      obtain ⟨j, v⟩ := q
      unfold rx_get at ih ⊢
      dsimp only at ih ⊢
      rw [ih]
      cases Nat.beq j a with
      | false => rfl
      | true => rcases v with i | ((n | n) | ((_ | k) | k)) <;> rfl
  exact go L L
theorem rx_ldF2 (K : rx_K) (rest : List rx_E) (a : Nat) (L : rx_L) (S : List rx_V) (w : List rx_C) (cc ss : Nat) : rx_ldF rx_g2 K rest a L S w cc ss = rx_ld 2 K rest a L S w cc ss := by
  have go : ∀ (L0 L1 : rx_L), (List.rec none (fun q _ ih => Bool.rec ih (rx_g2 q.2 (K rest L0 (q.2 :: S) w cc ss)) (Nat.beq q.1 a)) L1 : Option rx_R) = rx_get L1 a (fun v => match v with
      | .inl _ => cond (Nat.beq 2 0) (K rest L0 (v :: S) w cc ss) none
      | .inr (.inl _) => cond (Nat.beq 2 1) (K rest L0 (v :: S) w cc ss) none
      | .inr (.inr (.inl none)) => none
      | .inr (.inr _) => cond (Nat.beq 2 2) (K rest L0 (v :: S) w cc ss) none) := by
    intro L0 L1
    induction L1 with
    | nil => rfl
    | cons q t ih =>
      obtain ⟨j, v⟩ := q
      unfold rx_get at ih ⊢
      dsimp only at ih ⊢
      rw [ih]
      cases Nat.beq j a with
      | false => rfl
      | true => rcases v with i | ((n | n) | ((_ | k) | k)) <;> rfl
  exact go L L
noncomputable def rx_gfF (K : rx_K) (rest : List rx_E) (a b c : Nat) (L : rx_L) (S : List rx_V) (w : List rx_C) (cc ss : Nat) : Option rx_R :=
  List.rec none (fun v S1 _ => Sum.rec (fun _ => none) (fun v1 => Sum.rec (fun _ => none) (fun r => Sum.rec (fun o => Option.rec none (fun k => Bool.rec none (rx_at w k (fun x => Sum.rec (fun ob => Bool.rec none (rx_at ob.2 b (fun v => K rest L (v :: S1) w cc ss)) (Nat.beq ob.1 a)) (fun _ => none) x)) (Nat.ble c (nat_lit 1))) o)
    (fun k => cond (Nat.beq k 1) (cond (Nat.beq c 2) (K rest L (.inr (.inr (.inr 2)) :: S1) w cc ss) (cond (Nat.beq c 3) (K rest L (.inl (.inl 0) :: S1) w cc ss) none)) none) r) v1) v) S
theorem rx_at_eq {α β : Type} {l : List α} {f g : α → Option β} (h : ∀ x, f x = g x) (n : Nat) : rx_at l n f = rx_at l n g := by rw [show f = g from funext h]
theorem rx_gfF_eq (K : rx_K) (rest : List rx_E) (a b c : Nat) (L : rx_L) (S : List rx_V) (w : List rx_C) (cc ss : Nat) : rx_gfF K rest a b c L S w cc ss = rx_gf K rest a b c L S w cc ss := by
  rcases S with _ | ⟨v, S1⟩
  · rfl
  rcases v with i | ((n | n) | ((_ | k) | k))
  · rfl
  · rfl
  · rfl
  · rfl
  · show Bool.rec none (rx_at w k (fun x => Sum.rec (fun ob => Bool.rec none (rx_at ob.2 b (fun v => K rest L (v :: S1) w cc ss)) (Nat.beq ob.1 a)) (fun _ => none) x)) (Nat.ble c 1) = cond (Nat.ble c 1) (rx_at w k (fun x => match x with
      | .inl o => cond (Nat.beq o.1 a) (rx_at o.2 b (fun v => K rest L (v :: S1) w cc ss)) none
      | .inr _ => none)) none
    cases Nat.ble c 1 with
    | false => rfl
    | true =>
      refine rx_at_eq (fun x => ?_) k
      rcases x with o | o
      · dsimp only
        cases Nat.beq o.1 a <;> rfl
      · rfl
  · rfl
noncomputable def rx_lkC {β : Type} (l : List (Nat × rx_V)) (j : Nat) (d : rx_V) (k : rx_V → β) : β := List.rec (k d) (fun q _ ih => Bool.rec ih (k q.2) (Nat.beq q.1 j)) l
theorem rx_lkC_eq {β : Type} (l : List (Nat × rx_V)) (j : Nat) (d : rx_V) (k : rx_V → β) : rx_lkC l j d k = k (rx_lk l j d) := by
  induction l with
  | nil => rfl
  | cons q t ih =>
    change Bool.rec (rx_lkC t j d k) (k q.2) (Nat.beq q.1 j) = k (cond (Nat.beq q.1 j) q.2 (rx_lk t j d))
    cases Nat.beq q.1 j with
    | false => exact ih
    | true => rfl
noncomputable def rx_alF (F : rx_F) (sl : Nat) (txt : List Nat) (K : rx_K) (rest : List rx_E) (L : rx_L) (S : List rx_V) (w : List rx_C) (cc ss : Nat) : Option rx_R :=
  List.rec none (fun v S1 _ => Sum.rec (fun i => Sum.rec (fun j => List.rec none (fun v2 S2 _ => Sum.rec (fun _ => none) (fun v3 => Sum.rec (fun _ => none) (fun r => Sum.rec (fun o => Option.rec none (fun k =>
      rx_at w k (fun x => Sum.rec (fun _ => none) (fun y => Bool.rec none (Bool.rec none (Bool.rec none (rx_lkC y.2.2 j (rx_df y.1) (fun z => Sum.rec (fun _ => K rest L (z :: S2) w cc ss) (fun _ => none) z)) (Nat.beq y.1 (nat_lit 0))) (Nat.ble (Nat.succ y.2.1) (nat_lit 2147483648))) (Nat.ble (Nat.succ j) y.2.1)) x)) o)
    (fun _ => rx_al F sl txt 0 K rest L S w cc ss) r) v3) v2) S1) (fun _ => none) i) (fun _ => none) v) S
theorem rx_alF_eq (F : rx_F) (sl : Nat) (txt : List Nat) (K : rx_K) (rest : List rx_E) (L : rx_L) (S : List rx_V) (w : List rx_C) (cc ss : Nat) : rx_alF F sl txt K rest L S w cc ss = rx_al F sl txt 0 K rest L S w cc ss := by
  rcases S with _ | ⟨v, S1⟩
  · rfl
  rcases v with (j | u) | v
  · rcases S1 with _ | ⟨v2, S2⟩
    · rfl
    rcases v2 with i | ((n | n) | ((_ | k) | k))
    · rfl
    · rfl
    · rfl
    · rfl
    · refine rx_at_eq (fun x => ?_) k
      rcases x with o | ⟨t, n, u⟩
      · rfl
      · dsimp only
        rw [rx_lkC_eq]
        show Bool.rec none (Bool.rec none (Bool.rec none _ (Nat.beq t 0)) (Nat.blt n 2147483648)) (Nat.blt j n) = cond (Nat.blt j n && (Nat.blt n 2147483648 && (Nat.beq t 0 || (Nat.beq 0 1 && Nat.beq t 2)))) _ none
        cases Nat.blt j n with
        | false => rfl
        | true =>
          cases Nat.blt n 2147483648 with
          | false => rfl
          | true =>
            cases Nat.beq t 0 with
            | false => rfl
            | true =>
              rcases hz : rx_lk u j (rx_df t) with z | z
              · rfl
              · rcases z with (z | z) | ((_ | z) | z) <;> rfl
    · rfl
  · rfl
  · rcases v with (z | z) | ((_ | z) | z) <;> rfl
