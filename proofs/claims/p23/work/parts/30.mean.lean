/-! WHAT IT MEANS. X: the script's ints, the first cell's address, the constants' addresses (0 the script, 1 the text, 2 its bytes, 3 a formatter or null), the array classes -/
abbrev rx_X : Type := (Nat → Int32) × Nat × (Nat → Option Nat) × (Nat → ClassId)
def rx_op (o : Nat) (x y : Int32) : Int32 := match o with
  | 0 => x &&& y
  | 1 => x >>> (y &&& 31)
  | 2 => x.toInt8.toInt32
  | _ => x
def rx_U (X : rx_X) (k : Nat) : List (Nat × Nat) → Int32
  | [] => X.1 k
  | q :: l => rx_op q.1 (rx_U X k l) (nI q.2)
def rx_N (X : rx_X) (x : rx_I) : Int32 := match x with
  | .inl n => nI n
  | .inr u => rx_U X u.1 u.2
def rx_d (X : rx_X) (v : rx_V) : Value := match v with
  | .inl i => .int (rx_N X i)
  | .inr (.inl (.inl n)) => .long (lN n)
  | .inr (.inl (.inr k)) => .long (X.1 k).toInt64
  | .inr (.inr (.inl none)) => .null
  | .inr (.inr (.inl (some k))) => .ref (X.2.1 + k)
  | .inr (.inr (.inr j)) => va_rf (X.2.2.1 j)
theorem rx_cat_d (X : rx_X) (v : rx_V) : (rx_d X v).category = rx_cat v := by
  rcases v with i | ((n | k) | ((_ | k) | j)) <;> try rfl
  show (va_rf (X.2.2.1 j)).category = 1
  cases X.2.2.1 j <;> rfl
def rx_vi (X : rx_X) (v : rx_V) : Int32 := match v with
  | .inl i => rx_N X i
  | _ => 0
def rx_vl (X : rx_X) (v : rx_V) : Int64 := match v with
  | .inr (.inl (.inl n)) => lN n
  | .inr (.inl (.inr k)) => (X.1 k).toInt64
  | _ => 0
def rx_vr (X : rx_X) (v : rx_V) : Option Nat := match v with
  | .inr (.inr (.inl (some k))) => some (X.2.1 + k)
  | _ => none
noncomputable def rx_ct (X : rx_X) (t : Nat) (u : List (Nat × rx_V)) : (Nat → Int32) ⊕ (Nat → Int64) ⊕ (Nat → UInt32) ⊕ (Nat → UInt64) ⊕ (Nat → Option Nat) := match t with
  | 3 => .inr (.inl (fun j => rx_vl X (rx_lk u j (rx_df 3))))
  | 4 => .inr (.inr (.inr (.inr (fun j => rx_vr X (rx_lk u j (rx_df 4))))))
  | _ => .inl (fun j => rx_vi X (rx_lk u j (rx_df 0)))
noncomputable def rx_ce (X : rx_X) (c : rx_C) : va_E := match c with
  | .inl o => .inr (o.1, o.2.map (rx_d X))
  | .inr a => .inl (X.2.2.2 a.1, a.2.1, rx_ct X a.1 a.2.2)
noncomputable def rx_w (X : rx_X) : Nat → List rx_C → va_W
  | _, [] => []
  | k, c :: t => (X.2.1 + k, rx_ce X c) :: rx_w X (k + 1) t
theorem rx_w_at (X : rx_X) : ∀ (w : List rx_C) (k i : Nat), (rx_w X k w)[i]? = (w[i]?).map (fun c => (X.2.1 + (k + i), rx_ce X c)) := by
  intro w
  induction w with
  | nil => intro k i; simp [rx_w]
  | cons c t ih =>
    intro k i
    cases i with
    | zero => simp [rx_w]
    | succ i =>
      simp only [rx_w, List.getElem?_cons_succ, ih]
      rw [show k + 1 + i = k + (i + 1) by omega]
theorem rx_w_get {X : rx_X} {w : List rx_C} {i : Nat} {c : rx_C} (h : w[i]? = some c) : (rx_w X 0 w)[i]? = some (X.2.1 + i, rx_ce X c) := by
  rw [rx_w_at, h, Option.map_some, Nat.zero_add]
theorem rx_w_set (X : rx_X) (c : rx_C) : ∀ (w : List rx_C) (k i : Nat), (rx_w X k w).set i (X.2.1 + (k + i), rx_ce X c) = rx_w X k (w.set i c) := by
  intro w
  induction w with
  | nil => intro k i; simp [rx_w]
  | cons d t ih =>
    intro k i
    cases i with
    | zero => simp [rx_w]
    | succ i =>
      simp only [rx_w, List.set_cons_succ]
      rw [← ih (k + 1) i, show k + 1 + i = k + (i + 1) by omega]
theorem rx_w_set0 {X : rx_X} {c : rx_C} {w : List rx_C} {i : Nat} : (rx_w X 0 w).set i (X.2.1 + i, rx_ce X c) = rx_w X 0 (w.set i c) := by
  have h := rx_w_set X c w 0 i
  rw [Nat.zero_add] at h
  exact h
theorem rx_w_app (X : rx_X) (c : rx_C) : ∀ (w : List rx_C) (k : Nat), rx_w X k (w ++ [c]) = rx_w X k w ++ [(X.2.1 + (k + w.length), rx_ce X c)] := by
  intro w
  induction w with
  | nil => intro k; simp [rx_w]
  | cons d t ih =>
    intro k
    simp only [rx_w, List.cons_append, ih, List.length_cons]
    rw [show k + 1 + t.length = k + (t.length + 1) by omega]
theorem rx_w_D (X : rx_X) (w : List rx_C) : va_D (fun q => X.2.1 ≤ q) (rx_w X 0 w) := by
  refine ⟨fun i j p q hi hj e => ?_, fun k q hk => ?_⟩
  · rw [rx_w_at] at hi hj
    cases h1 : w[i]? with
    | none => rw [h1] at hi; cases hi
    | some c =>
      cases h2 : w[j]? with
      | none => rw [h2] at hj; cases hj
      | some d =>
        rw [h1] at hi
        rw [h2] at hj
        cases hi
        cases hj
        simp only at e
        omega
  · rw [rx_w_at] at hk
    cases h1 : w[k]? with
    | none => rw [h1] at hk; cases hk
    | some c =>
      rw [h1] at hk
      cases hk
      exact Nat.le_add_right _ _
-- small things of Bool and Nat
theorem rx_c {α : Type} {b : Bool} {x : Option α} {r : α} (h : cond b x none = some r) : b = true ∧ x = some r := by
  cases b
  · cases h
  · exact ⟨rfl, h⟩
theorem rx_bq {a b : Nat} (h : Nat.beq a b = true) : a = b := Nat.eq_of_beq_eq_true h
theorem rx_bl {a b : Nat} (h : Nat.ble a b = true) : a ≤ b := Nat.le_of_ble_eq_true h
theorem rx_bt {a b : Nat} (h : Nat.blt a b = true) : a < b := Nat.le_of_ble_eq_true h
theorem rx_an {a b : Bool} (h : (a && b) = true) : a = true ∧ b = true := by simpa using h
theorem rx_bF {a b : Nat} (h : Nat.ble a b = false) : b < a := by
  rcases Nat.lt_or_ge b a with q | q
  · exact q
  · rw [Nat.ble_eq_true_of_le q] at h; cases h
-- facts of the script's ints
def rx_fok (X : rx_X) (F : rx_F) : Prop := ∀ q ∈ F, q.2.1 ≤ rx_b (rx_U X q.1.1 q.1.2) ∧ rx_b (rx_U X q.1.1 q.1.2) ≤ q.2.2
theorem rx_fact_ok {X : rx_X} {F : rx_F} (h : rx_fok X F) (u : Nat × List (Nat × Nat)) : (rx_fact F u).1 ≤ rx_b (rx_U X u.1 u.2) ∧ rx_b (rx_U X u.1 u.2) ≤ (rx_fact F u).2 := by
  induction F with
  | nil =>
    have h1 := rx_b_lt (rx_U X u.1 u.2)
    exact ⟨Nat.zero_le _, by show _ ≤ 4294967295; omega⟩
  | cons q t ih =>
    have ht : rx_fok X t := fun z hz => h z (List.mem_cons_of_mem _ hz)
    change (cond (decide (q.1 = u)) q.2 (rx_fact t u)).1 ≤ _ ∧ _ ≤ (cond (decide (q.1 = u)) q.2 (rx_fact t u)).2
    by_cases e : q.1 = u
    · rw [decide_eq_true e]
      have h1 := h q List.mem_cons_self
      rw [e] at h1
      exact h1
    · rw [decide_eq_false e]
      exact ih ht
theorem rx_iv_ok {X : rx_X} {F : rx_F} (h : rx_fok X F) (x : rx_I) : (rx_iv F x).1 ≤ rx_b (rx_N X x) ∧ rx_b (rx_N X x) ≤ (rx_iv F x).2 := by
  rcases x with n | u
  · have h1 := rx_b_nI n
    exact ⟨Nat.le_of_eq h1.symm, Nat.le_of_eq h1⟩
  · exact rx_fact_ok h u
theorem rx_lt_ok {X : rx_X} {F : rx_F} (h : rx_fok X F) {x y : rx_I} {b : Bool} (e : rx_lt? F x y = some b) : (rx_N X x < rx_N X y) ↔ b = true := by
  have h1 := rx_iv_ok h x
  have h2 := rx_iv_ok h y
  rw [rx_lt]
  unfold rx_lt? at e
  cases c1 : Nat.blt (rx_iv F x).2 (rx_iv F y).1 with
  | true =>
    rw [c1] at e
    cases e
    have := rx_bt c1
    exact ⟨fun _ => rfl, fun _ => by omega⟩
  | false =>
    rw [c1] at e
    cases c2 : Nat.ble (rx_iv F y).2 (rx_iv F x).1 with
    | true =>
      rw [c2] at e
      cases e
      have := rx_bl c2
      exact ⟨fun q => by omega, fun q => by cases q⟩
    | false => rw [c2] at e; cases e
theorem rx_eq_ok {X : rx_X} {F : rx_F} (h : rx_fok X F) {x y : rx_I} {b : Bool} (e : rx_eq? F x y = some b) : (rx_N X x = rx_N X y) ↔ b = true := by
  have h1 := rx_iv_ok h x
  have h2 := rx_iv_ok h y
  rw [rx_eq]
  unfold rx_eq? at e
  cases c1 : Nat.blt (rx_iv F x).2 (rx_iv F y).1 with
  | true =>
    rw [c1] at e
    cases e
    have := rx_bt c1
    exact ⟨fun q => by omega, fun q => by cases q⟩
  | false =>
    rw [c1] at e
    cases c2 : Nat.blt (rx_iv F y).2 (rx_iv F x).1 with
    | true =>
      rw [c2] at e
      cases e
      have := rx_bt c2
      exact ⟨fun q => by omega, fun q => by cases q⟩
    | false =>
      rw [c2] at e
      obtain ⟨c3, e⟩ := rx_c e
      cases e
      obtain ⟨g1, c4⟩ := rx_an c3
      obtain ⟨g2, g3⟩ := rx_an c4
      have g1 := rx_bq g1
      have g2 := rx_bq g2
      have g3 := rx_bq g3
      exact ⟨fun _ => rfl, fun _ => by omega⟩
theorem rx_nm_ok {X : rx_X} {F : rx_F} (h : rx_fok X F) (u : Nat × List (Nat × Nat)) : rx_N X (rx_nm F u) = rx_U X u.1 u.2 := by
  have h1 := rx_fact_ok h u
  unfold rx_nm
  cases c1 : (Nat.beq (rx_fact F u).1 (rx_fact F u).2 && Nat.blt (rx_fact F u).1 4294967296) with
  | true =>
    obtain ⟨g1, g2⟩ := rx_an c1
    have g1 := rx_bq g1
    have g2 := rx_bt g2
    show nI (((rx_fact F u).1 + 2147483648) % 4294967296) = _
    rw [rx_eq, rx_b_nI]
    omega
  | false => rfl
theorem rx_cmp_ok {X : rx_X} {F : rx_F} (h : rx_fok X F) {c : Jvm.ClassFile.Cond} {x y : rx_I} {t f : Option rx_R} {r : rx_R} (e : rx_cmp F c x y t f = some r) : match c with
    | .lt => (rx_N X x < rx_N X y ∧ t = some r) ∨ (¬ rx_N X x < rx_N X y ∧ f = some r)
    | .ge => (rx_N X y ≤ rx_N X x ∧ t = some r) ∨ (¬ rx_N X y ≤ rx_N X x ∧ f = some r)
    | .gt => (rx_N X y < rx_N X x ∧ t = some r) ∨ (¬ rx_N X y < rx_N X x ∧ f = some r)
    | .le => (rx_N X x ≤ rx_N X y ∧ t = some r) ∨ (¬ rx_N X x ≤ rx_N X y ∧ f = some r)
    | .eq => (rx_N X x = rx_N X y ∧ t = some r) ∨ (¬ rx_N X x = rx_N X y ∧ f = some r)
    | .ne => (¬ rx_N X x = rx_N X y ∧ t = some r) ∨ (rx_N X x = rx_N X y ∧ f = some r) := by
  have nl : ∀ a b : Int32, ¬ a < b ↔ b ≤ a := fun a b => Int32.not_lt
  cases c <;> (unfold rx_cmp at e; dsimp only at e ⊢)
  · cases q : rx_eq? F x y with
    | none => rw [q] at e; cases e
    | some b => rw [q] at e; have w := rx_eq_ok h q; cases b <;> simp_all [rx_br]
  · cases q : rx_eq? F x y with
    | none => rw [q] at e; cases e
    | some b => rw [q] at e; have w := rx_eq_ok h q; cases b <;> simp_all [rx_br]
  · cases q : rx_lt? F x y with
    | none => rw [q] at e; cases e
    | some b => rw [q] at e; have w := rx_lt_ok h q; cases b <;> simp_all [rx_br]
  · cases q : rx_lt? F x y with
    | none => rw [q] at e; cases e
    | some b => rw [q] at e; have w := rx_lt_ok h q; rw [← nl]; cases b <;> simp_all [rx_br]
  · cases q : rx_lt? F y x with
    | none => rw [q] at e; cases e
    | some b => rw [q] at e; have w := rx_lt_ok h q; cases b <;> simp_all [rx_br]
  · cases q : rx_lt? F y x with
    | none => rw [q] at e; cases e
    | some b => rw [q] at e; have w := rx_lt_ok h q; rw [← nl]; cases b <;> simp_all [rx_br]
