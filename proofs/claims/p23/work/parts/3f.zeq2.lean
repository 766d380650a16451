/-! the instructions one by one: branches, fields, arrays -/
theorem zlt_rx (F : rx_F) {x y : Int} (hx : zsI x) (hy : zsI y) : rx_lt? F (.inl (zi x)) (.inl (zi y)) = some (decide (x < y)) := by
  have e : rx_lt? F (.inl (zi x)) (.inl (zi y)) = cond (Nat.blt ((zi x + 2147483648) % 4294967296) ((zi y + 2147483648) % 4294967296)) (some true) (cond (Nat.ble ((zi y + 2147483648) % 4294967296) ((zi x + 2147483648) % 4294967296)) (some false) none) := rfl
  rw [e, zi_bias hx, zi_bias hy, zblt, zble]
  unfold zsI at hx hy
  by_cases h : x < y
  · rw [decide_eq_true h, decide_eq_true (show (x + 2147483648).toNat < (y + 2147483648).toNat by omega)]
    rfl
  · rw [decide_eq_false h, decide_eq_false (show ¬ (x + 2147483648).toNat < (y + 2147483648).toNat by omega), decide_eq_true (show (y + 2147483648).toNat ≤ (x + 2147483648).toNat by omega)]
    rfl
theorem zeq_rx (F : rx_F) {x y : Int} (hx : zsI x) (hy : zsI y) : rx_eq? F (.inl (zi x)) (.inl (zi y)) = some (decide (x = y)) := by
  have e : rx_eq? F (.inl (zi x)) (.inl (zi y)) = cond (Nat.blt ((zi x + 2147483648) % 4294967296) ((zi y + 2147483648) % 4294967296)) (some false) (cond (Nat.blt ((zi y + 2147483648) % 4294967296) ((zi x + 2147483648) % 4294967296)) (some false) (cond (Nat.beq ((zi x + 2147483648) % 4294967296) ((zi x + 2147483648) % 4294967296) && (Nat.beq ((zi y + 2147483648) % 4294967296) ((zi y + 2147483648) % 4294967296) && Nat.beq ((zi x + 2147483648) % 4294967296) ((zi y + 2147483648) % 4294967296))) (some true) none)) := rfl
  rw [e, zi_bias hx, zi_bias hy, zblt, zblt, zbeq, zbeq, zbeq]
  unfold zsI at hx hy
  by_cases h : x = y
  · subst h
    simp
  · rw [decide_eq_false h]
    by_cases h2 : x < y
    · rw [decide_eq_true (show (x + 2147483648).toNat < (y + 2147483648).toNat by omega)]
      rfl
    · rw [decide_eq_false (show ¬ (x + 2147483648).toNat < (y + 2147483648).toNat by omega), decide_eq_true (show (y + 2147483648).toNat < (x + 2147483648).toNat by omega)]
      rfl
theorem zcmp_rx {β : Type} (F : rx_F) (c : Jvm.ClassFile.Cond) {x y : Int} (hx : zsI x) (hy : zsI y) (t f : Option β) : (zcmp c x y → rx_cmp F c (.inl (zi x)) (.inl (zi y)) t f = t) ∧ (¬ zcmp c x y → rx_cmp F c (.inl (zi x)) (.inl (zi y)) t f = f) := by
  cases c
  · show (x = y → rx_br (rx_eq? F (.inl (zi x)) (.inl (zi y))) t f = t) ∧ (¬ x = y → rx_br (rx_eq? F (.inl (zi x)) (.inl (zi y))) t f = f)
    rw [zeq_rx F hx hy]
    exact ⟨fun h => by rw [decide_eq_true h]; rfl, fun h => by rw [decide_eq_false h]; rfl⟩
  · show (¬ x = y → rx_br (rx_eq? F (.inl (zi x)) (.inl (zi y))) f t = t) ∧ (¬ ¬ x = y → rx_br (rx_eq? F (.inl (zi x)) (.inl (zi y))) f t = f)
    rw [zeq_rx F hx hy]
    exact ⟨fun h => by rw [decide_eq_false h]; rfl, fun h => by rw [decide_eq_true (Classical.not_not.mp h)]; rfl⟩
  · show (x < y → rx_br (rx_lt? F (.inl (zi x)) (.inl (zi y))) t f = t) ∧ (¬ x < y → rx_br (rx_lt? F (.inl (zi x)) (.inl (zi y))) t f = f)
    rw [zlt_rx F hx hy]
    exact ⟨fun h => by rw [decide_eq_true h]; rfl, fun h => by rw [decide_eq_false h]; rfl⟩
  · show (y ≤ x → rx_br (rx_lt? F (.inl (zi x)) (.inl (zi y))) f t = t) ∧ (¬ y ≤ x → rx_br (rx_lt? F (.inl (zi x)) (.inl (zi y))) f t = f)
    rw [zlt_rx F hx hy]
    exact ⟨fun h => by rw [decide_eq_false (by omega)]; rfl, fun h => by rw [decide_eq_true (by omega)]; rfl⟩
  · show (y < x → rx_br (rx_lt? F (.inl (zi y)) (.inl (zi x))) t f = t) ∧ (¬ y < x → rx_br (rx_lt? F (.inl (zi y)) (.inl (zi x))) t f = f)
    rw [zlt_rx F hy hx]
    exact ⟨fun h => by rw [decide_eq_true h]; rfl, fun h => by rw [decide_eq_false h]; rfl⟩
  · show (x ≤ y → rx_br (rx_lt? F (.inl (zi y)) (.inl (zi x))) f t = t) ∧ (¬ x ≤ y → rx_br (rx_lt? F (.inl (zi y)) (.inl (zi x))) f t = f)
    rw [zlt_rx F hy hx]
    exact ⟨fun h => by rw [decide_eq_false (by omega)]; rfl, fun h => by rw [decide_eq_true (by omega)]; rfl⟩
theorem zat_ok {α : Type} {l : List α} : ∀ {n : Nat} {k : α → Prop}, zat l n k → ∃ x, l[n]? = some x ∧ k x := by
  induction l with
  | nil => intro n k h; exact absurd h id
  | cons a t ih =>
    intro n k h
    cases n with
    | zero => exact ⟨a, rfl, h⟩
    | succ m =>
      obtain ⟨x, h1, h2⟩ := ih (n := m) h
      exact ⟨x, by simpa using h1, h2⟩
theorem zsws_at {P : Nat → Prop} {x : Int} : ∀ {t : List Nat} {n : Int} {j g : Nat}, zsws P x t n → t[j]? = some g → x = n + (j : Int) → P g := by
  intro t
  induction t with
  | nil => intro n j g _ h; simp at h
  | cons a t ih =>
    intro n j g h hj hx
    obtain ⟨h1, h2⟩ : (x = n → P a) ∧ zsws P x t (n + 1) := h
    cases j with
    | zero =>
      simp at hj
      subst hj
      exact h1 (by omega)
    | succ j => exact ih h2 (by simpa using hj) (by omega)
theorem zb_code (z : Int) : cond (Nat.blt (zi z % 256) 128) (zi z % 256) (zi z % 256 + 4294967040) = zi (zb z) := by
  rw [zblt]
  by_cases h : zi z % 256 < 128
  · rw [decide_eq_true h]; simp only [cond_true]; unfold zi zb at *; omega
  · rw [decide_eq_false h]; simp only [cond_false]; unfold zi zb at *; omega
section ZEQ
variable {l : Launch} {d : Nat} {X : rx_X} {D : va_G} {G : rx_G} {Sh : List zC} {mi : List rx_Y} {Y : rx_Y} {cd rest : List rx_E} {nL q : Nat} {L : zL} {S : List zV} {st : zS} {en : rx_E} {Rt : zQ} {call : zCall}
theorem zc_lcm (B : zB G Sh mi Y cd nL en rest L S st) (h : zlcm (zGd l d X D G Sh Y cd Rt) rest L S st) (he : ∀ (K : rx_K) (w : List rx_C), zSt G cd nL K en rest L S w = rx_lcmp K rest (zLm L) (zSm S) w 0 0) : zgoal l d X D G Sh Y Rt en.1 L S st := by
  unfold zlcm at h
  split at h
  · rename_i y x S'
    obtain ⟨-, -, -, -, -, hst, hL, hS⟩ := id B
    have hx : zsL x := hS (.inr (.inl x)) (List.mem_cons_of_mem _ List.mem_cons_self)
    have hy : zsL y := hS (.inr (.inl y)) List.mem_cons_self
    have hS' : ∀ v ∈ S', zok v := fun v hv => hS v (List.mem_cons_of_mem _ (List.mem_cons_of_mem _ hv))
    obtain ⟨h1, h2, h3⟩ := h
    have e : ∀ (K : rx_K) (w : List rx_C), zSt G cd nL K en rest L (.inr (.inl y) :: .inr (.inl x) :: S') w = K rest (zLm L) (.inl (.inl (cond (Nat.blt (x + 9223372036854775808).toNat (y + 9223372036854775808).toNat) 4294967295 (cond (Nat.blt (y + 9223372036854775808).toNat (x + 9223372036854775808).toNat) 1 0))) :: zSm S') w 0 0 := fun K w => by
      rw [he, ← zl_bias hx, ← zl_bias hy]
      rfl
    unfold zsL at hx hy
    rcases (Int.lt_or_le x y) with c | c
    · refine zgoB B (Or.inl rfl) (h1 c) hst hL (zcons (P := zok) (v := .inl (-1)) (by show zsI (-1); unfold zsI; omega) hS') (fun w hw => ⟨w, hw, fun K => ?_⟩)
      rw [e, zblt, decide_eq_true (show (x + 9223372036854775808).toNat < (y + 9223372036854775808).toNat by omega)]
      rfl
    · rcases (Int.lt_or_le y x) with c2 | c2
      · refine zgoB B (Or.inl rfl) (h3 c2) hst hL (zcons (P := zok) (v := .inl 1) (by show zsI 1; unfold zsI; omega) hS') (fun w hw => ⟨w, hw, fun K => ?_⟩)
        rw [e, zblt, zblt, decide_eq_false (show ¬ (x + 9223372036854775808).toNat < (y + 9223372036854775808).toNat by omega), decide_eq_true (show (y + 9223372036854775808).toNat < (x + 9223372036854775808).toNat by omega)]
        rfl
      · refine zgoB B (Or.inl rfl) (h2 (by omega)) hst hL (zcons (P := zok) (v := .inl 0) (by show zsI 0; unfold zsI; omega) hS') (fun w hw => ⟨w, hw, fun K => ?_⟩)
        rw [e, zblt, zblt, decide_eq_false (show ¬ (x + 9223372036854775808).toNat < (y + 9223372036854775808).toNat by omega), decide_eq_false (show ¬ (y + 9223372036854775808).toNat < (x + 9223372036854775808).toNat by omega)]
        rfl
  · exact absurd h id
theorem zc_l2i (B : zB G Sh mi Y cd nL en rest L S st) (h : zl2i (zGd l d X D G Sh Y cd Rt) rest L S st) (he : ∀ (K : rx_K) (w : List rx_C), zSt G cd nL K en rest L S w = rx_l2i K rest (zLm L) (zSm S) w 0 0) : zgoal l d X D G Sh Y Rt en.1 L S st := by
  unfold zl2i at h
  split at h
  · rename_i x S'
    obtain ⟨-, -, -, -, -, hst, hL, hS⟩ := id B
    refine zgoB B (Or.inl rfl) h hst hL (zcons (P := zok) (v := .inl (zw x)) (zw_ok x) (fun v hv => hS v (List.mem_cons_of_mem _ hv))) (fun w hw => ⟨w, hw, fun K => ?_⟩)
    rw [he]
    show rx_fN (zl x % 4294967296) (fun z => K rest (zLm L) (.inl (.inl z) :: zSm S') w 0 0) = _
    rw [rx_fN_eq, show zl x % 4294967296 = zi (zw x) by unfold zl zi zw; omega]
    rfl
  · exact absurd h id
theorem zc_i2b (B : zB G Sh mi Y cd nL en rest L S st) (h : zi2b (zGd l d X D G Sh Y cd Rt) rest L S st) (he : ∀ (K : rx_K) (w : List rx_C), zSt G cd nL K en rest L S w = rx_i2bS G.1 K rest (zLm L) (zSm S) w 0 0) : zgoal l d X D G Sh Y Rt en.1 L S st := by
  unfold zi2b at h
  split at h
  · rename_i x S'
    obtain ⟨-, -, -, -, -, hst, hL, hS⟩ := id B
    have hz := zb_ok x
    refine zgoB B (Or.inl rfl) h hst hL (zcons (P := zok) (v := .inl (zb x)) (by show zsI (zb x); unfold zsI; omega) (fun v hv => hS v (List.mem_cons_of_mem _ hv))) (fun w hw => ⟨w, hw, fun K => ?_⟩)
    rw [he]
    show rx_fN (cond (Nat.blt (zi x % 256) 128) (zi x % 256) (zi x % 256 + 4294967040)) (fun z => K rest (zLm L) (.inl (.inl z) :: zSm S') w 0 0) = _
    rw [rx_fN_eq, zb_code]
    rfl
  · exact absurd h id
theorem zc_dup (B : zB G Sh mi Y cd nL en rest L S st) (h : zdup (zGd l d X D G Sh Y cd Rt) rest L S st) (he : ∀ (K : rx_K) (w : List rx_C), zSt G cd nL K en rest L S w = rx_dup K rest (zLm L) (zSm S) w 0 0) : zgoal l d X D G Sh Y Rt en.1 L S st := by
  unfold zdup at h
  split at h
  · rename_i v S'
    obtain ⟨-, -, -, -, -, hst, hL, hS⟩ := id B
    cases c : Nat.beq (zcat v) 1 with
    | false => rw [c] at h; exact absurd h id
    | true =>
      rw [c] at h
      refine zgoB B (Or.inl rfl) h hst hL (zcons (P := zok) (hS _ List.mem_cons_self) hS) (fun w hw => ⟨w, hw, fun K => ?_⟩)
      rw [he]
      show cond (Nat.beq (rx_cat (zv v)) 1) (K rest (zLm L) (zv v :: zv v :: zSm S') w 0 0) none = _
      rw [zcat_v, c]
      rfl
  · exact absurd h id
theorem zc_dup2 (B : zB G Sh mi Y cd nL en rest L S st) (h : zdup2 (zGd l d X D G Sh Y cd Rt) rest L S st) (he : ∀ (K : rx_K) (w : List rx_C), zSt G cd nL K en rest L S w = rx_dup2 K rest (zLm L) (zSm S) w 0 0) : zgoal l d X D G Sh Y Rt en.1 L S st := by
  unfold zdup2 at h
  split at h
  · rename_i v u S'
    obtain ⟨-, -, -, -, -, hst, hL, hS⟩ := id B
    cases c : (Nat.beq (zcat v) 1 && Nat.beq (zcat u) 1) with
    | false => rw [c] at h; exact absurd h id
    | true =>
      rw [c] at h
      refine zgoB B (Or.inl rfl) h hst hL (zcons (P := zok) (hS _ List.mem_cons_self) (zcons (P := zok) (hS _ (List.mem_cons_of_mem _ List.mem_cons_self)) hS)) (fun w hw => ⟨w, hw, fun K => ?_⟩)
      rw [he]
      show cond (Nat.beq (rx_cat (zv v)) 1 && Nat.beq (rx_cat (zv u)) 1) (K rest (zLm L) (zv v :: zv u :: zv v :: zv u :: zSm S') w 0 0) none = _
      rw [zcat_v, zcat_v, c]
      rfl
  · exact absurd h id
theorem zc_pop (B : zB G Sh mi Y cd nL en rest L S st) (h : zpop (zGd l d X D G Sh Y cd Rt) rest L S st) (he : ∀ (K : rx_K) (w : List rx_C), zSt G cd nL K en rest L S w = rx_pop K rest (zLm L) (zSm S) w 0 0) : zgoal l d X D G Sh Y Rt en.1 L S st := by
  unfold zpop at h
  split at h
  · rename_i v S'
    obtain ⟨-, -, -, -, -, hst, hL, hS⟩ := id B
    cases c : Nat.beq (zcat v) 1 with
    | false => rw [c] at h; exact absurd h id
    | true =>
      rw [c] at h
      refine zgoB B (Or.inl rfl) h hst hL (fun u hu => hS u (List.mem_cons_of_mem _ hu)) (fun w hw => ⟨w, hw, fun K => ?_⟩)
      rw [he]
      show cond (Nat.beq (rx_cat (zv v)) 1) (K rest (zLm L) (zSm S') w 0 0) none = _
      rw [zcat_v, c]
      rfl
  · exact absurd h id
theorem zc_icm (B : zB G Sh mi Y cd nL en rest L S st) {c : Jvm.ClassFile.Cond} {a : Nat} (h : zicm c (zGd l d X D G Sh Y cd Rt) (rx_find cd a) rest L S st) (he : ∀ (K : rx_K) (w : List rx_C), zSt G cd nL K en rest L S w = rx_ic G.1 c cd K rest a (zLm L) (zSm S) w 0 0) : zgoal l d X D G Sh Y Rt en.1 L S st := by
  unfold zicm at h
  split at h
  · rename_i y x S'
    obtain ⟨-, -, -, -, -, hst, hL, hS⟩ := id B
    have hx : zsI x := hS (.inl x) (List.mem_cons_of_mem _ List.mem_cons_self)
    have hy : zsI y := hS (.inl y) List.mem_cons_self
    have hS' : ∀ v ∈ S', zok v := fun v hv => hS v (List.mem_cons_of_mem _ (List.mem_cons_of_mem _ hv))
    by_cases k : zcmp c x y
    · refine zgoB B (Or.inr ⟨a, rfl⟩) (h.1 k) hst hL hS' (fun w hw => ⟨w, hw, fun K => ?_⟩)
      rw [he]
      exact (zcmp_rx G.1 c hx hy (K (rx_find cd a) (zLm L) (zSm S') w 0 0) (K rest (zLm L) (zSm S') w 0 0)).1 k
    · refine zgoB B (Or.inl rfl) (h.2 k) hst hL hS' (fun w hw => ⟨w, hw, fun K => ?_⟩)
      rw [he]
      exact (zcmp_rx G.1 c hx hy (K (rx_find cd a) (zLm L) (zSm S') w 0 0) (K rest (zLm L) (zSm S') w 0 0)).2 k
  · exact absurd h id
theorem zc_ifc (B : zB G Sh mi Y cd nL en rest L S st) {c : Jvm.ClassFile.Cond} {a : Nat} (h : zifc c (zGd l d X D G Sh Y cd Rt) (rx_find cd a) rest L S st) (he : ∀ (K : rx_K) (w : List rx_C), zSt G cd nL K en rest L S w = rx_if G.1 c cd K rest a (zLm L) (zSm S) w 0 0) : zgoal l d X D G Sh Y Rt en.1 L S st := by
  unfold zifc at h
  split at h
  · rename_i x S'
    obtain ⟨-, -, -, -, -, hst, hL, hS⟩ := id B
    have hx : zsI x := hS (.inl x) List.mem_cons_self
    have hy : zsI 0 := by unfold zsI; omega
    have hS' : ∀ v ∈ S', zok v := fun v hv => hS v (List.mem_cons_of_mem _ hv)
    by_cases k : zcmp c x 0
    · refine zgoB B (Or.inr ⟨a, rfl⟩) (h.1 k) hst hL hS' (fun w hw => ⟨w, hw, fun K => ?_⟩)
      rw [he]
      exact (zcmp_rx G.1 c hx hy (K (rx_find cd a) (zLm L) (zSm S') w 0 0) (K rest (zLm L) (zSm S') w 0 0)).1 k
    · refine zgoB B (Or.inl rfl) (h.2 k) hst hL hS' (fun w hw => ⟨w, hw, fun K => ?_⟩)
      rw [he]
      exact (zcmp_rx G.1 c hx hy (K (rx_find cd a) (zLm L) (zSm S') w 0 0) (K rest (zLm L) (zSm S') w 0 0)).2 k
  · exact absurd h id
theorem zc_goto (B : zB G Sh mi Y cd nL en rest L S st) {a : Nat} (h : zGd l d X D G Sh Y cd Rt (rx_find cd a) L S st) (he : ∀ (K : rx_K) (w : List rx_C), zSt G cd nL K en rest L S w = K (rx_find cd a) (zLm L) (zSm S) w 0 0) : zgoal l d X D G Sh Y Rt en.1 L S st := by
  obtain ⟨-, -, -, -, -, hst, hL, hS⟩ := id B
  exact zgoB B (Or.inr ⟨a, rfl⟩) h hst hL hS (fun w hw => ⟨w, hw, fun K => he K w⟩)
theorem zc_sw (B : zB G Sh mi Y cd nL en rest L S st) {a b c : Nat} {t : List Nat} (h : zsw cd (zGd l d X D G Sh Y cd Rt) a b c t L S st) (he : ∀ (K : rx_K) (w : List rx_C), zSt G cd nL K en rest L S w = rx_sw G.1 cd K a b c t (zLm L) (zSm S) w 0 0) : zgoal l d X D G Sh Y Rt en.1 L S st := by
  unfold zsw at h
  split at h
  · rename_i x S'
    obtain ⟨-, -, -, -, -, hst, hL, hS⟩ := id B
    have hx : zsI x := hS (.inl x) List.mem_cons_self
    have hS' : ∀ v ∈ S', zok v := fun v hv => hS v (List.mem_cons_of_mem _ hv)
    cases k : Nat.beq (b + t.length) (c + 1) with
    | false => rw [k] at h; exact absurd h id
    | true =>
      rw [k] at h
      have k := rx_bq k
      obtain ⟨h1, h2, h3⟩ := h
      have e : ∀ (K : rx_K) (w : List rx_C), zSt G cd nL K en rest L (.inl x :: S') w = cond (Nat.blt (x + 2147483648).toNat b || Nat.blt c (x + 2147483648).toNat) (K (rx_find cd a) (zLm L) (zSm S') w 0 0) (cond (Nat.beq (x + 2147483648).toNat (x + 2147483648).toNat) (rx_at t ((x + 2147483648).toNat - b) (fun g => K (rx_find cd g) (zLm L) (zSm S') w 0 0)) none) := fun K w => by
        rw [he, ← zi_bias hx]
        rfl
      unfold zsI at hx
      by_cases c1 : x < (b : Int) - 2147483648
      · refine zgoB B (Or.inr ⟨a, rfl⟩) (h1 c1) hst hL hS' (fun w hw => ⟨w, hw, fun K => ?_⟩)
        rw [e, zblt, decide_eq_true (show (x + 2147483648).toNat < b by omega)]
        rfl
      · by_cases c2 : (c : Int) - 2147483648 < x
        · refine zgoB B (Or.inr ⟨a, rfl⟩) (h2 c2) hst hL hS' (fun w hw => ⟨w, hw, fun K => ?_⟩)
          rw [e, zblt, zblt, decide_eq_false (show ¬ (x + 2147483648).toNat < b by omega), decide_eq_true (show c < (x + 2147483648).toNat by omega)]
          rfl
        · have hj : (x + 2147483648).toNat - b < t.length := by omega
          have hg : t[(x + 2147483648).toNat - b]? = some (t[(x + 2147483648).toNat - b]'hj) := List.getElem?_eq_getElem hj
          refine zgoB B (Or.inr ⟨_, rfl⟩) (zsws_at h3 hg (by omega)) hst hL hS' (fun w hw => ⟨w, hw, fun K => ?_⟩)
          rw [e, zblt, zblt, decide_eq_false (show ¬ (x + 2147483648).toNat < b by omega), decide_eq_false (show ¬ c < (x + 2147483648).toNat by omega), zbeq, zat_eq _ hg]
          simp
  · exact absurd h id
theorem zc_gf (B : zB G Sh mi Y cd nL en rest L S st) {a b c : Nat} (h : zgf Sh (zGd l d X D G Sh Y cd Rt) rest a b c L S st) (he : ∀ (K : rx_K) (w : List rx_C), zSt G cd nL K en rest L S w = rx_gf K rest a b c (zLm L) (zSm S) w 0 0) : zgoal l d X D G Sh Y Rt en.1 L S st := by
  unfold zgf at h
  split at h
  · rename_i o S'
    obtain ⟨-, -, -, -, -, hst, hL, hS⟩ := id B
    have hS' : ∀ v ∈ S', zok v := fun v hv => hS v (List.mem_cons_of_mem _ hv)
    cases k : Nat.ble c 1 with
    | false => rw [k] at h; exact absurd h id
    | true =>
      rw [k] at h
      obtain ⟨s, h1, h2⟩ := zat_ok h
      rcases s with ⟨a', ks⟩ | p
      · cases k2 : Nat.beq a' a with
        | false => simp only [k2] at h2; exact absurd h2 id
        | true =>
          simp only [k2] at h2
          obtain ⟨kd, h3, h4⟩ := zat_ok h2
          refine zgoB B (Or.inl rfl) h4 hst hL (zcons (P := zok) (zK_ok (hst.1 o a' ks h1 b kd h3)) hS') (fun w hw => ⟨w, hw, fun K => ?_⟩)
          obtain ⟨fs, g1, g2, g3⟩ := hw.2.1 o a' ks h1
          rw [he]
          show cond (Nat.ble c 1) (rx_at w o _) none = _
          rw [k, zat_eq _ g1]
          show cond (Nat.beq a' a) (rx_at fs b _) none = _
          rw [k2, zat_eq _ (g3 b kd h3)]
          rfl
      · exact absurd h2 id
  · exact absurd h id
theorem zc_pf (B : zB G Sh mi Y cd nL en rest L S st) {a b c : Nat} (h : zpf Sh (zGd l d X D G Sh Y cd Rt) rest a b c L S st) (he : ∀ (K : rx_K) (w : List rx_C), zSt G cd nL K en rest L S w = rx_pf K rest a b c (zLm L) (zSm S) w 0 0) : zgoal l d X D G Sh Y Rt en.1 L S st := by
  unfold zpf at h
  split at h
  · rename_i v o S'
    obtain ⟨-, -, -, -, -, hst, hL, hS⟩ := id B
    have hS' : ∀ u ∈ S', zok u := fun u hu => hS u (List.mem_cons_of_mem _ (List.mem_cons_of_mem _ hu))
    have hv : zok v := hS v List.mem_cons_self
    obtain ⟨s, h1, h2⟩ := zat_ok h
    rcases s with ⟨a', ks⟩ | p
    · cases k2 : Nat.beq a' a with
      | false => simp only [k2] at h2; exact absurd h2 id
      | true =>
        simp only [k2] at h2
        obtain ⟨kd, h3, h4⟩ := zat_ok h2
        cases k3 : Nat.beq kd c with
        | false => simp only [k3] at h4; exact absurd h4 id
        | true =>
          simp only [k3] at h4
          have k3 := rx_bq k3
          subst k3
          have key : ∀ z : Int, zv v = zv (zK kd z) → rx_fit kd (zv v) = true → zin kd z → zGd l d X D G Sh Y cd Rt rest L S' (zup st o b z) → zgoal l d X D G Sh Y Rt en.1 L (v :: .inr (.inr (.inl o)) :: S') st := by
            intro z e1 e2 e3 e4
            refine zgoB B (Or.inl rfl) e4 (zsk_putf hst h1 h3 e3) hL hS' (fun w hw => ?_)
            obtain ⟨fs, g1, g2, g3⟩ := hw.2.1 o a' ks h1
            refine ⟨_, zR_putf hw h1 h3 g1, fun K => ?_⟩
            rw [he]
            show cond (rx_fit kd (zv v)) (rx_at w o _) none = _
            rw [e2, zat_eq _ g1]
            show cond (Nat.beq a' a) (rx_set fs b (zv v) _) none = _
            rw [k2, zset_eq _ _ (by rw [g2]; exact zlt_of h3)]
            show rx_set w o (.inl (a', fs.set b (zv v))) _ = _
            rw [zset_eq _ _ (zlt_of g1), e1]
            rfl
          rcases v with z | (z | (r | j))
          · cases c0 : Nat.beq kd 0 with
            | true =>
              simp only [c0] at h4
              have c0 := rx_bq c0
              subst c0
              exact key z rfl rfl hv h4
            | false =>
              simp only [c0] at h4
              cases c2 : Nat.beq kd 2 with
              | true =>
                simp only [c2] at h4
                have c2 := rx_bq c2
                subst c2
                obtain ⟨h5, h6⟩ := h4
                refine key z rfl ?_ h5 h6
                rcases h5 with rfl | rfl <;> rfl
              | false => simp only [c2] at h4; exact absurd h4 id
          · cases c0 : Nat.beq kd 3 with
            | true =>
              simp only [c0] at h4
              have c0 := rx_bq c0
              subst c0
              exact key z rfl rfl hv h4
            | false => simp only [c0] at h4; exact absurd h4 id
          · cases c0 : Nat.beq kd 4 with
            | true =>
              simp only [c0] at h4
              have c0 := rx_bq c0
              subst c0
              exact key (r : Int) rfl rfl (Int.natCast_nonneg r) h4
            | false => simp only [c0] at h4; exact absurd h4 id
          · exact absurd h4 id
    · exact absurd h2 id
  · exact absurd h id
theorem zc_al (B : zB G Sh mi Y cd nL en rest L S st) {q : Nat} (hq : q = 0 ∨ q = 1 ∨ q = 3 ∨ q = 4) (h : zal Sh q (zGd l d X D G Sh Y cd Rt) rest L S st) (he : ∀ (K : rx_K) (w : List rx_C), zSt G cd nL K en rest L S w = rx_al G.1 G.2.2.1 G.2.2.2.1 q K rest (zLm L) (zSm S) w 0 0) : zgoal l d X D G Sh Y Rt en.1 L S st := by
  unfold zal at h
  split at h
  · rename_i j o S'
    obtain ⟨-, -, -, -, -, hst, hL, hS⟩ := id B
    have hS' : ∀ u ∈ S', zok u := fun u hu => hS u (List.mem_cons_of_mem _ (List.mem_cons_of_mem _ hu))
    obtain ⟨s, h1, h2⟩ := zat_ok h
    rcases s with p | ⟨t, n⟩
    · exact absurd h2 id
    · cases k : (Nat.beq t q || (Nat.beq q 1 && Nat.beq t 2)) with
      | false => simp only [k] at h2; exact absurd h2 id
      | true =>
        simp only [k] at h2
        obtain ⟨⟨j0, j1⟩, h3⟩ := h2
        have jn : j.toNat < n := by omega
        refine zgoB B (Or.inl rfl) h3 hst hL (zcons (P := zok) (zK_ok (hst.2 o t n h1 j.toNat jn)) hS') (fun w hw => ⟨w, hw, fun K => ?_⟩)
        obtain ⟨u, g1, ⟨g2, g4⟩, g3⟩ := hw.2.2 o t n h1
        have ej : zi j = j.toNat := zi_nn j0 (by omega)
        rw [he]
        show rx_at w o _ = _
        rw [zat_eq _ g1]
        show cond (Nat.blt (zi j) n && (Nat.blt n 2147483648 && (Nat.beq t q || (Nat.beq q 1 && Nat.beq t 2)))) (cond (rx_isK q (rx_lk u (zi j) (rx_df t))) (K rest (zLm L) (rx_lk u (zi j) (rx_df t) :: zSm S') w 0 0) none) none = _
        rw [ej, g3 _ jn, k, zblt, zblt, decide_eq_true jn, decide_eq_true g2]
        have e9 : rx_isK q (zv (zK t (st o j.toNat))) = true := by
          rcases Bool.or_eq_true_iff.mp k with k | k
          · have k := rx_bq k
            subst k
            rcases hq with rfl | rfl | rfl | rfl <;> rfl
          · obtain ⟨k1, k2⟩ := rx_an k
            have k1 := rx_bq k1
            have k2 := rx_bq k2
            subst k1
            subst k2
            rfl
        rw [e9]
        rfl
  · exact absurd h id
theorem zc_as (B : zB G Sh mi Y cd nL en rest L S st) {q : Nat} (h : zas Sh q (zGd l d X D G Sh Y cd Rt) rest L S st) (he : ∀ (K : rx_K) (w : List rx_C), zSt G cd nL K en rest L S w = rx_as q K rest (zLm L) (zSm S) w 0 0) : zgoal l d X D G Sh Y Rt en.1 L S st := by
  unfold zas at h
  split at h
  · rename_i v j o S'
    obtain ⟨-, -, -, -, -, hst, hL, hS⟩ := id B
    have hS' : ∀ u ∈ S', zok u := fun u hu => hS u (List.mem_cons_of_mem _ (List.mem_cons_of_mem _ (List.mem_cons_of_mem _ hu)))
    have hv : zok v := hS v List.mem_cons_self
    obtain ⟨s, h1, h2⟩ := zat_ok h
    rcases s with p | ⟨t, n⟩
    · exact absurd h2 id
    · cases k : (Nat.beq t q || (Nat.beq q 1 && Nat.beq t 2)) with
      | false => simp only [k] at h2; exact absurd h2 id
      | true =>
        simp only [k] at h2
        obtain ⟨⟨j0, j1⟩, h3⟩ := h2
        have jn : j.toNat < n := by omega
        have key : ∀ z : Int, rx_nar t (zv v) = zv (zK t z) → rx_fit (cond (Nat.beq t 1) 0 t) (zv v) = true → zin t z → zGd l d X D G Sh Y cd Rt rest L S' (zup st o j.toNat z) → zgoal l d X D G Sh Y Rt en.1 L (v :: .inl j :: .inr (.inr (.inl o)) :: S') st := by
          intro z e1 e2 e3 e4
          refine zgoB B (Or.inl rfl) e4 (zsk_puta hst h1 e3) hL hS' (fun w hw => ?_)
          obtain ⟨u, g1, ⟨g2, g4⟩, g3⟩ := hw.2.2 o t n h1
          refine ⟨_, zR_puta (j := j.toNat) (z := z) hw h1 g1, fun K => ?_⟩
          have ej : zi j = j.toNat := zi_nn j0 (by omega)
          rw [he]
          show rx_at w o _ = _
          rw [zat_eq _ g1]
          show cond (Nat.blt (zi j) n && (Nat.blt n 2147483648 && ((Nat.beq t q || (Nat.beq q 1 && Nat.beq t 2)) && rx_fit (cond (Nat.beq t 1) 0 t) (zv v)))) (rx_rem (fun i _ => Nat.beq i (zi j)) u (fun u' => rx_set w o (.inr (t, n, (zi j, rx_nar t (zv v)) :: u')) (fun w' => K rest (zLm L) (zSm S') w' 0 0))) none = _
          rw [ej, k, e2, e1, zblt, zblt, decide_eq_true jn, decide_eq_true g2, rx_rem_eq]
          show rx_set w o _ _ = _
          rw [zset_eq _ _ (zlt_of g1)]
        rcases v with z | (z | (r | i))
        · cases c0 : Nat.beq t 0 with
          | true =>
            simp only [c0] at h3
            have c0 := rx_bq c0
            subst c0
            exact key z rfl rfl hv h3
          | false =>
            simp only [c0] at h3
            cases c1 : Nat.beq t 1 with
            | true =>
              simp only [c1] at h3
              have c1 := rx_bq c1
              subst c1
              refine key (zb z) ?_ rfl (zb_ok z) h3
              show (.inl (.inl (cond (Nat.blt (zi z % 256) 128) (zi z % 256) (zi z % 256 + 4294967040))) : rx_V) = .inl (.inl (zi (zb z)))
              rw [zb_code]
            | false =>
              simp only [c1] at h3
              cases c2 : Nat.beq t 2 with
              | true =>
                simp only [c2] at h3
                have c2 := rx_bq c2
                subst c2
                obtain ⟨h5, h6⟩ := h3
                refine key z rfl ?_ h5 h6
                rcases h5 with rfl | rfl <;> rfl
              | false => simp only [c2] at h3; exact absurd h3 id
        · cases c0 : Nat.beq t 3 with
          | true =>
            simp only [c0] at h3
            have c0 := rx_bq c0
            subst c0
            exact key z rfl rfl hv h3
          | false => simp only [c0] at h3; exact absurd h3 id
        · exact absurd h3 id
        · exact absurd h3 id
  · exact absurd h id
theorem zc_len (B : zB G Sh mi Y cd nL en rest L S st) (h : zlen Sh (zGd l d X D G Sh Y cd Rt) rest L S st) (hlen : ∀ (c t n : Nat), Sh[c]? = some (.inr (t, n)) → n < 2147483648) (he : ∀ (K : rx_K) (w : List rx_C), zSt G cd nL K en rest L S w = rx_len G.2.2.1 G.2.2.2.2.1 K rest (zLm L) (zSm S) w 0 0) : zgoal l d X D G Sh Y Rt en.1 L S st := by
  unfold zlen at h
  split at h
  · rename_i o S'
    obtain ⟨-, -, -, -, -, hst, hL, hS⟩ := id B
    have hS' : ∀ u ∈ S', zok u := fun u hu => hS u (List.mem_cons_of_mem _ hu)
    obtain ⟨s, h1, h2⟩ := zat_ok h
    rcases s with p | ⟨t, n⟩
    · exact absurd h2 id
    · have hn := hlen o t n h1
      refine zgoB B (Or.inl rfl) h2 hst hL (zcons (P := zok) (v := .inl (n : Int)) (by show zsI (n : Int); unfold zsI; omega) hS') (fun w hw => ⟨w, hw, fun K => ?_⟩)
      obtain ⟨u, g1, ⟨g2, g4⟩, g3⟩ := hw.2.2 o t n h1
      rw [he]
      show rx_at w o _ = _
      rw [zat_eq _ g1]
      show cond (Nat.blt t 5) (K rest (zLm L) (.inl (.inl n) :: zSm S') w 0 0) none = K rest (zLm L) (.inl (.inl (zi (n : Int))) :: zSm S') w 0 0
      rw [zblt, decide_eq_true g4, show zi (n : Int) = n by unfold zi; omega]
      rfl
  · exact absurd h id
theorem zc_cpy (B : zB G Sh mi Y cd nL en rest L S st) (h : zcpy Sh (zGd l d X D G Sh Y cd Rt) rest L S st) (he : ∀ (K : rx_K) (w : List rx_C), zSt G cd nL K en rest L S w = rx_cpy K rest (zLm L) (zSm S) w 0 0) : zgoal l d X D G Sh Y Rt en.1 L S st := by
  unfold zcpy at h
  split at h
  · rename_i n dp c1 sp c0 S'
    obtain ⟨-, -, -, -, -, hst, hL, hS⟩ := id B
    have hS' : ∀ u ∈ S', zok u := fun u hu => hS u (List.mem_cons_of_mem _ (List.mem_cons_of_mem _ (List.mem_cons_of_mem _ (List.mem_cons_of_mem _ (List.mem_cons_of_mem _ hu)))))
    cases k : Nat.ble (zcats S') 8 with
    | false => rw [k] at h; exact absurd h id
    | true =>
      rw [k] at h
      obtain ⟨s, h1, h2⟩ := zat_ok h
      rcases s with p | ⟨t0, n0⟩
      · exact absurd h2 id
      · obtain ⟨s, h3, h4⟩ := zat_ok h2
        rcases s with p | ⟨t1, n1⟩
        · exact absurd h4 id
        · cases k2 : (Nat.beq t0 0 && Nat.beq t1 0) with
          | false => simp only [k2] at h4; exact absurd h4 id
          | true =>
            simp only [k2] at h4
            obtain ⟨k3, k4⟩ := rx_an k2
            have k3 := rx_bq k3
            have k4 := rx_bq k4
            subst k3
            subst k4
            obtain ⟨⟨a1, a2, a3, a4, a5⟩, h5⟩ := h4
            refine zgoB B (Or.inl rfl) h5 (zsk_copy hst h1 h3 (by omega)) hL hS' (fun w hw => ?_)
            obtain ⟨u0, g1, ⟨g2, -⟩, g3⟩ := hw.2.2 c0 0 n0 h1
            obtain ⟨u1, m1, ⟨m2, -⟩, m3⟩ := hw.2.2 c1 0 n1 h3
            refine ⟨_, zR_copy (s0 := sp.toNat) (d1 := dp.toNat) (n := n.toNat) hw h1 h3 (by omega) (by omega) g1 m1, fun K => ?_⟩
            have e1 : zi n = n.toNat := zi_nn a1 (by omega)
            have e2 : zi dp = dp.toNat := zi_nn a2 (by omega)
            have e3 : zi sp = sp.toNat := zi_nn a3 (by omega)
            rw [he]
            show cond (Nat.ble (rx_cats (zSm S')) 8) (rx_at w c0 _) none = _
            rw [zcats_v, k, zat_eq _ g1]
            show rx_at w c1 _ = _
            rw [zat_eq _ m1]
            show cond (Nat.beq 0 0 && (Nat.beq 0 0 && (Nat.ble (zi sp + zi n) n0 && (Nat.ble (zi dp + zi n) n1 && (Nat.blt n0 2147483648 && Nat.blt n1 2147483648))))) (rx_set w c1 (.inr (0, n1, rx_cpl u0 (zi sp) (zi dp) u1 (zi n))) (fun w' => K rest (zLm L) (zSm S') w' 0 0)) none = _
            rw [e1, e2, e3, zble, zble, zblt, zblt, decide_eq_true (show sp.toNat + n.toNat ≤ n0 by omega), decide_eq_true (show dp.toNat + n.toNat ≤ n1 by omega), decide_eq_true g2, decide_eq_true m2]
            show rx_set w c1 _ _ = _
            rw [zset_eq _ _ (zlt_of m1)]
  · exact absurd h id
end ZEQ
