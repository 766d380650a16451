/-! segments: locals, fields, measures -/
abbrev mV : Type := List (Nat ⊕ (Bool × Int × Int))
def mz (Lz : zL) (st : zS) (x : Nat ⊕ (Nat × Nat)) (z : Int) : Prop := match x with
  | .inl i => zlk Lz i = some (.inl z) ∨ zlk Lz i = some (.inr (.inl z))
  | .inr q => st q.1 q.2 = z
def mvz (Lz : zL) (st : zS) : List aMs → mV → Prop
  | [], [] => True
  | .inl p :: ms, .inl p' :: vs => p' = p ∧ mvz Lz st ms vs
  | .inr y :: ms, .inr w :: vs => w.1 = y.2.1 ∧ w.2.1 = y.2.2 ∧ mz Lz st y.1 w.2.2 ∧ mvz Lz st ms vs
  | _, _ => False
def amr (n : Nat) (rho : Nat → Int) : aMv → mV → Prop
  | [], [] => True
  | .inl p :: va, .inl p' :: vs => p' = p ∧ amr n rho va vs
  | .inr a :: va, .inr w :: vs => w.1 = a.1 ∧ w.2.1 = a.2.1 ∧ arel n rho a.2.2 w.2.2 ∧ amr n rho va vs
  | _, _ => False
def mk1 (x : Nat ⊕ (Bool × Int × Int)) : Prop := match x with
  | .inl p => p < 1048576
  | .inr w => cond w.1 (w.2.2 ≤ w.2.1 ∧ w.2.1 - w.2.2 ≤ 1099511627000) (w.2.1 ≤ w.2.2 ∧ w.2.2 - w.2.1 ≤ 1099511627000)
def mok (vs : mV) : Prop := (∀ x ∈ vs, mk1 x) ∧ vs.length ≤ 6
def mn1 (x : Nat ⊕ (Bool × Int × Int)) : Nat := match x with
  | .inl p => p
  | .inr w => cond w.1 (w.2.1 - w.2.2).toNat (w.2.2 - w.2.1).toNat
def mco : Nat → List Nat → Nat
  | 0, _ => 0
  | D + 1, [] => 1099511627775 * 1099511627776 ^ D + mco D []
  | D + 1, x :: t => x * 1099511627776 ^ D + mco D t
theorem mn1_lt {x : Nat ⊕ (Bool × Int × Int)} (h : mk1 x) : mn1 x < 1099511627775 := by
  rcases x with p | ⟨up, bd, z⟩
  · have h : p < 1048576 := h
    show p < _
    omega
  · cases up with
    | true =>
      have h : z ≤ bd ∧ bd - z ≤ 1099511627000 := h
      show (bd - z).toNat < _
      omega
    | false =>
      have h : bd ≤ z ∧ z - bd ≤ 1099511627000 := h
      show (z - bd).toNat < _
      omega
theorem mco_lt : ∀ (D : Nat) (l : List Nat), (∀ x ∈ l, x < 1099511627776) → mco D l < 1099511627776 ^ D := by
  intro D
  induction D with
  | zero => intro l _; show 0 < 1; decide
  | succ D ih =>
    intro l hl
    rw [Nat.pow_succ]
    cases l with
    | nil =>
      have := ih [] (fun x hx => by cases hx)
      show 1099511627775 * 1099511627776 ^ D + mco D [] < _
      generalize 1099511627776 ^ D = P at *
      omega
    | cons x t =>
      have h1 := ih t (fun y hy => hl y (List.mem_cons_of_mem _ hy))
      have h2 := hl x List.mem_cons_self
      show x * 1099511627776 ^ D + mco D t < _
      generalize 1099511627776 ^ D = P at *
      have h3 : x * P ≤ 1099511627775 * P := Nat.mul_le_mul_right P (by omega)
      omega
theorem amr_len {n : Nat} {rho : Nat → Int} : ∀ {va : aMv} {vs : mV}, amr n rho va vs → vs.length = va.length
  | [], [], _ => rfl
  | .inl _ :: _, .inl _ :: _, h => by simp [amr_len h.2]
  | .inr _ :: _, .inr _ :: _, h => by simp [amr_len h.2.2.2]
  | [], _ :: _, h => absurd h id
  | .inl _ :: _, [], h => absurd h id
  | .inr _ :: _, [], h => absurd h id
  | .inl _ :: _, .inr _ :: _, h => absurd h id
  | .inr _ :: _, .inl _ :: _, h => absurd h id
theorem alx_ok {n n' : Nat} {rho : Nat → Int} (e : n ≤ n') : ∀ {va vb : aMv} {vs vs' : mV} {D : Nat}, alx va vb = true → amr n rho va vs → amr n' rho vb vs' → (∀ x ∈ vs, mk1 x) → (∀ x ∈ vs', mk1 x) → vs.length ≤ D → vs'.length ≤ D → mco D (vs'.map mn1) < mco D (vs.map mn1) := by
  have hB : ∀ (l : mV), (∀ x ∈ l, mk1 x) → ∀ y ∈ l.map mn1, y < 1099511627776 := by
    intro l hl y hy
    obtain ⟨x, h1, rfl⟩ := List.mem_map.mp hy
    have := mn1_lt (hl x h1)
    omega
  intro va
  induction va with
  | nil =>
    intro vb vs vs' D h h1 h2 k1 k2 l1 l2
    cases vs with
    | cons x t => exact absurd h1 (by cases x <;> exact id)
    | nil =>
      cases vs' with
      | nil =>
        cases vb with
        | nil => cases h
        | cons y t => exact absurd h2 (by cases y <;> exact id)
      | cons y' t' =>
        cases D with
        | zero => simp at l2
        | succ D =>
          have h3 := mn1_lt (k2 y' List.mem_cons_self)
          have h4 := mco_lt D (t'.map mn1) (hB t' (fun x hx => k2 x (List.mem_cons_of_mem _ hx)))
          show mn1 y' * 1099511627776 ^ D + mco D (t'.map mn1) < 1099511627775 * 1099511627776 ^ D + mco D []
          generalize 1099511627776 ^ D = P at *
          have h5 : (mn1 y' + 1) * P ≤ 1099511627775 * P := Nat.mul_le_mul_right P (by omega)
          rw [Nat.succ_mul] at h5
          omega
  | cons x ta ih =>
    intro vb vs vs' D h h1 h2 k1 k2 l1 l2
    cases vs with
    | nil => exact absurd h1 (by cases x <;> exact id)
    | cons x' t =>
      cases vb with
      | nil => cases h
      | cons y tb =>
        cases vs' with
        | nil => exact absurd h2 (by cases y <;> exact id)
        | cons y' t' =>
          cases D with
          | zero => simp at l1
          | succ D =>
            have kt : ∀ z ∈ t, mk1 z := fun z hz => k1 z (List.mem_cons_of_mem _ hz)
            have kt' : ∀ z ∈ t', mk1 z := fun z hz => k2 z (List.mem_cons_of_mem _ hz)
            have h4 := mco_lt D (t'.map mn1) (hB t' kt')
            have lt1 : t.length ≤ D := by simp at l1; exact l1
            have lt2 : t'.length ≤ D := by simp at l2; exact l2
            have big : mn1 y' < mn1 x' → mco (D + 1) ((y' :: t').map mn1) < mco (D + 1) ((x' :: t).map mn1) := by
              intro q
              show mn1 y' * 1099511627776 ^ D + mco D (t'.map mn1) < mn1 x' * 1099511627776 ^ D + mco D (t.map mn1)
              generalize 1099511627776 ^ D = P at *
              have h5 : (mn1 y' + 1) * P ≤ mn1 x' * P := Nat.mul_le_mul_right P (by omega)
              rw [Nat.succ_mul] at h5
              omega
            have same : mn1 y' = mn1 x' → mco D (t'.map mn1) < mco D (t.map mn1) → mco (D + 1) ((y' :: t').map mn1) < mco (D + 1) ((x' :: t).map mn1) := by
              intro q q2
              show mn1 y' * 1099511627776 ^ D + mco D (t'.map mn1) < mn1 x' * 1099511627776 ^ D + mco D (t.map mn1)
              rw [q]
              omega
            rcases x with p | a
            · rcases x' with p1 | w
              · rcases y with p' | b
                · rcases y' with p2 | w'
                  · obtain ⟨e1, r1⟩ : p1 = p ∧ amr n rho ta t := h1
                    obtain ⟨e2, r2⟩ : p2 = p' ∧ amr n' rho tb t' := h2
                    have h : cond (Nat.blt p' p) true (cond (Nat.beq p p') (alx ta tb) false) = true := h
                    cases c : Nat.blt p' p with
                    | true =>
                      have c := rx_bt c
                      exact big (by show p2 < p1; omega)
                    | false =>
                      rw [c] at h
                      obtain ⟨c2, h⟩ := acond h
                      have c2 := rx_bq c2
                      exact same (by show p2 = p1; omega) (ih h r1 r2 kt kt' lt1 lt2)
                  · exact absurd h2 id
                · exact absurd (show false = true from h) (by decide)
              · exact absurd h1 id
            · rcases x' with p1 | w
              · exact absurd h1 id
              · rcases y with p' | b
                · exact absurd (show false = true from h) (by decide)
                · rcases y' with p2 | w'
                  · exact absurd h2 id
                  · obtain ⟨a1, a2, a3⟩ := a
                    obtain ⟨b1, b2, b3⟩ := b
                    obtain ⟨w1, w2, w3⟩ := w
                    obtain ⟨u1, u2, u3⟩ := w'
                    obtain ⟨e1, e2, e3, r1⟩ : w1 = a1 ∧ w2 = a2 ∧ arel n rho a3 w3 ∧ amr n rho ta t := h1
                    obtain ⟨g1, g2, g3, r2⟩ : u1 = b1 ∧ u2 = b2 ∧ arel n' rho b3 u3 ∧ amr n' rho tb t' := h2
                    obtain ⟨c0, hh⟩ := acond (show cond ((cond a1 b1 (!b1)) && (ieq a2 b2 && aon a3.1 b3.1)) (cond (ieq a3.2 b3.2) (alx ta tb) (cond a1 (ile a3.2 b3.2) (ile b3.2 a3.2))) false = true from h)
                    obtain ⟨cb, c01⟩ := rx_an c0
                    obtain ⟨c02, c03⟩ := rx_an c01
                    have c2 := ieq_ok c02
                    have c3 := aon_ok c03
                    clear c0 c01 c02 c03 h l1 l2
                    have hd : u3 - w3 = b3.2 - a3.2 := by
                      obtain ⟨ka, ca⟩ := a3
                      obtain ⟨kb, cb⟩ := b3
                      dsimp only at c3
                      subst c3
                      cases ka with
                      | none => have e3 : w3 = ca := e3; have g3 : u3 = cb := g3; show u3 - w3 = cb - ca; omega
                      | some ka =>
                        obtain ⟨-, q1⟩ : ka < n ∧ w3 = rho ka + ca := e3
                        obtain ⟨-, q2⟩ : ka < n' ∧ u3 = rho ka + cb := g3
                        show u3 - w3 = cb - ca
                        omega
                    have m1 := k1 _ List.mem_cons_self
                    have m2 := k2 _ List.mem_cons_self
                    clear k1 k2
                    subst e1
                    subst e2
                    subst g1
                    subst g2
                    cases w1 with
                    | true =>
                      have eb : u1 = true := cb
                      subst eb
                      have m1 : w3 ≤ w2 ∧ w2 - w3 ≤ 1099511627000 := m1
                      have m2 : u3 ≤ u2 ∧ u2 - u3 ≤ 1099511627000 := m2
                      cases c4 : ieq a3.2 b3.2 with
                      | true =>
                        rw [c4] at hh
                        have c4 := ieq_ok c4
                        exact same (by show (u2 - u3).toNat = (w2 - w3).toNat; omega) (ih hh r1 r2 kt kt' lt1 lt2)
                      | false =>
                        rw [c4] at hh
                        have hg := ile_ok (show ile a3.2 b3.2 = true from hh)
                        have c5 : ¬ a3.2 = b3.2 := by
                          intro q
                          unfold ieq at c4
                          rw [q] at c4
                          cases c6 : ile b3.2 b3.2 with
                          | true => rw [c6] at c4; cases c4
                          | false => have := ile_no c6; omega
                        exact big (by show (u2 - u3).toNat < (w2 - w3).toNat; omega)
                    | false =>
                      have eb : u1 = false := by
                        cases u1 with
                        | false => rfl
                        | true => cases cb
                      subst eb
                      have m1 : w2 ≤ w3 ∧ w3 - w2 ≤ 1099511627000 := m1
                      have m2 : u2 ≤ u3 ∧ u3 - u2 ≤ 1099511627000 := m2
                      cases c4 : ieq a3.2 b3.2 with
                      | true =>
                        rw [c4] at hh
                        have c4 := ieq_ok c4
                        exact same (by show (u3 - u2).toNat = (w3 - w2).toNat; omega) (ih hh r1 r2 kt kt' lt1 lt2)
                      | false =>
                        rw [c4] at hh
                        have hg := ile_ok (show ile b3.2 a3.2 = true from hh)
                        have c5 : ¬ a3.2 = b3.2 := by
                          intro q
                          unfold ieq at c4
                          rw [q] at c4
                          cases c6 : ile b3.2 b3.2 with
                          | true => rw [c6] at c4; cases c4
                          | false => have := ile_no c6; omega
                        exact big (by show (u3 - u2).toNat < (w3 - w2).toNat; omega)
theorem amk_ok {F : aF} {rho : Nat → Int} (hF : aokF F rho) {va : aMv} {vs : mV} (h : amk F va = true) (hr : amr (afl F) rho va vs) : mok vs := by
  obtain ⟨h1, h2⟩ := rx_an h
  refine ⟨?_, by rw [amr_len hr]; exact rx_bl h2⟩
  have h3 := aall_ok h1
  clear h2 h h1
  revert vs
  induction va with
  | nil =>
    intro vs hr x hx
    cases vs with
    | nil => cases hx
    | cons y t => exact absurd hr (by cases y <;> exact id)
  | cons a t ih =>
    intro vs hr x hx
    cases vs with
    | nil => exact absurd hr (by cases a <;> exact id)
    | cons y s =>
      have ha := h3 a List.mem_cons_self
      rcases a with p | ⟨a1, a2, a3⟩
      · rcases y with p' | w
        · obtain ⟨e, r⟩ : p' = p ∧ amr (afl F) rho t s := hr
          rcases List.mem_cons.mp hx with q | q
          · rw [q, e]
            exact rx_bt ha
          · exact ih (fun z hz => h3 z (List.mem_cons_of_mem _ hz)) r x q
        · exact absurd hr id
      · rcases y with p' | ⟨w1, w2, w3⟩
        · exact absurd hr id
        · obtain ⟨e1, e2, e3, r⟩ : w1 = a1 ∧ w2 = a2 ∧ arel (afl F) rho a3 w3 ∧ amr (afl F) rho t s := hr
          rcases List.mem_cons.mp hx with q | q
          · rw [q]
            have hb := arg_ok hF e3
            subst e1
            subst e2
            cases w1 with
            | true =>
              obtain ⟨g1, g2⟩ := rx_an (show (ile (arg F a3).2 w2 && ile (w2 - (arg F a3).1) 1099511627000) = true from ha)
              have g1 := ile_ok g1
              have g2 := ile_ok g2
              show w3 ≤ w2 ∧ w2 - w3 ≤ 1099511627000
              omega
            | false =>
              obtain ⟨g1, g2⟩ := rx_an (show (ile w2 (arg F a3).1 && ile ((arg F a3).2 - w2) 1099511627000) = true from ha)
              have g1 := ile_ok g1
              have g2 := ile_ok g2
              show w2 ≤ w3 ∧ w3 - w2 ≤ 1099511627000
              omega
          · exact ih (fun z hz => h3 z (List.mem_cons_of_mem _ hz)) r x q
section AVS
variable {gt : aG} {n : Nat} {rho : Nat → Int} {L : aL} {Lz : zL} {O : aO} {A : aA} {st : zS}
theorem amv_ok {x : Nat ⊕ (Nat × Nat)} {k : aI → Bool} (hL : aRL n rho L Lz) (hT : aRT gt n rho O A st) (h : amv L O x k = true) : ∃ v z, k v = true ∧ arel n rho v z ∧ mz Lz st x z ∧ ∀ z', mz Lz st x z' → z' = z := by
  rcases x with i | ⟨c, f⟩
  · obtain ⟨v, h1, h2⟩ := aget_ok (show aget L i (fun v => match v with
      | .inl a => k a
      | .inr (.inl a) => k a
      | _ => false) = true from h)
    obtain ⟨u, h3, h4⟩ := hL i v h1
    rcases v with a | (a | c)
    · rcases u with z | (z | (o | j))
      · refine ⟨a, z, h2, h4, Or.inl h3, fun z' hz => ?_⟩
        rcases hz with hz | hz
        · rw [h3] at hz; cases hz; rfl
        · rw [h3] at hz; cases hz
      · exact absurd h4 id
      · exact absurd h4 id
      · exact absurd h4 id
    · rcases u with z | (z | (o | j))
      · exact absurd h4 id
      · refine ⟨a, z, h2, h4, Or.inr h3, fun z' hz => ?_⟩
        rcases hz with hz | hz
        · rw [h3] at hz; cases hz
        · rw [h3] at hz; cases hz; rfl
      · exact absurd h4 id
      · exact absurd h4 id
    · cases h2
  · rcases aolk_ok (show aolk O c f k false = true from h) with ⟨v, h1, h2⟩ | ⟨-, h2⟩
    · exact ⟨v, st c f, h2, (hT.1 c f v h1).2, rfl, fun z' hz => (show st c f = z' from hz).symm⟩
    · cases h2
theorem amvs_ok (hL : aRL n rho L Lz) (hT : aRT gt n rho O A st) : ∀ {ms : List aMs} {k : aMv → Bool}, amvs L O ms k = true → ∃ va vs, k va = true ∧ mvz Lz st ms vs ∧ amr n rho va vs ∧ ∀ vs', mvz Lz st ms vs' → vs' = vs := by
  intro ms
  induction ms with
  | nil =>
    intro k h
    refine ⟨[], [], h, trivial, trivial, fun vs' hv => ?_⟩
    cases vs' with
    | nil => rfl
    | cons y t => exact absurd hv (by cases y <;> exact id)
  | cons x t ih =>
    intro k h
    rcases x with p | ⟨y, up, bd⟩
    · obtain ⟨va, vs, h1, h2, h3, h4⟩ := ih (k := fun r => k (.inl p :: r)) h
      refine ⟨.inl p :: va, .inl p :: vs, h1, ⟨rfl, h2⟩, ⟨rfl, h3⟩, fun vs' hv => ?_⟩
      cases vs' with
      | nil => exact absurd hv id
      | cons w s =>
        rcases w with p' | w
        · obtain ⟨e, r⟩ : p' = p ∧ mvz Lz st t s := hv
          rw [e, h4 s r]
        · exact absurd hv id
    · obtain ⟨v, z, g1, g2, g3, g4⟩ := amv_ok hL hT (show amv L O y (fun v => amvs L O t (fun r => k (.inr (up, bd, v) :: r))) = true from h)
      obtain ⟨va, vs, h1, h2, h3, h4⟩ := ih (k := fun r => k (.inr (up, bd, v) :: r)) g1
      refine ⟨.inr (up, bd, v) :: va, .inr (up, bd, z) :: vs, h1, ⟨rfl, rfl, g3, h2⟩, ⟨rfl, rfl, g2, h3⟩, fun vs' hv => ?_⟩
      cases vs' with
      | nil => exact absurd hv id
      | cons w s =>
        rcases w with p' | ⟨w1, w2, w3⟩
        · exact absurd hv id
        · obtain ⟨e1, e2, e3, r⟩ : w1 = up ∧ w2 = bd ∧ mz Lz st y w3 ∧ mvz Lz st t s := hv
          rw [e1, e2, g4 w3 e3, h4 s r]
end AVS
