/-! states of both executors beside each other -/
def zlk (L : zL) (i : Nat) : Option zV := match L with
  | [] => none
  | q :: t => if q.1 = i then some q.2 else zlk t i
def alk (L : aL) (i : Nat) : Option aV := match L with
  | [] => none
  | q :: t => if q.1 = i then some q.2 else alk t i
theorem zget_of {L : zL} {i : Nat} {u : zV} {k : zV → Prop} (h : zlk L i = some u) (hk : k u) : zget L i k := by
  induction L with
  | nil => cases h
  | cons q t ih =>
    show cond (Nat.beq q.1 i) (k q.2) (zget t i k)
    rw [zbeq]
    unfold zlk at h
    by_cases e : q.1 = i
    · rw [if_pos e] at h
      cases h
      rw [decide_eq_true e]
      exact hk
    · rw [if_neg e] at h
      rw [decide_eq_false e]
      exact ih h
theorem aget_ok {L : aL} {i : Nat} {k : aV → Bool} (h : aget L i k = true) : ∃ v, alk L i = some v ∧ k v = true := by
  induction L with
  | nil => cases h
  | cons q t ih =>
    change cond (Nat.beq q.1 i) (k q.2) (aget t i k) = true at h
    rw [zbeq] at h
    unfold alk
    by_cases e : q.1 = i
    · rw [decide_eq_true e] at h
      rw [if_pos e]
      exact ⟨q.2, rfl, h⟩
    · rw [decide_eq_false e] at h
      rw [if_neg e]
      exact ih h
def aRL (n : Nat) (rho : Nat → Int) (L : aL) (Lz : zL) : Prop := ∀ i v, alk L i = some v → ∃ u, zlk Lz i = some u ∧ avr n rho v u
def aRS (n : Nat) (rho : Nat → Int) : List aV → List zV → Prop
  | [], [] => True
  | v :: S, u :: Sz => avr n rho v u ∧ aRS n rho S Sz
  | _, _ => False
theorem aRL.ext {n n' : Nat} {rho rho' : Nat → Int} {L : aL} {Lz : zL} (h : aRL n rho L Lz) (e : aext n rho n' rho') : aRL n' rho' L Lz := fun i v hv => by
  obtain ⟨u, h1, h2⟩ := h i v hv
  exact ⟨u, h1, h2.ext e⟩
theorem aRS.ext {n n' : Nat} {rho rho' : Nat → Int} (e : aext n rho n' rho') : ∀ {S : List aV} {Sz : List zV}, aRS n rho S Sz → aRS n' rho' S Sz
  | [], [], _ => trivial
  | _ :: _, _ :: _, h => ⟨h.1.ext e, aRS.ext e h.2⟩
  | [], _ :: _, h => h
  | _ :: _, [], h => h
theorem avr_cat {n : Nat} {rho : Nat → Int} {v : aV} {u : zV} (h : avr n rho v u) : zcat u = acat v := by
  rcases v with a | (a | c) <;> rcases u with z | (z | (o | j)) <;> first | rfl | exact absurd h id
theorem alk_fil {P : Nat × aV → Bool} {L : aL} {i : Nat} {v : aV} (hP : ∀ u u', P (i, u) = P (i, u')) (h : alk (afil P L) i = some v) : alk L i = some v ∧ P (i, v) = true := by
  induction L with
  | nil => cases h
  | cons q t ih =>
    change alk (cond (P q) (q :: afil P t) (afil P t)) i = some v at h
    unfold alk
    cases c : P q with
    | true =>
      rw [c] at h
      change (if q.1 = i then some q.2 else alk (afil P t) i) = some v at h
      by_cases e : q.1 = i
      · rw [if_pos e] at h ⊢
        cases h
        refine ⟨rfl, ?_⟩
        rw [← e]
        exact c
      · rw [if_neg e] at h ⊢
        exact ih h
    | false =>
      rw [c] at h
      obtain ⟨h1, h2⟩ := ih h
      by_cases e : q.1 = i
      · exfalso
        have h3 : P (i, q.2) = false := by rw [← e]; exact c
        rw [hP v q.2, h3] at h2
        cases h2
      · rw [if_neg e]
        exact ⟨h1, h2⟩
theorem zlk_fil {P : Nat × zV → Bool} {L : zL} {i : Nat} {u : zV} (h : zlk L i = some u) (hP : P (i, u) = true) : zlk (zfil P L) i = some u := by
  induction L with
  | nil => cases h
  | cons q t ih =>
    unfold zlk at h
    show zlk (cond (P q) (q :: zfil P t) (zfil P t)) i = some u
    by_cases e : q.1 = i
    · rw [if_pos e] at h
      cases h
      have : P q = true := by rw [← e] at hP; exact hP
      rw [this]
      show (if q.1 = i then some q.2 else _) = _
      rw [if_pos e]
    · rw [if_neg e] at h
      cases c : P q with
      | true =>
        show (if q.1 = i then some q.2 else zlk (zfil P t) i) = _
        rw [if_neg e]
        exact ih h
      | false => exact ih h
theorem anl_ok {L : aL} {a i : Nat} {v : aV} (h : anl L a = true) (hi : Nat.succ i = a) (hv : alk L i = some v) : acat v = 1 := by
  induction L with
  | nil => cases hv
  | cons q t ih =>
    change cond (Nat.beq (Nat.succ q.1) a) (Nat.beq (acat q.2) 1) (anl t a) = true at h
    unfold alk at hv
    rw [zbeq] at h
    by_cases e : q.1 = i
    · rw [if_pos e] at hv
      cases hv
      rw [decide_eq_true (by omega)] at h
      exact rx_bq h
    · rw [if_neg e] at hv
      rw [decide_eq_false (by omega)] at h
      exact ih h hv
theorem aRL_put1 {n : Nat} {rho : Nat → Int} {L : aL} {Lz : zL} {a : Nat} {v : aV} {u : zV} (h : aRL n rho L Lz) (hl : anl L a = true) (hv : avr n rho v u) : aRL n rho ((a, v) :: afil (aP1 a) L) ((a, u) :: zfil (zP1 a) Lz) := by
  intro i w hw
  unfold alk at hw
  by_cases e : a = i
  · rw [if_pos e] at hw
    cases hw
    refine ⟨u, ?_, hv⟩
    show (if a = i then some u else _) = _
    rw [if_pos e]
  · rw [if_neg e] at hw
    obtain ⟨h1, -⟩ := alk_fil (fun _ _ => rfl) hw
    obtain ⟨x, h3, h4⟩ := h i w h1
    refine ⟨x, ?_, h4⟩
    show (if a = i then some u else zlk (zfil (zP1 a) Lz) i) = _
    rw [if_neg e]
    refine zlk_fil h3 ?_
    unfold zP1
    rw [zbeq, zbeq, zbeq]
    by_cases e2 : Nat.succ i = a
    · have := anl_ok hl e2 h1
      rw [avr_cat h4, this]
      simp
      omega
    · simp [e2]
      omega
theorem aRL_put2 {n : Nat} {rho : Nat → Int} {L : aL} {Lz : zL} {a : Nat} {v : aV} {u : zV} (h : aRL n rho L Lz) (hl : anl L a = true) (hv : avr n rho v u) : aRL n rho ((a, v) :: afil (aP2 a) L) ((a, u) :: zfil (zP2 a) Lz) := by
  intro i w hw
  unfold alk at hw
  by_cases e : a = i
  · rw [if_pos e] at hw
    cases hw
    refine ⟨u, ?_, hv⟩
    show (if a = i then some u else _) = _
    rw [if_pos e]
  · rw [if_neg e] at hw
    obtain ⟨h1, h2⟩ := alk_fil (fun _ _ => rfl) hw
    obtain ⟨x, h3, h4⟩ := h i w h1
    refine ⟨x, ?_, h4⟩
    show (if a = i then some u else zlk (zfil (zP2 a) Lz) i) = _
    rw [if_neg e]
    refine zlk_fil h3 ?_
    unfold aP2 at h2
    unfold zP2
    rw [zbeq, zbeq] at h2
    rw [zbeq, zbeq, zbeq, zbeq]
    have e3 : ¬ i = Nat.succ a := by
      intro q
      simp [q] at h2
    by_cases e2 : Nat.succ i = a
    · have := anl_ok hl e2 h1
      rw [avr_cat h4, this]
      simp [e3]
      omega
    · simp [e2, e3]
      omega
/-- the invariant at a slot -/
def gok (gt : aG) (c i : Nat) (z : Int) : Prop := match gt[c]? with
  | some (.inl l) => (match l[i]? with
    | some bs => ∃ b ∈ bs, b.1 ≤ z ∧ z ≤ b.2
    | none => True)
  | some (.inr b) => b.1 ≤ z ∧ z ≤ b.2
  | none => True
def gInv (gt : aG) (st : zS) : Prop := ∀ c i, gok gt c i (st c i)
def olk (O : aO) (c f : Nat) : Option aI := match O with
  | [] => none
  | q :: t => if q.1.1 = c ∧ q.1.2 = f then some q.2 else olk t c f
def ulk (A : aA) (c : Nat) : Option aB := match A with
  | [] => none
  | q :: t => if q.1 = c then some q.2 else ulk t c
def aRT (gt : aG) (n : Nat) (rho : Nat → Int) (O : aO) (A : aA) (st : zS) : Prop :=
  (∀ c i v, olk O c i = some v → (∃ l, gt[c]? = some (.inl l)) ∧ arel n rho v (st c i)) ∧
  (∀ c b, ulk A c = some b → (∃ b', gt[c]? = some (.inr b')) ∧ ∀ i, b.1 ≤ st c i ∧ st c i ≤ b.2) ∧
  (∀ c i, olk O c i = none → ulk A c = none → gok gt c i (st c i))
theorem aRT.ext {gt : aG} {n n' : Nat} {rho rho' : Nat → Int} {O : aO} {A : aA} {st : zS} (h : aRT gt n rho O A st) (e : aext n rho n' rho') : aRT gt n' rho' O A st := ⟨fun c i v hv => ⟨(h.1 c i v hv).1, (h.1 c i v hv).2.ext e⟩, h.2.1, h.2.2⟩
theorem aolk_ok {O : aO} {c f : Nat} {k : aI → Bool} {d : Bool} (h : aolk O c f k d = true) : (∃ v, olk O c f = some v ∧ k v = true) ∨ (olk O c f = none ∧ d = true) := by
  induction O with
  | nil => exact Or.inr ⟨rfl, h⟩
  | cons q t ih =>
    change cond (Nat.beq q.1.1 c && Nat.beq q.1.2 f) (k q.2) (aolk t c f k d) = true at h
    rw [zbeq, zbeq] at h
    unfold olk
    by_cases e : q.1.1 = c ∧ q.1.2 = f
    · rw [decide_eq_true e.1, decide_eq_true e.2] at h
      rw [if_pos e]
      exact Or.inl ⟨q.2, rfl, h⟩
    · rw [if_neg e]
      have : (decide (q.1.1 = c) && decide (q.1.2 = f)) = false := by
        cases c2 : (decide (q.1.1 = c) && decide (q.1.2 = f)) with
        | false => rfl
        | true =>
          obtain ⟨e1, e2⟩ := rx_an c2
          exact absurd ⟨of_decide_eq_true e1, of_decide_eq_true e2⟩ e
      rw [this] at h
      exact ih h
theorem aalk_ok {A : aA} {c : Nat} {k : aB → Bool} {d : Bool} (h : aalk A c k d = true) : (∃ b, ulk A c = some b ∧ k b = true) ∨ (ulk A c = none ∧ d = true) := by
  induction A with
  | nil => exact Or.inr ⟨rfl, h⟩
  | cons q t ih =>
    change cond (Nat.beq q.1 c) (k q.2) (aalk t c k d) = true at h
    rw [zbeq] at h
    unfold ulk
    by_cases e : q.1 = c
    · rw [decide_eq_true e] at h
      rw [if_pos e]
      exact Or.inl ⟨q.2, rfl, h⟩
    · rw [decide_eq_false e] at h
      rw [if_neg e]
      exact ih h
theorem aat_ok {α : Type} {l : List α} : ∀ {n : Nat} {k : α → Bool}, aat l n k = true → ∃ x, l[n]? = some x ∧ k x = true := by
  induction l with
  | nil => intro n k h; cases h
  | cons a t ih =>
    intro n k h
    cases n with
    | zero => exact ⟨a, rfl, h⟩
    | succ m =>
      obtain ⟨x, h1, h2⟩ := ih (n := m) h
      exact ⟨x, by simpa using h1, h2⟩
theorem zat_of {α : Type} {l : List α} : ∀ {n : Nat} {x : α} {k : α → Prop}, l[n]? = some x → k x → zat l n k := by
  induction l with
  | nil => intro n x k h; simp at h
  | cons a t ih =>
    intro n x k h hk
    cases n with
    | zero => simp at h; rw [← h] at hk; exact hk
    | succ m => exact ih (n := m) (by simpa using h) hk
theorem aall_ok {α : Type} {P : α → Bool} {l : List α} (h : aall P l = true) : ∀ x ∈ l, P x = true := by
  induction l with
  | nil => intro x hx; cases hx
  | cons a t ih =>
    change cond (P a) (aall P t) false = true at h
    intro x hx
    cases c : P a with
    | false => rw [c] at h; cases h
    | true =>
      rw [c] at h
      rcases List.mem_cons.mp hx with e | e
      · rw [e]; exact c
      · exact ih h x e
theorem agb_ok {gt : aG} {c i : Nat} {k : List aB → Bool} (h : agb gt c i k = true) : ∃ l bs, gt[c]? = some (.inl l) ∧ l[i]? = some bs ∧ k bs = true := by
  obtain ⟨x, h1, h2⟩ := aat_ok h
  rcases x with l | b
  · obtain ⟨bs, h3, h4⟩ := aat_ok (show aat l i k = true from h2)
    exact ⟨l, bs, h1, h3, h4⟩
  · cases h2
theorem olk_s (O : aO) (c f : Nat) (v : aI) (c' f' : Nat) : olk (aos O c f v) c' f' = if c = c' ∧ f = f' then some v else olk O c' f' := by
  unfold aos
  show (if c = c' ∧ f = f' then some v else olk (afil _ O) c' f') = _
  by_cases e : c = c' ∧ f = f'
  · rw [if_pos e, if_pos e]
  · rw [if_neg e, if_neg e]
    induction O with
    | nil => rfl
    | cons q t ih =>
      show olk (cond (!(Nat.beq q.1.1 c && Nat.beq q.1.2 f)) (q :: afil _ t) (afil _ t)) c' f' = if q.1.1 = c' ∧ q.1.2 = f' then some q.2 else olk t c' f'
      rw [zbeq, zbeq]
      by_cases e2 : q.1.1 = c ∧ q.1.2 = f
      · rw [decide_eq_true e2.1, decide_eq_true e2.2, if_neg (fun g => e ⟨by rw [← e2.1, g.1], by rw [← e2.2, g.2]⟩)]
        exact ih
      · have : (!(decide (q.1.1 = c) && decide (q.1.2 = f))) = true := by
          cases c2 : (decide (q.1.1 = c) && decide (q.1.2 = f)) with
          | false => rfl
          | true =>
            obtain ⟨e3, e4⟩ := rx_an c2
            exact absurd ⟨of_decide_eq_true e3, of_decide_eq_true e4⟩ e2
        rw [this]
        show (if q.1.1 = c' ∧ q.1.2 = f' then some q.2 else olk (afil _ t) c' f') = _
        rw [ih]
theorem ulk_s (A : aA) (c : Nat) (b : aB) (c' : Nat) : ulk (aas0 A c b) c' = if c = c' then some b else ulk A c' := by
  unfold aas0
  show (if c = c' then some b else ulk (afil _ A) c') = _
  by_cases e : c = c'
  · rw [if_pos e, if_pos e]
  · rw [if_neg e, if_neg e]
    induction A with
    | nil => rfl
    | cons q t ih =>
      show ulk (cond (!Nat.beq q.1 c) (q :: afil _ t) (afil _ t)) c' = if q.1 = c' then some q.2 else ulk t c'
      rw [zbeq]
      by_cases e2 : q.1 = c
      · rw [decide_eq_true e2, if_neg (fun g => e (by rw [← e2, g]))]
        exact ih
      · rw [decide_eq_false e2]
        show (if q.1 = c' then some q.2 else ulk (afil _ t) c') = _
        rw [ih]
theorem aRT_put {gt : aG} {n : Nat} {rho : Nat → Int} {O : aO} {A : aA} {st : zS} {c f : Nat} {v : aI} {z : Int} {l : List (List aB)} (h : aRT gt n rho O A st) (hg : gt[c]? = some (.inl l)) (hv : arel n rho v z) : aRT gt n rho (aos O c f v) A (zup st c f z) := by
  refine ⟨fun c' i v' hv' => ?_, fun c' b hb => ?_, fun c' i h1 h2 => ?_⟩
  · rw [olk_s] at hv'
    rw [zup_if]
    by_cases e : c = c' ∧ f = i
    · rw [if_pos e] at hv'
      cases hv'
      rw [if_pos ⟨e.1.symm, e.2.symm⟩, ← e.1]
      exact ⟨⟨l, hg⟩, hv⟩
    · rw [if_neg e] at hv'
      rw [if_neg (fun g => e ⟨g.1.symm, g.2.symm⟩)]
      exact h.1 c' i v' hv'
  · obtain ⟨⟨b', h1⟩, h2⟩ := h.2.1 c' b hb
    refine ⟨⟨b', h1⟩, fun i => ?_⟩
    have e : ¬ c' = c := by
      intro q
      rw [q, hg] at h1
      cases h1
    rw [zup_nc st z e]
    exact h2 i
  · rw [olk_s] at h1
    by_cases e : c = c' ∧ f = i
    · rw [if_pos e] at h1; cases h1
    · rw [if_neg e] at h1
      rw [zup_ne st z (fun g => e ⟨g.1.symm, g.2.symm⟩)]
      exact h.2.2 c' i h1 h2
theorem aRT_puta {gt : aG} {n : Nat} {rho : Nat → Int} {O : aO} {A : aA} {st st' : zS} {c : Nat} {b0 b : aB} (h : aRT gt n rho O A st) (hg : gt[c]? = some (.inr b0)) (hn : ∀ c' i, ¬ c' = c → st' c' i = st c' i) (hb : ∀ i, b.1 ≤ st' c i ∧ st' c i ≤ b.2) : aRT gt n rho O (aas0 A c b) st' := by
  refine ⟨fun c' i v' hv' => ?_, fun c' b' hb' => ?_, fun c' i h1 h2 => ?_⟩
  · obtain ⟨⟨l, h1⟩, h2⟩ := h.1 c' i v' hv'
    have e : ¬ c' = c := by
      intro q
      rw [q, hg] at h1
      cases h1
    rw [hn c' i e]
    exact ⟨⟨l, h1⟩, h2⟩
  · rw [ulk_s] at hb'
    by_cases e : c = c'
    · rw [if_pos e] at hb'
      cases hb'
      subst e
      exact ⟨⟨b0, hg⟩, hb⟩
    · rw [if_neg e] at hb'
      obtain ⟨h1, h2⟩ := h.2.1 c' b' hb'
      refine ⟨h1, fun i => ?_⟩
      rw [hn c' i (fun q => e q.symm)]
      exact h2 i
  · rw [ulk_s] at h2
    by_cases e : c = c'
    · rw [if_pos e] at h2; cases h2
    · rw [if_neg e] at h2
      rw [hn c' i (fun q => e q.symm)]
      exact h.2.2 c' i h1 h2
theorem aab_ok {gt : aG} {n : Nat} {rho : Nat → Int} {O : aO} {A : aA} {st : zS} {c : Nat} {k : aB → Bool} (h : aRT gt n rho O A st) (hk : aab gt A c k = true) : ∃ b b0, gt[c]? = some (.inr b0) ∧ k b = true ∧ ∀ i, b.1 ≤ st c i ∧ st c i ≤ b.2 := by
  rcases aalk_ok hk with ⟨b, h1, h2⟩ | ⟨h1, h2⟩
  · obtain ⟨⟨b0, h3⟩, h4⟩ := h.2.1 c b h1
    exact ⟨b, b0, h3, h2, h4⟩
  · obtain ⟨x, h3, h4⟩ := aat_ok h2
    rcases x with l | b
    · cases h4
    · refine ⟨b, b, h3, h4, fun i => ?_⟩
      have h5 : olk O c i = none := by
        cases q : olk O c i with
        | none => rfl
        | some v =>
          obtain ⟨⟨l, h6⟩, -⟩ := h.1 c i v q
          rw [h3] at h6
          cases h6
      have h7 := h.2.2 c i h5 h1
      unfold gok at h7
      rw [h3] at h7
      exact h7
/-- all in the invariant -/
theorem aRT_inv {gt : aG} {F : aF} {rho : Nat → Int} {O : aO} {A : aA} {st : zS} (hF : aokF F rho) (h : aRT gt (afl F) rho O A st) (hO : aokO gt F O = true) (hA : aokA gt A = true) : gInv gt st := by
  intro c i
  cases q : olk O c i with
  | some v =>
    have hr := (h.1 c i v q).2
    have hm : ((c, i), v) ∈ O := by
      clear hr h hO
      induction O with
      | nil => cases q
      | cons p t ih =>
        unfold olk at q
        by_cases e : p.1.1 = c ∧ p.1.2 = i
        · rw [if_pos e] at q
          cases q
          rw [← e.1, ← e.2]
          exact List.mem_cons_self
        · rw [if_neg e] at q
          exact List.mem_cons_of_mem _ (ih q)
    obtain ⟨l, bs, h1, h2, h3⟩ := agb_ok (aall_ok hO _ hm)
    have hb := arg_ok hF hr
    unfold gok
    rw [h1]
    dsimp only
    rw [h2]
    dsimp only
    clear h2
    induction bs with
    | nil => cases h3
    | cons b t ih =>
      change cond (ain b (arg F v)) true _ = true at h3
      cases c2 : ain b (arg F v) with
      | true =>
        have := ain_ok c2
        exact ⟨b, List.mem_cons_self, by omega, by omega⟩
      | false =>
        rw [c2] at h3
        obtain ⟨b', hb', hz⟩ := ih h3
        exact ⟨b', List.mem_cons_of_mem _ hb', hz⟩
  | none =>
    cases q2 : ulk A c with
    | none => exact h.2.2 c i q q2
    | some b =>
      have h4 := (h.2.1 c b q2).2 i
      have hm : (c, b) ∈ A := by
        clear h4 h hA
        induction A with
        | nil => cases q2
        | cons p t ih =>
          unfold ulk at q2
          by_cases e : p.1 = c
          · rw [if_pos e] at q2
            cases q2
            rw [← e]
            exact List.mem_cons_self
          · rw [if_neg e] at q2
            exact List.mem_cons_of_mem _ (ih q2)
      obtain ⟨x, h1, h2⟩ := aat_ok (aall_ok hA _ hm)
      rcases x with l | b'
      · cases h2
      · have h2 := ain_ok (show ain b' b = true from h2)
        unfold gok
        rw [h1]
        dsimp only
        omega
