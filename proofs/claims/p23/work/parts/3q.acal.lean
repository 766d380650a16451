/-! calls of the interval executor; its runs -/
def aTz (t : aT) (u : zV) : Prop := match t, u with
  | .inl b, .inl z => b.1 ≤ z ∧ z ≤ b.2
  | .inr (.inl b), .inr (.inl z) => b.1 ≤ z ∧ z ≤ b.2
  | .inr (.inr c), .inr (.inr (.inl o)) => c = o
  | _, _ => False
def aTs : List aT → List zV → Prop
  | [], [] => True
  | t :: ts, u :: us => aTz t u ∧ aTs ts us
  | _, _ => False
def aRz (r : Option (aB ⊕ aB)) (u : Option zV) : Prop := match r, u with
  | none, none => True
  | some (.inl b), some (.inl z) => b.1 ≤ z ∧ z ≤ b.2
  | some (.inr b), some (.inr (.inl z)) => b.1 ≤ z ∧ z ≤ b.2
  | _, _ => False
/-- the frames that a summary asks for are at most d -/
def aNd (s : aS) (asz : List zV) (d : Int) : Prop := (s.2.2.2.2.1 = 0 → (s.2.2.2.1 : Int) ≤ d) ∧ (¬ s.2.2.2.2.1 = 0 → ∃ z, asz[s.2.2.2.2.2]? = some (.inl z) ∧ (s.2.2.2.1 : Int) - (s.2.2.2.2.1 : Int) * z ≤ d)
/-- a summary holds of the calls of depth d -/
def aSp (gt : aG) (cl : Nat → zCall) (d nu : Nat) (s : aS) : Prop := ∀ (asz : List zV) (st : zS), aTs s.1 asz → gInv gt st → aNd s asz (d : Int) → ∀ Q : zQ, (∀ rz st', gInv gt st' → aFr s.2.1 st st' → aRz s.2.2.1 rz → Q rz st') → cl d nu asz st Q
theorem amt_ok {F : aF} {rho : Nat → Int} {t : aT} {v : aV} {u : zV} (hF : aokF F rho) (h : amt F t v = true) (hv : avr (afl F) rho v u) : aTz t u := by
  rcases t with b | (b | c)
  · rcases v with x | (x | o)
    · rcases u with z | (z | (o' | j))
      · have h1 := ain_ok (show ain b (arg F x) = true from h)
        have h2 := arg_ok hF (show arel (afl F) rho x z from hv)
        exact ⟨by omega, by omega⟩
      · exact absurd hv id
      · exact absurd hv id
      · exact absurd hv id
    · cases h
    · cases h
  · rcases v with x | (x | o)
    · cases h
    · rcases u with z | (z | (o' | j))
      · exact absurd hv id
      · have h1 := ain_ok (show ain b (arg F x) = true from h)
        have h2 := arg_ok hF (show arel (afl F) rho x z from hv)
        exact ⟨by omega, by omega⟩
      · exact absurd hv id
      · exact absurd hv id
    · cases h
  · rcases v with x | (x | o)
    · cases h
    · cases h
    · rcases u with z | (z | (o' | j))
      · exact absurd hv id
      · exact absurd hv id
      · have h1 := rx_bq (show Nat.beq c o = true from h)
        show c = o'
        rw [h1]
        exact hv
      · exact absurd hv id
theorem ams_ok {F : aF} {rho : Nat → Int} (hF : aokF F rho) : ∀ {ts : List aT} {as : List aV} {asz : List zV}, ams F ts as = true → aRS (afl F) rho as asz → aTs ts asz := by
  intro ts
  induction ts with
  | nil =>
    intro as asz h hv
    cases as with
    | nil => cases asz with
      | nil => trivial
      | cons u t => exact absurd hv id
    | cons v t => cases h
  | cons t ts ih =>
    intro as asz h hv
    cases as with
    | nil => cases h
    | cons v vs =>
      obtain ⟨h1, h2⟩ := acond (show cond (amt F t v) (ams F ts vs) false = true from h)
      obtain ⟨u, us, rfl, h3, h4⟩ := aRS_v hv
      exact ⟨amt_ok hF h1 h3, ih h2 h4⟩
theorem aRS_at {n : Nat} {rho : Nat → Int} : ∀ {as : List aV} {asz : List zV} {i : Nat} {v : aV}, aRS n rho as asz → as[i]? = some v → ∃ u, asz[i]? = some u ∧ avr n rho v u := by
  intro as
  induction as with
  | nil => intro asz i v h hi; simp at hi
  | cons w t ih =>
    intro asz i v h hi
    obtain ⟨u, us, rfl, h1, h2⟩ := aRS_v h
    cases i with
    | zero =>
      simp at hi
      rw [← hi]
      exact ⟨u, rfl, h1⟩
    | succ i =>
      obtain ⟨x, h3, h4⟩ := ih h2 (by simpa using hi)
      exact ⟨x, by simpa using h3, h4⟩
theorem aset_ok {n : Nat} {rho : Nat → Int} {w : aV} : ∀ {as : List aV} {asz : List zV} {i : Nat} {u : zV}, aRS n rho as asz → asz[i]? = some u → avr n rho w u → aRS n rho (aset as i w) asz := by
  intro as
  induction as with
  | nil =>
    intro asz i u h hi hw
    cases asz with
    | nil => simp at hi
    | cons x t => exact absurd h id
  | cons v t ih =>
    intro asz i u h hi hw
    obtain ⟨x, us, rfl, h1, h2⟩ := aRS_v h
    cases i with
    | zero =>
      simp at hi
      rw [← hi] at hw
      exact ⟨hw, h2⟩
    | succ i => exact ⟨h1, ih h2 (by simpa using hi) hw⟩
section ACAL
variable {gt : aG} {m : aM} {st0 : zS} {n0 : Nat} {rho0 : Nat → Int} {F : aF} {rho : Nat → Int} {O : aO} {A : aA} {st : zS} {cl : Nat → zCall} {rk wt zo : Int} {vo : aI} {kc : aE}
theorem andc_ok {j dj d : Nat} {s : aS} {as : List aV} {asz : List zV} (hF : aokF F rho) (hv : aRS (afl F) rho as asz) (hvo : arel (afl F) rho vo zo) (hw : 0 ≤ wt) (hn : rk - wt * zo ≤ (d : Int) + 1) (hj : dj + j = d) (h : andc rk wt vo j F s as = true) : aNd s asz (dj : Int) := by
  have ro := arg_ok hF hvo
  have hm : wt * zo ≤ wt * (arg F vo).2 := Int.mul_le_mul_of_nonneg_left ro.2 hw
  unfold andc at h
  refine ⟨fun e => ?_, fun e => ?_⟩
  · have e1 : Nat.beq s.2.2.2.2.1 0 = true := by rw [zbeq, decide_eq_true e]
    rw [e1] at h
    have h1 := ile_ok (show ile ((s.2.2.2.1 : Int) + (j : Int) + 1) (rk - wt * (arg F vo).2) = true from h)
    omega
  · have e1 : Nat.beq s.2.2.2.2.1 0 = false := by rw [zbeq, decide_eq_false e]
    rw [e1] at h
    obtain ⟨v, h1, h2⟩ := aat_ok (show aat as s.2.2.2.2.2 _ = true from h)
    obtain ⟨u, h3, h4⟩ := aRS_at hv h1
    rcases v with a | (a | c)
    · rcases u with z | (z | (o | i))
      · refine ⟨z, h3, ?_⟩
        have h4 : arel (afl F) rho a z := h4
        have ra := arg_ok hF h4
        cases c1 : (aon a.1 vo.1 && ieq (s.2.2.2.2.1 : Int) wt) with
        | true =>
          simp only [c1] at h2
          obtain ⟨c1, c2⟩ := rx_an c1
          have c1 := aon_ok c1
          have c2 := ieq_ok c2
          have h5 := ile_ok (show ile ((s.2.2.2.1 : Int) - wt * a.2 + (j : Int) + 1) (rk - wt * vo.2) = true from h2)
          have e2 : z - a.2 = zo - vo.2 := by
            obtain ⟨ka, ca⟩ := a
            obtain ⟨kb, cb⟩ := vo
            dsimp only at c1
            subst c1
            cases ka with
            | none => have h4 : z = ca := h4; have hvo : zo = cb := hvo; show z - ca = zo - cb; omega
            | some ka =>
              obtain ⟨-, g1⟩ : ka < afl F ∧ z = rho ka + ca := h4
              obtain ⟨-, g2⟩ : ka < afl F ∧ zo = rho ka + cb := hvo
              show z - ca = zo - cb
              omega
          rw [c2]
          have e3 : wt * z = wt * a.2 + (wt * zo - wt * vo.2) := by
            have : z = a.2 + (zo - vo.2) := by omega
            rw [this, Int.mul_add, Int.mul_sub]
          omega
        | false =>
          simp only [c1] at h2
          have h5 := ile_ok (show ile ((s.2.2.2.1 : Int) - (s.2.2.2.2.1 : Int) * (arg F a).1 + (j : Int) + 1) (rk - wt * (arg F vo).2) = true from h2)
          have h6 : (s.2.2.2.2.1 : Int) * (arg F a).1 ≤ (s.2.2.2.2.1 : Int) * z := Int.mul_le_mul_of_nonneg_left ra.1 (Int.natCast_nonneg _)
          omega
      · exact absurd h4 id
      · exact absurd h4 id
      · exact absurd h4 id
    · cases h2
    · cases h2
theorem olk_fil {P : (Nat × Nat) × aI → Bool} {c i : Nat} {v : aI} (hP : ∀ u u', P ((c, i), u) = P ((c, i), u')) : ∀ {O : aO}, olk (afil P O) c i = some v → olk O c i = some v ∧ P ((c, i), v) = true := by
  intro O
  induction O with
  | nil => intro h; cases h
  | cons q t ih =>
    intro h
    obtain ⟨⟨c', i'⟩, w⟩ := q
    change olk (cond (P ((c', i'), w)) (((c', i'), w) :: afil P t) (afil P t)) c i = some v at h
    unfold olk
    by_cases e : c' = c ∧ i' = i
    · rw [if_pos e]
      obtain ⟨rfl, rfl⟩ := e
      cases c2 : P ((c', i'), w) with
      | true =>
        rw [c2] at h
        change (if c' = c' ∧ i' = i' then some w else _) = some v at h
        rw [if_pos ⟨rfl, rfl⟩] at h
        cases h
        exact ⟨rfl, c2⟩
      | false =>
        rw [c2] at h
        obtain ⟨-, h2⟩ := ih h
        rw [hP v w, c2] at h2
        cases h2
    · rw [if_neg e]
      cases c2 : P ((c', i'), w) with
      | true =>
        rw [c2] at h
        change (if c' = c ∧ i' = i then some w else olk (afil P t) c i) = some v at h
        rw [if_neg e] at h
        exact ih h
      | false => rw [c2] at h; exact ih h
theorem ulk_fil {P : Nat × aB → Bool} {c : Nat} {b : aB} (hP : ∀ u u', P (c, u) = P (c, u')) : ∀ {A : aA}, ulk (afil P A) c = some b → ulk A c = some b ∧ P (c, b) = true := by
  intro A
  induction A with
  | nil => intro h; cases h
  | cons q t ih =>
    intro h
    obtain ⟨c', w⟩ := q
    change ulk (cond (P (c', w)) ((c', w) :: afil P t) (afil P t)) c = some b at h
    unfold ulk
    by_cases e : c' = c
    · rw [if_pos e]
      subst e
      cases c2 : P (c', w) with
      | true =>
        rw [c2] at h
        change (if c' = c' then some w else _) = some b at h
        rw [if_pos rfl] at h
        cases h
        exact ⟨rfl, c2⟩
      | false =>
        rw [c2] at h
        obtain ⟨-, h2⟩ := ih h
        rw [hP b w, c2] at h2
        cases h2
    · rw [if_neg e]
      cases c2 : P (c', w) with
      | true =>
        rw [c2] at h
        change (if c' = c then some w else ulk (afil P t) c) = some b at h
        rw [if_neg e] at h
        exact ih h
      | false => rw [c2] at h; exact ih h
theorem amc_ok {m : aM} {c i : Nat} (h : amc m c = false) : amf m c i = false := by
  cases q : amf m c i with
  | false => rfl
  | true =>
    exfalso
    obtain ⟨l, l2⟩ := m
    have hm : (c, i) ∈ l := amf_ok.mp q
    change (List.rec false (fun (q : Nat × Nat) _ ih => cond (Nat.beq q.1 c) true ih) l : Bool) = false at h
    clear q
    induction l with
    | nil => cases hm
    | cons p t ih =>
      change cond (Nat.beq p.1 c) true _ = false at h
      rw [zbeq] at h
      by_cases e : p.1 = c
      · rw [decide_eq_true e] at h; cases h
      · rw [decide_eq_false e] at h
        rcases List.mem_cons.mp hm with hm | hm
        · exact e (by rw [← hm])
        · exact ih hm h
theorem aRT_call {m' : aM} {n : Nat} {st' : zS} (h : aRT gt n rho O A st) (hG : gInv gt st') (hf : aFr m' st st') : aRT gt n rho (aflO m' O) (aflA m' A) st' := by
  refine ⟨fun c i v hv => ?_, fun c b hb => ?_, fun c i _ _ => hG c i⟩
  · obtain ⟨h1, h2⟩ := olk_fil (fun _ _ => rfl) hv
    have h3 : (amf m' c i || ama m' c) = false := by
      cases q : (amf m' c i || ama m' c) with
      | false => rfl
      | true =>
        have h2 : (!(amf m' c i || ama m' c)) = true := h2
        rw [q] at h2
        cases h2
    obtain ⟨h4, h5⟩ := Bool.or_eq_false_iff.mp h3
    rw [hf c i h4 h5]
    exact h.1 c i v h1
  · obtain ⟨h1, h2⟩ := ulk_fil (fun _ _ => rfl) hb
    have h3 : (ama m' c || amc m' c) = false := by
      cases q : (ama m' c || amc m' c) with
      | false => rfl
      | true =>
        have h2 : (!(ama m' c || amc m' c)) = true := h2
        rw [q] at h2
        cases h2
    obtain ⟨h4, h5⟩ := Bool.or_eq_false_iff.mp h3
    obtain ⟨h6, h7⟩ := h.2.1 c b h1
    refine ⟨h6, fun i => ?_⟩
    rw [hf c i (amc_ok h5) h4]
    exact h7 i
theorem asub_ok {m' : aM} {st' : zS} (h : asub m' m = true) (hf : aFr m' st st') (h0 : aFr m st0 st) : aFr m st0 st' := by
  intro c i h1 h2
  obtain ⟨h3, h4⟩ := rx_an h
  have h5 : amf m' c i = false := by
    cases q : amf m' c i with
    | false => rfl
    | true =>
      have := aall_ok h3 _ (amf_ok.mp q)
      dsimp only at this
      rw [this] at h1
      cases h1
  have h6 : ama m' c = false := by
    cases q : ama m' c with
    | false => rfl
    | true =>
      have := aall_ok h4 _ (ama_ok.mp q)
      rw [this] at h2
      cases h2
  rw [hf c i h5 h6]
  exact h0 c i h1 h2
theorem ause_ok {j dj d nu : Nat} {s : aS} {as : List aV} {asz : List zV} (hF : aokF F rho) (hv : aRS (afl F) rho as asz) (hm : aTs s.1 asz) (hT : aRT gt (afl F) rho O A st) (hfr : aFr m st0 st) (hvo : arel (afl F) rho vo zo) (hw : 0 ≤ wt) (hn : rk - wt * zo ≤ (d : Int) + 1) (hj : dj + j = d) (hs : aSp gt cl dj nu s) (h : ause gt m rk wt vo j s as F O A kc = true) {Q : zQ} (hk : aEs gt m st0 (afl F) rho kc Q) : cl dj nu asz st Q := by
  obtain ⟨h1, h2⟩ := acond h
  obtain ⟨h1, h3⟩ := rx_an h1
  obtain ⟨h1, h4⟩ := rx_an h1
  obtain ⟨h3, h5⟩ := rx_an h3
  refine hs asz st hm (aRT_inv hF hT h1 h4) (andc_ok hF hv hvo hw hn hj h5) Q ?_
  intro rz st' g1 g2 g3
  have hT' : aRT gt (afl F) rho (aflO s.2.1 O) (aflA s.2.1 A) st' := aRT_call hT g1 g2
  have hfr' : aFr m st0 st' := asub_ok h3 g2 hfr
  cases hr : s.2.2.1 with
  | none =>
    rw [hr] at h2 g3
    cases rz with
    | some u => exact absurd g3 id
    | none => exact hk _ _ _ _ h2 rho none st' hF (aext.rf _ _) trivial hT' hfr'
  | some b =>
    rw [hr] at h2 g3
    rcases b with b | b
    · cases rz with
      | none => exact absurd g3 id
      | some u =>
        rcases u with z | (z | (o | i))
        · obtain ⟨F1, v, rho1, k1, k2, k3, k4⟩ := afr_ok (show afr F b _ = true from h2) hF g3.1 g3.2
          exact hk _ _ _ _ k1 rho1 (some (.inl z)) st' k2 k3 k4 (hT'.ext k3) hfr'
        · exact absurd g3 id
        · exact absurd g3 id
        · exact absurd g3 id
    · cases rz with
      | none => exact absurd g3 id
      | some u =>
        rcases u with z | (z | (o | i))
        · exact absurd g3 id
        · obtain ⟨F1, v, rho1, k1, k2, k3, k4⟩ := afr_ok (show afr F b _ = true from h2) hF g3.1 g3.2
          exact hk _ _ _ _ k1 rho1 (some (.inr (.inl z))) st' k2 k3 k4 (hT'.ext k3) hfr'
        · exact absurd g3 id
        · exact absurd g3 id
theorem atry_ok {j : Nat} {as : List aV} : ∀ {ss : List aS}, atry gt m rk wt vo j ss as F O A kc = true → ∃ s, s ∈ ss ∧ ams F s.1 as = true ∧ ause gt m rk wt vo j s as F O A kc = true := by
  intro ss
  induction ss with
  | nil => intro h; cases h
  | cons s t ih =>
    intro h
    change cond (ams F s.1 as) (ause gt m rk wt vo j s as F O A kc) (atry gt m rk wt vo j t as F O A kc) = true at h
    cases c : ams F s.1 as with
    | true => rw [c] at h; exact ⟨s, List.mem_cons_self, c, h⟩
    | false =>
      rw [c] at h
      obtain ⟨s', h1, h2⟩ := ih h
      exact ⟨s', List.mem_cons_of_mem _ h1, h2⟩
theorem aEs.rf {n n' : Nat} {Q : zQ} (h : aEs gt m st0 n rho kc Q) (e : n' = n) : aEs gt m st0 n' rho kc Q := by rw [e]; exact h
theorem aic_ok {it : aIt} {j dj d : Nat} {inl : aC} (hvo : arel n0 rho0 vo zo) (hw : 0 ≤ wt) (hn : rk - wt * zo ≤ (d : Int) + 1) (hj : dj + j = d) (hI : ∀ nu x s, it[nu]? = some x → s ∈ x.2 → aSp gt cl dj nu s) (hinl : aCs gt m st0 n0 rho0 inl (cl dj)) : aCs gt m st0 n0 rho0 (aic gt it m rk wt vo j inl) (cl dj) := by
  intro nu as F O A kc h rho asz st hF he hv hT hfr Q hk
  obtain ⟨x, h1, h2⟩ := aat_ok h
  obtain ⟨sp, ss⟩ := x
  have hvo1 := hvo.ext he
  cases ss with
  | nil => exact hinl _ _ _ _ _ _ h2 rho asz st hF he hv hT hfr Q hk
  | cons s0 st1 =>
    cases sp with
    | none =>
      obtain ⟨s, g1, g2, g3⟩ := atry_ok h2
      exact ause_ok hF hv (ams_ok hF g2 hv) hT hfr hvo1 hw hn hj (hI nu _ s h1 g1) g3 hk
    | some i =>
      obtain ⟨v, g1, g2⟩ := aat_ok (show aat as i _ = true from h2)
      obtain ⟨u, g3, g4⟩ := aRS_at hv g1
      rcases v with a | (a | c)
      · rcases u with z | (z | (o | i'))
        · have g4 : arel (afl F) rho a z := g4
          have ra := arg_ok hF g4
          obtain ⟨F1, k1, k2, k3⟩ := aspl_ok hF g4 g2 ra.1 (by omega)
          obtain ⟨s, e1, e2, e3⟩ := atry_ok k1
          have hv1 : aRS (afl F1) rho (aset as i (.inl (none, z))) asz := by
            rw [k3]
            exact aset_ok hv g3 rfl
          have hT1 : aRT gt (afl F1) rho O A st := by rw [k3]; exact hT
          have hvo2 : arel (afl F1) rho vo zo := by rw [k3]; exact hvo1
          exact ause_ok k2 hv1 (ams_ok k2 e2 hv1) hT1 hfr hvo2 hw hn hj (hI nu _ s h1 e1) e3 (hk.rf k3)
        · exact absurd g4 id
        · exact absurd g4 id
        · exact absurd g4 id
      · cases g2
      · cases g2
end ACAL
