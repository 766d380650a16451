/-! runs of the interval executor -/
def apin : List rx_E → Bool
  | [] => true
  | e :: t => (match t with
    | [] => true
    | e2 :: _ => Nat.blt e.1 e2.1) && apin t
theorem apin_lt : ∀ {l : List rx_E} {a : rx_E}, apin (a :: l) = true → ∀ e ∈ l, a.1 < e.1 := by
  intro l
  induction l with
  | nil => intro a h e he; cases he
  | cons b t ih =>
    intro a h e he
    obtain ⟨h1, h2⟩ := rx_an (show (Nat.blt a.1 b.1 && apin (b :: t)) = true from h)
    have h1 := rx_bt h1
    rcases List.mem_cons.mp he with e1 | e1
    · rw [e1]; exact h1
    · exact Nat.lt_trans h1 (ih h2 e e1)
theorem apin_find {e : rx_E} {rest : List rx_E} : ∀ {pre cd : List rx_E}, apin cd = true → cd = pre ++ e :: rest → rx_find cd e.1 = e :: rest := by
  intro pre
  induction pre with
  | nil =>
    intro cd h hc
    subst hc
    show cond (Nat.beq e.1 e.1) (e :: rest) _ = _
    rw [zbeq, decide_eq_true rfl]
    rfl
  | cons a t ih =>
    intro cd h hc
    subst hc
    have h1 := apin_lt h e (List.mem_append_right _ List.mem_cons_self)
    show cond (Nat.beq a.1 e.1) _ (rx_find (t ++ e :: rest) e.1) = _
    rw [zbeq, decide_eq_false (by omega)]
    exact ih (rx_an (show (_ && apin (t ++ e :: rest)) = true from h)).2 rfl
theorem amem_ok {n : Nat} {l : List Nat} : amem n l = true ↔ n ∈ l := by
  induction l with
  | nil => exact ⟨fun h => (by cases h), fun h => (by cases h)⟩
  | cons q t ih =>
    show cond (Nat.beq q n) true (amem n t) = true ↔ _
    rw [zbeq]
    by_cases e : q = n
    · rw [decide_eq_true e]
      simp [e]
    · rw [decide_eq_false e]
      refine Iff.trans ih ⟨fun h => List.mem_cons_of_mem _ h, fun h => ?_⟩
      rcases List.mem_cons.mp h with h | h
      · exact absurd h.symm e
      · exact h
theorem aargs_ok {n : Nat} {rho : Nat → Int} : ∀ {as : List aV} {asz : List zV} (i : Nat), aRS n rho as asz → aRL n rho (aargs as i) (zargs asz i) := by
  intro as
  induction as with
  | nil => intro asz i h k v hv; cases hv
  | cons v t ih =>
    intro asz i h
    obtain ⟨u, us, rfl, h1, h2⟩ := aRS_v h
    intro k w hw
    change (if i = k then some v else alk (aargs t (i + acat v)) k) = some w at hw
    show ∃ x, (if i = k then some u else zlk (zargs us (i + zcat u)) k) = some x ∧ avr n rho w x
    by_cases e : i = k
    · rw [if_pos e] at hw
      cases hw
      rw [if_pos e]
      exact ⟨u, rfl, h1⟩
    · rw [if_neg e] at hw
      rw [if_neg e, avr_cat h1]
      exact ih (i + acat v) h2 k w hw
def aJs (gt : aG) (m : aM) (st0 : zS) (n0 : Nat) (rho0 : Nat → Int) (cd : List rx_E) (hd : List Nat) (jc : aJ) (Kz : zG) : Prop := ∀ pc L F O A, pc ∈ hd → jc pc L F O A = true → ∀ rho Lz st, aX gt m st0 n0 rho0 F rho L [] O A Lz [] st → Kz (rx_find cd pc) Lz [] st
/-- what stands for a method's table -/
def aTb (Sh : List zC) (tb : rx_T) (cl : Nat → zCall) : Prop := ∀ (d nu : Nat) (x : List rx_E × Nat × Nat × Nat × Nat), tb[nu]? = some x → ∀ (as : List zV) (st : zS) (Q : zQ), zcats as ≤ x.2.1 → (∀ Kz : zG, zcl Sh x.1 x.2.1 x.2.2.2.2 (cl d) Q Kz → zsf x.1 Kz → zsl Kz → Kz x.1 (zargs as 0) [] st) → cl (d + 1) nu as st Q
section ARUN
variable {Sh : List zC} {gt : aG} {it : aIt} {tb : rx_T} {m : aM} {st0 : zS} {cl : Nat → zCall} {rk wt zo : Int} {vo : aI} {d : Nat}
theorem ar_ok (hTb : aTb Sh tb cl) (hw : 0 ≤ wt) (hn : rk - wt * zo ≤ (d : Int) + 1) (hI : ∀ d', d' ≤ d → ∀ nu x s, it[nu]? = some x → s ∈ x.2 → aSp gt cl d' nu s) : ∀ (n j dj : Nat) (cd : List rx_E) (nL q : Nat) (hd : List Nat) (jc : aJ) (kc : aE) (Kz : zG) (Rt : zQ) (n0 : Nat) (rho0 : Nat → Int), dj + j = d → arel n0 rho0 vo zo → zcl Sh cd nL q (cl dj) Rt Kz → zsf cd Kz → (hd = [] ∨ apin cd = true) → aEs gt m st0 n0 rho0 kc Rt → aJs gt m st0 n0 rho0 cd hd jc Kz → aKs gt m st0 n0 rho0 (ar Sh gt it tb m rk wt vo n j cd nL q hd jc kc) Kz := by
  intro n
  induction n with
  | zero => intro j dj cd nL q hd jc kc Kz Rt n0 rho0 _ _ _ _ _ _ _ cs L S F O A h; cases h
  | succ n ih =>
    intro j dj cd nL q hd jc kc Kz Rt n0 rho0 hj hvo hcl hsf hpi hE hJ cs L S F O A h rho Lz Sz st X
    cases cs with
    | nil => cases h
    | cons e rest =>
      have h : cond (amem e.1 hd) (match (generalizing := false) S with
        | [] => jc e.1 L F O A
        | _ :: _ => false) (astep Sh gt m cd nL q (aic gt it m rk wt vo j (fun nu as F O A kc' => aat tb nu (fun x => cond (Nat.ble (acats as) x.2.1 && ile ((j : Int) + 2) (rk - wt * (arg F vo).2)) (ar Sh gt it tb m rk wt vo n (j + 1) x.1 x.2.1 x.2.2.2.2 [] (fun _ _ _ _ _ => false) kc' x.1 (aargs as 0) [] F O A) false))) kc (ar Sh gt it tb m rk wt vo n j cd nL q hd jc kc) e rest L S F O A) = true := h
      cases c : amem e.1 hd with
      | true =>
        rw [c] at h
        cases S with
        | cons v t => cases h
        | nil =>
          have hS := X.2.2.2.1
          cases Sz with
          | cons u t => exact absurd hS id
          | nil =>
            refine hsf _ _ _ _ (by simp) (fun ⟨pre, hp⟩ => ?_)
            have hm := amem_ok.mp c
            rcases hpi with hz | hpi
            · rw [hz] at hm; cases hm
            · have hf := hJ e.1 L F O A hm h rho Lz st X
              rw [apin_find hpi hp] at hf
              exact hf
      | false =>
        rw [c] at h
        refine hcl e rest Lz Sz st (astep_ok (ih j dj cd nL q hd jc kc Kz Rt n0 rho0 hj hvo hcl hsf hpi hE hJ) hE ?_ X h)
        refine aic_ok hvo hw hn hj (hI dj (by omega)) ?_
        intro nu as F O A kc' h rho asz st hF he hv hT hfr Q hk
        obtain ⟨x, h1, h2⟩ := aat_ok h
        obtain ⟨h2, h3⟩ := acond h2
        obtain ⟨h2, h4⟩ := rx_an h2
        have h4 := ile_ok h4
        have ro := arg_ok hF (hvo.ext he)
        have hmm : wt * zo ≤ wt * (arg F vo).2 := Int.mul_le_mul_of_nonneg_left ro.2 hw
        obtain ⟨dk, rfl⟩ : ∃ dk, dj = dk + 1 := ⟨dj - 1, by omega⟩
        refine hTb dk nu x h1 asz st Q (by rw [acats_z hv]; exact rx_bl h2) (fun Kz' hcl' hsf' _ => ?_)
        exact ih (j + 1) dk x.1 x.2.1 x.2.2.2.2 [] (fun _ _ _ _ _ => false) kc' Kz' Q (afl F) rho (by omega) (hvo.ext he) hcl' hsf' (Or.inl rfl) hk (fun pc L F O A hpc => by cases hpc) x.1 (aargs as 0) [] F O A h3 rho (zargs asz 0) [] st ⟨hF, aext.rf _ _, aargs_ok 0 hv, trivial, hT, hfr⟩
theorem ar1_ok (hTb : aTb Sh tb cl) (hw : 0 ≤ wt) (hn : rk - wt * zo ≤ (d : Int) + 1) (hI : ∀ d', d' ≤ d → ∀ nu x s, it[nu]? = some x → s ∈ x.2 → aSp gt cl d' nu s) {n : Nat} {cd : List rx_E} {nL q : Nat} {hd : List Nat} {jc : aJ} {kc : aE} {Kz : zG} {Rt : zQ} {n0 : Nat} {rho0 : Nat → Int} (hvo : arel n0 rho0 vo zo) (hcl : zcl Sh cd nL q (cl d) Rt Kz) (hsf : zsf cd Kz) (hpi : apin cd = true) (hE : aEs gt m st0 n0 rho0 kc Rt) (hJ : aJs gt m st0 n0 rho0 cd hd jc Kz) {cs : List rx_E} {L : aL} {F : aF} {O : aO} {A : aA} (h : ar1 Sh gt it tb m rk wt vo n cd nL q hd jc kc cs L F O A = true) {rho : Nat → Int} {Lz : zL} {st : zS} (X : aX gt m st0 n0 rho0 F rho L [] O A Lz [] st) : Kz cs Lz [] st := by
  cases cs with
  | nil => cases h
  | cons e rest =>
    refine hcl e rest Lz [] st (astep_ok (ar_ok hTb hw hn hI n 0 d cd nL q hd jc kc Kz Rt n0 rho0 rfl hvo hcl hsf (Or.inr hpi) hE hJ) hE ?_ X h)
    refine aic_ok hvo hw hn (j := 0) (dj := d) rfl (hI d (Nat.le_refl _)) ?_
    intro nu as F O A kc' h rho asz st hF he hv hT hfr Q hk
    obtain ⟨x, h1, h2⟩ := aat_ok h
    obtain ⟨h2, h3⟩ := acond h2
    obtain ⟨h2, h4⟩ := rx_an h2
    have h4 := ile_ok h4
    have ro := arg_ok hF (hvo.ext he)
    have hmm : wt * zo ≤ wt * (arg F vo).2 := Int.mul_le_mul_of_nonneg_left ro.2 hw
    obtain ⟨dk, rfl⟩ : ∃ dk, d = dk + 1 := ⟨d - 1, by omega⟩
    refine hTb dk nu x h1 asz st Q (by rw [acats_z hv]; exact rx_bl h2) (fun Kz' hcl' hsf' _ => ?_)
    exact ar_ok hTb hw hn hI n (0 + 1) dk x.1 x.2.1 x.2.2.2.2 [] (fun _ _ _ _ _ => false) kc' Kz' Q (afl F) rho (by omega) (hvo.ext he) hcl' hsf' (Or.inl rfl) hk (fun pc L F O A hpc => by cases hpc) x.1 (aargs as 0) [] F O A h3 rho (zargs asz 0) [] st ⟨hF, aext.rf _ _, aargs_ok 0 hv, trivial, hT, hfr⟩
end ARUN
