/-! summaries by the interval executor -/
theorem amr_ext {n n' : Nat} {rho rho' : Nat → Int} (e : aext n rho n' rho') : ∀ {va : aMv} {vs : mV}, amr n rho va vs → amr n' rho' va vs
  | [], [], _ => trivial
  | .inl _ :: _, .inl _ :: _, h => ⟨h.1, amr_ext e h.2⟩
  | .inr _ :: _, .inr _ :: _, h => ⟨h.1, h.2.1, h.2.2.1.ext e, amr_ext e h.2.2.2⟩
  | [], _ :: _, h => absurd h id
  | .inl _ :: _, [], h => absurd h id
  | .inr _ :: _, [], h => absurd h id
  | .inl _ :: _, .inr _ :: _, h => absurd h id
  | .inr _ :: _, .inl _ :: _, h => absurd h id
section AINS
variable {Sh : List zC} {gt : aG} {it : aIt} {tb : rx_T} {m : aM} {st0 : zS} {cl : Nat → zCall} {d : Nat}
theorem asl_ok {Lz : zL} : ∀ {sp : List (Nat × aT)} {F : aF} {k : aL → aF → Bool} {rho : Nat → Int}, asl sp F k = true → aokF F rho → (∀ q ∈ sp, ∃ u, zlk Lz q.1 = some u ∧ aTz q.2 u) → ∃ L F1 rho1, k L F1 = true ∧ aokF F1 rho1 ∧ aext (afl F) rho (afl F1) rho1 ∧ aRL (afl F1) rho1 L Lz := by
  intro sp
  induction sp with
  | nil => intro F k rho h hF _; exact ⟨[], F, rho, h, hF, aext.rf _ _, fun i v hv => by cases hv⟩
  | cons q t ih =>
    intro F k rho h hF hq
    obtain ⟨u, h1, h2⟩ := hq q List.mem_cons_self
    have ht : ∀ p ∈ t, ∃ u, zlk Lz p.1 = some u ∧ aTz p.2 u := fun p hp => hq p (List.mem_cons_of_mem _ hp)
    have key : ∀ {L : aL} {v : aV} {n : Nat} {rho : Nat → Int}, aRL n rho L Lz → avr n rho v u → aRL n rho ((q.1, v) :: L) Lz := by
      intro L v n rho hL hv i w hw
      unfold alk at hw
      by_cases e : q.1 = i
      · rw [if_pos e] at hw
        cases hw
        rw [← e]
        exact ⟨u, h1, hv⟩
      · rw [if_neg e] at hw
        exact hL i w hw
    obtain ⟨i, ty⟩ := q
    rcases ty with b | (b | c)
    · rcases u with z | (z | (o | j))
      · obtain ⟨F1, v, rho1, k1, k2, k3, k4⟩ := afr_ok (show afr F b (fun F1 v => asl t F1 (fun L F2 => k ((i, .inl v) :: L) F2)) = true from h) hF h2.1 h2.2
        obtain ⟨L, F2, rho2, g1, g2, g3, g4⟩ := ih k1 k2 ht
        exact ⟨_, F2, rho2, g1, g2, k3.tr g3, key g4 (show arel _ _ _ _ from k4.ext g3)⟩
      · exact absurd h2 id
      · exact absurd h2 id
      · exact absurd h2 id
    · rcases u with z | (z | (o | j))
      · exact absurd h2 id
      · obtain ⟨F1, v, rho1, k1, k2, k3, k4⟩ := afr_ok (show afr F b (fun F1 v => asl t F1 (fun L F2 => k ((i, .inr (.inl v)) :: L) F2)) = true from h) hF h2.1 h2.2
        obtain ⟨L, F2, rho2, g1, g2, g3, g4⟩ := ih k1 k2 ht
        exact ⟨_, F2, rho2, g1, g2, k3.tr g3, key (v := .inr (.inl v)) g4 (show arel _ _ _ _ from k4.ext g3)⟩
      · exact absurd h2 id
      · exact absurd h2 id
    · rcases u with z | (z | (o | j))
      · exact absurd h2 id
      · exact absurd h2 id
      · obtain ⟨L, F2, rho2, g1, g2, g3, g4⟩ := ih (k := fun L F2 => k ((i, .inr (.inr c)) :: L) F2) h hF ht
        exact ⟨_, F2, rho2, g1, g2, g3, key (v := .inr (.inr c)) g4 h2⟩
      · exact absurd h2 id
theorem zup_self (st : zS) (c i : Nat) : zup st c i (st c i) = st := by
  funext c' i'
  rw [zup_if]
  split
  · rename_i e
    rw [e.1, e.2]
  · rfl
theorem aso_ok {st : zS} (hG : gInv gt st) : ∀ {sp : List (Nat × Nat)} {F : aF} {O : aO} {k : aF → aO → Bool} {rho : Nat → Int}, aso gt sp F O k = true → aokF F rho → aRT gt (afl F) rho O [] st → ∃ F1 O1 rho1, k F1 O1 = true ∧ aokF F1 rho1 ∧ aext (afl F) rho (afl F1) rho1 ∧ aRT gt (afl F1) rho1 O1 [] st := by
  intro sp
  induction sp with
  | nil => intro F O k rho h hF hT; exact ⟨F, O, rho, h, hF, aext.rf _ _, hT⟩
  | cons q t ih =>
    intro F O k rho h hF hT
    obtain ⟨l, bs, h1, h2, h3⟩ := agb_ok (show agb gt q.1 q.2 (fun bs => aall (fun b => afr F b (fun F1 v => aso gt t F1 (aos O q.1 q.2 v) k)) bs) = true from h)
    have h4 := hG q.1 q.2
    unfold gok at h4
    rw [h1] at h4
    dsimp only at h4
    rw [h2] at h4
    obtain ⟨b, hb, hz⟩ := h4
    obtain ⟨F1, v, rho1, k1, k2, k3, k4⟩ := afr_ok (aall_ok h3 b hb) hF hz.1 hz.2
    have hT1 := aRT_put (f := q.2) (hT.ext k3) h1 k4
    rw [zup_self] at hT1
    obtain ⟨F2, O2, rho2, g1, g2, g3, g4⟩ := ih k1 k2 hT1
    exact ⟨F2, O2, rho2, g1, g2, k3.tr g3, g4⟩
def volk (ol : Option Nat) (Lz : zL) (zo : Int) : Prop := match ol with
  | none => zo = 0
  | some i => zlk Lz i = some (.inl zo)
theorem avo_ok {L : aL} {Lz : zL} {ol : Option Nat} {k : aI → Bool} {n : Nat} {rho : Nat → Int} {zo : Int} (h : avo L ol k = true) (hL : aRL n rho L Lz) (ho : volk ol Lz zo) : ∃ vo, k vo = true ∧ arel n rho vo zo := by
  cases ol with
  | none => exact ⟨(none, 0), h, ho⟩
  | some i =>
    obtain ⟨v, h1, h2⟩ := aget_ok (show aget L i (fun v => match v with
      | .inl a => k a
      | _ => false) = true from h)
    obtain ⟨u, h3, h4⟩ := hL i v h1
    have ho : zlk Lz i = some (.inl zo) := ho
    rw [ho] at h3
    cases h3
    rcases v with a | (a | c)
    · exact ⟨a, h2, h4⟩
    · cases h2
    · cases h2
/-- a state at a segment's head -/
def aAt (gt : aG) (m : aM) (st0 : zS) (ol : Option Nat) (zo : Int) (sg : aSg) (Lz : zL) (st : zS) (vs : mV) : Prop := (∀ q ∈ sg.2.1, ∃ u, zlk Lz q.1 = some u ∧ aTz q.2 u) ∧ gInv gt st ∧ aFr m st0 st ∧ volk ol Lz zo ∧ mvz Lz st sg.2.2.2 vs ∧ mok vs
theorem ajc_ok {sgs : List aSg} {ol : Option Nat} {vo : aI} {prev : Option aMv} {zo : Int} {n0 : Nat} {rho0 : Nat → Int} {pc : Nat} {L : aL} {F : aF} {O : aO} {A : aA} {rho : Nat → Int} {Lz : zL} {st : zS} (h : ajc gt sgs ol vo prev pc L F O A = true) (hvo : arel n0 rho0 vo zo) (hz : ol = none → zo = 0) (X : aX gt m st0 n0 rho0 F rho L [] O A Lz [] st) : ∃ sg vs, sg ∈ sgs ∧ sg.1 = pc ∧ aAt gt m st0 ol zo sg Lz st vs ∧ ∀ va vs0, prev = some va → amr n0 rho0 va vs0 → mok vs0 → mco 6 (vs.map mn1) < mco 6 (vs0.map mn1) := by
  unfold ajc at h
  induction sgs with
  | nil => cases h
  | cons sg t ih =>
    change cond (Nat.beq sg.1 pc) _ _ = true at h
    cases c : Nat.beq sg.1 pc with
    | false =>
      rw [c] at h
      obtain ⟨sg', vs, h1, h2⟩ := ih h
      exact ⟨sg', vs, List.mem_cons_of_mem _ h1, h2⟩
    | true =>
      rw [c] at h
      obtain ⟨h1, h2⟩ := acond h
      obtain ⟨h1, h3⟩ := rx_an h1
      obtain ⟨h1, h4⟩ := rx_an h1
      obtain ⟨h3, h5⟩ := rx_an h3
      obtain ⟨va', vs, g1, g2, g3, -⟩ := amvs_ok X.2.2.1 X.2.2.2.2.1 h2
      obtain ⟨g4, g5⟩ := acond g1
      refine ⟨sg, vs, List.mem_cons_self, rx_bq c, ⟨fun q hq => ?_, aRT_inv X.1 X.2.2.2.2.1 h1 h4, X.2.2.2.2.2, ?_, g2, amk_ok X.1 g4 g3⟩, fun va vs0 e hr hm => ?_⟩
      · obtain ⟨v, k1, k2⟩ := aget_ok (aall_ok h3 q hq)
        obtain ⟨u, k3, k4⟩ := X.2.2.1 q.1 v k1
        exact ⟨u, k3, amt_ok X.1 k2 k4⟩
      · cases ol with
        | none => exact hz rfl
        | some i =>
          obtain ⟨v, k1, k2⟩ := aget_ok (show aget L i (fun v => match v with
            | .inl a => aeqI a vo
            | _ => false) = true from h5)
          obtain ⟨u, k3, k4⟩ := X.2.2.1 i v k1
          rcases v with a | (a | c)
          · rcases u with z | (z | (o | j))
            · obtain ⟨k5, k6⟩ := rx_an (show (aon a.1 vo.1 && ieq a.2 vo.2) = true from k2)
              have k5 := aon_ok k5
              have k6 := ieq_ok k6
              have e : a = vo := by
                obtain ⟨a1, a2⟩ := a
                obtain ⟨b1, b2⟩ := vo
                dsimp only at k5 k6
                rw [k5, k6]
              have k4 : arel (afl F) rho a z := k4
              have k7 := hvo.ext X.2.1
              rw [← e] at k7
              have : z = zo := by
                obtain ⟨a1, a2⟩ := a
                cases a1 with
                | none => exact (show z = a2 from k4).trans (show zo = a2 from k7).symm
                | some s => exact (show s < afl F ∧ z = rho s + a2 from k4).2.trans (show s < afl F ∧ zo = rho s + a2 from k7).2.symm
              rw [this] at k3
              exact k3
            · exact absurd k4 id
            · exact absurd k4 id
            · exact absurd k4 id
          · cases k2
          · cases k2
      · subst e
        have hr1 : amr (afl F) rho va vs0 := amr_ext X.2.1 hr
        exact alx_ok (Nat.le_refl _) g5 hr1 g3 hm.1 (amk_ok X.1 g4 g3).1 hm.2 (amk_ok X.1 g4 g3).2
theorem akc_ok {r : Option (aB ⊕ aB)} {Q : zQ} {n0 : Nat} {rho0 : Nat → Int} (hQ : ∀ rz st', gInv gt st' → aFr m st0 st' → aRz r rz → Q rz st') : aEs gt m st0 n0 rho0 (akc gt r) Q := by
  intro v F O A h rho rz st hF _ hv hT hfr
  obtain ⟨h1, h2⟩ := acond h
  obtain ⟨h1, h3⟩ := rx_an h1
  refine hQ rz st (aRT_inv hF hT h1 h3) hfr ?_
  cases r with
  | none =>
    cases v with
    | none => cases rz with
      | none => trivial
      | some u => exact absurd hv id
    | some x => cases h2
  | some b =>
    rcases b with b | b
    · cases v with
      | none => cases h2
      | some x =>
        cases rz with
        | none => exact absurd hv id
        | some u =>
          rcases x with x | (x | c)
          · exact amt_ok (t := .inl b) (v := .inl x) hF h2 hv |> (fun g => by
              rcases u with z | (z | (o | j))
              · exact g
              · exact absurd g id
              · exact absurd g id
              · exact absurd g id)
          · cases h2
          · cases h2
    · cases v with
      | none => cases h2
      | some x =>
        cases rz with
        | none => exact absurd hv id
        | some u =>
          rcases x with x | (x | c)
          · cases h2
          · exact amt_ok (t := .inr (.inl b)) (v := .inr (.inl x)) hF h2 hv |> (fun g => by
              rcases u with z | (z | (o | j))
              · exact absurd g id
              · exact g
              · exact absurd g id
              · exact absurd g id)
          · cases h2
theorem aseg_all (hTb : aTb Sh tb cl) {n : Nat} {cd : List rx_E} {nL q : Nat} {s : aS} {ol : Option Nat} {sgs : List aSg} {zo : Int} {Q : zQ} {Kz : zG} (hm : s.2.1 = m) (hz : ol = none → zo = 0) (hn : (s.2.2.2.1 : Int) - (s.2.2.2.2.1 : Int) * zo ≤ (d : Int) + 1) (hI : ∀ d', d' ≤ d → ∀ nu x s, it[nu]? = some x → s ∈ x.2 → aSp gt cl d' nu s) (hcl : zcl Sh cd nL q (cl d) Q Kz) (hsf : zsf cd Kz) (hpi : apin cd = true) (hQ : ∀ rz st', gInv gt st' → aFr m st0 st' → aRz s.2.2.1 rz → Q rz st') (hc : ∀ sg ∈ sgs, asg Sh gt it tb n cd nL q s ol sgs sg = true) :
    ∀ (mu : Nat) (sg : aSg) (Lz : zL) (st : zS) (vs : mV), sg ∈ sgs → aAt gt m st0 ol zo sg Lz st vs → mco 6 (vs.map mn1) = mu → Kz (rx_find cd sg.1) Lz [] st := by
  intro mu
  induction mu using Nat.strongRecOn with
  | _ mu ih =>
    intro sg Lz st vs hsg ⟨h1, h2, h3, h4, h5, h6⟩ hmu
    have h := hc sg hsg
    unfold asg at h
    obtain ⟨L, F, rho, k1, k2, k3, k4⟩ := asl_ok h (rho := fun _ => 0) (fun k hk => absurd hk (Nat.not_lt_zero k)) h1
    have hT0 : aRT gt (afl F) rho [] [] st := ⟨fun c i v hv => (by cases hv), fun c b hb => (by cases hb), fun c i _ _ => h2 c i⟩
    obtain ⟨F1, O, rho1, g1, g2, g3, g4⟩ := aso_ok h2 k1 k2 hT0
    have hL1 := k4.ext g3
    obtain ⟨vo, g5, g6⟩ := avo_ok g1 hL1 h4
    obtain ⟨va, vs', g7, g8, g9, g10⟩ := amvs_ok hL1 g4 g5
    have e := g10 vs h5
    subst e
    have hJ : aJs gt m st0 (afl F1) rho1 cd (sgs.map (fun x => x.1)) (ajc gt sgs ol vo (some va)) Kz := by
      intro pc L' F' O' A' hpc hj rho' Lz' st' X'
      obtain ⟨sg', vs', e1, e2, e3, e4⟩ := ajc_ok hj g6 hz X'
      rw [← e2]
      exact ih _ (by rw [← hmu]; exact e4 va vs rfl g9 h6) sg' Lz' st' vs' e1 e3 rfl
    rw [hm] at g7
    exact ar1_ok hTb (Int.natCast_nonneg _) hn hI g6 hcl hsf hpi (akc_ok hQ) hJ g7 ⟨g2, aext.rf _ _, hL1, trivial, g4, h3⟩
end AINS
