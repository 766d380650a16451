/-! the reference's state while it reads a sum or a test -/
def f0s (st : zS) : Int := st 186 (2 * st 170 35 + st 170 36).toNat
/-- in each frame the ranks rise, and where no sign was read yet there is none -/
def PH (dp opM : Int) (ops bs ph : Nat → Int) : Prop := ∀ g i : Nat, (g : Int) < dp → bs g ≤ (i : Int) → (i : Int) < opM → ((g : Int) + 1 < dp → (i : Int) < bs (g + 1)) → (ph g = 0 → ¬ (38 ≤ ops i ∧ ops i ≤ 40)) ∧ ((i : Int) + 1 < opM → ((g : Int) + 1 < dp → (i : Int) + 1 < bs (g + 1)) → rkf (ops i) ≤ rkf (ops (i + 1)))
theorem PH_pop {dp opM : Int} {ops bs ph : Nat → Int} (h : PH dp opM ops bs ph) : PH dp (opM - 1) ops bs ph := fun g i h1 h2 h3 h4 => ⟨(h g i h1 h2 (by omega) h4).1, fun h5 h6 => (h g i h1 h2 (by omega) h4).2 (by omega) h6⟩
theorem PH_low {dp opM l : Int} {ops bs ph : Nat → Int} (h : PH dp opM ops bs ph) (h0 : 1 ≤ dp) (hb : 0 ≤ bs (dp - 1).toNat) (hx : opM = bs (dp - 1).toNat ∨ rkf (ops (opM - 1).toNat) < l) : ∀ (n i : Nat), (i : Int) + (n : Int) + 1 = opM → bs (dp - 1).toNat ≤ (i : Int) → rkf (ops i) < l := by
  intro n
  induction n with
  | zero =>
    intro i h1 h2
    rcases hx with q | q
    · omega
    · rw [show (opM - 1).toNat = i by omega] at q
      exact q
  | succ n ih =>
    intro i h1 h2
    have h3 := ih (i + 1) (by omega) (by omega)
    have h4 := (h (dp - 1).toNat i (by omega) h2 (by omega) (fun q => by omega)).2 (by omega) (fun q => by omega)
    omega
theorem PH_hold {dp opM o : Int} {ops bs ph ph' : Nat → Int} (h : PH dp opM ops bs ph) (h0 : 1 ≤ dp) (hm : 0 ≤ opM) (hbs : ∀ g k : Nat, g ≤ k → (k : Int) < dp → bs g ≤ bs k) (hbt : bs (dp - 1).toNat ≤ opM) (hp : ∀ g : Nat, (g : Int) + 1 < dp → ph' g = ph g) (hx : opM = bs (dp - 1).toNat ∨ rkf (ops (opM - 1).toNat) ≤ rkf o) (hc : ph' (dp - 1).toNat = 0 → ¬ (38 ≤ o ∧ o ≤ 40) ∧ ∀ i : Nat, bs (dp - 1).toNat ≤ (i : Int) → (i : Int) < opM → ¬ (38 ≤ ops i ∧ ops i ≤ 40)) : PH dp (opM + 1) (up1 ops opM.toNat o) bs ph' := by
  intro g i h1 h2 h3 h4
  by_cases z : (i : Int) = opM
  · have hg : g = (dp - 1).toNat := by
      by_cases q : (g : Int) + 1 < dp
      · have q1 := h4 q
        have q2 := hbs (g + 1) (dp - 1).toNat (by omega) (by omega)
        omega
      · omega
    subst hg
    rw [show i = opM.toNat by omega, up1_e]
    exact ⟨fun q => (hc q).1, fun q => by omega⟩
  · rw [up1_n ops o (show ¬ i = opM.toNat by omega)]
    have h5 := h g i h1 h2 (by omega) h4
    refine ⟨fun q => ?_, fun q1 q2 => ?_⟩
    · by_cases q3 : (g : Int) + 1 < dp
      · rw [hp g q3] at q
        exact h5.1 q
      · have hg : g = (dp - 1).toNat := by omega
        subst hg
        exact (hc q).2 i h2 (by omega)
    · by_cases q3 : (i : Int) + 1 = opM
      · rw [show i + 1 = opM.toNat by omega, up1_e]
        have hg : g = (dp - 1).toNat := by
          by_cases q : (g : Int) + 1 < dp
          · have q4 := q2 q
            have q5 := hbs (g + 1) (dp - 1).toNat (by omega) (by omega)
            omega
          · omega
        subst hg
        rcases hx with e | e
        · omega
        · rw [show (opM - 1).toNat = i by omega] at e
          exact e
      · rw [up1_n ops o (show ¬ i + 1 = opM.toNat by omega)]
        exact h5.2 (by omega) q2
theorem PH_ph {dp opM z : Int} {k : Nat} {ops bs ph : Nat → Int} (h : PH dp opM ops bs ph) (hz : ¬ z = 0) : PH dp opM ops bs (up1 ph k z) := by
  intro g i h1 h2 h3 h4
  have h5 := h g i h1 h2 h3 h4
  refine ⟨fun q => ?_, h5.2⟩
  by_cases e : g = k
  · rw [e, up1_e] at q
    exact absurd q hz
  · rw [up1_n ph z e] at q
    exact h5.1 q
theorem PH_empty {dp opM z : Int} {ops bs ph : Nat → Int} (h : PH dp opM ops bs ph) (h0 : 1 ≤ dp) (he : opM = bs (dp - 1).toNat) : PH dp opM ops bs (up1 ph (dp - 1).toNat z) := by
  intro g i h1 h2 h3 h4
  have h5 := h g i h1 h2 h3 h4
  refine ⟨fun q => ?_, h5.2⟩
  by_cases e : g = (dp - 1).toNat
  · subst e
    omega
  · rw [up1_n ph z e] at q
    exact h5.1 q
theorem PH_push {dp opM : Int} {ops bs ph : Nat → Int} (h : PH dp opM ops bs ph) (h0 : 1 ≤ dp) : PH (dp + 1) opM ops (up1 bs dp.toNat opM) (up1 ph dp.toNat 0) := by
  intro g i h1 h2 h3 h4
  by_cases e : g = dp.toNat
  · subst e
    rw [up1_e] at h2
    omega
  · rw [up1_n bs opM e] at h2
    rw [up1_n ph 0 e]
    by_cases e2 : (g : Int) + 1 < dp
    · have e3 : ¬ g + 1 = dp.toNat := by omega
      rw [up1_n bs opM e3] at h4 ⊢
      have h5 := h g i (by omega) h2 h3 (fun q => h4 (by omega))
      exact ⟨h5.1, fun q1 q2 => h5.2 q1 (fun q => q2 (by omega))⟩
    · have h5 := h g i (by omega) h2 h3 (fun q => absurd q e2)
      exact ⟨h5.1, fun q1 q2 => h5.2 q1 (fun q => absurd q e2)⟩
theorem PH_leave {dp opM : Int} {ops bs ph : Nat → Int} (h : PH dp opM ops bs ph) (h0 : 2 ≤ dp) (he : opM = bs (dp - 1).toNat) : PH (dp - 1) opM ops bs ph := by
  intro g i h1 h2 h3 h4
  by_cases e : (g : Int) + 1 < dp - 1
  · have h5 := h g i (by omega) h2 h3 (fun _ => h4 e)
    exact ⟨h5.1, fun q1 q2 => h5.2 q1 (fun _ => q2 e)⟩
  · have e1 : g + 1 = (dp - 1).toNat := by omega
    have h5 := h g i (by omega) h2 h3 (fun _ => by rw [e1]; omega)
    exact ⟨h5.1, fun q1 q2 => h5.2 q1 (fun _ => by rw [e1]; omega)⟩
theorem PH_start (ops bs ph : Nat → Int) : PH (0 + 1) 0 ops bs ph := by
  intro g i h1 h2 h3 h4
  omega
def PHS (st : zS) : Prop := PH (st 170 42) (st 170 45) (st 197) (st 196) (st 193)
def PV (st : zS) (opn opd t q : Int) : Prop := PI (st 170 35) (st 170 34) (st 170 45) (st 170 42) opn opd t q (st 197) (st 196) (st 192) (st 195) (st 194) (st 188) (f0s st)
def PW (st : zS) (opd t q : Int) : Prop := PV st (st 170 43) opd t q
def PVF (st : zS) (opn opd q : Int) : Prop := PV st opn opd (pa (st 192 (st 170 42 - 1).toNat) (st 195 (st 170 42 - 1).toNat)) q ∧ prok (st 192 (st 170 42 - 1).toNat) (st 195 (st 170 42 - 1).toNat) ∧ PHS st
def PF (st : zS) (opd q : Int) : Prop := PVF st (st 170 43) opd q
def pcell (c i : Nat) : Bool := cond (Nat.beq c 170) (Nat.beq i 35 || (Nat.beq i 34 || (Nat.beq i 45 || (Nat.beq i 42 || (Nat.beq i 43 || Nat.beq i 36))))) (Nat.beq c 193 || (Nat.beq c 197 || (Nat.beq c 196 || (Nat.beq c 192 || (Nat.beq c 195 || (Nat.beq c 194 || (Nat.beq c 188 || Nat.beq c 186)))))))
def prest (st : zS) : zS := fun c i => cond (pcell c i) (st c i) 0
theorem prest_eq {s st : zS} (h : ∀ c i, pcell c i = true → s c i = st c i) : prest s = prest st := by
  funext c i
  unfold prest
  cases e : pcell c i with
  | true => exact h c i e
  | false => rfl
theorem PW_of {s st : zS} {opd t q : Int} (h : ∀ c i, pcell c i = true → s c i = st c i) (hP : PW st opd t q) : PW s opd t q := by
  have e := prest_eq h
  have h1 : PW (prest st) opd t q := hP
  rw [← e] at h1
  exact h1
theorem PF_of {s st : zS} {opd q : Int} (h : ∀ c i, pcell c i = true → s c i = st c i) (hP : PF st opd q) : PF s opd q := by
  have e := prest_eq h
  have h1 : PF (prest st) opd q := hP
  rw [← e] at h1
  exact h1
theorem PVF_of {s st : zS} {opn opd q : Int} (h : ∀ c i, pcell c i = true → s c i = st c i) (hP : PVF st opn opd q) : PVF s opn opd q := by
  have e := prest_eq h
  have h1 : PVF (prest st) opn opd q := hP
  rw [← e] at h1
  exact h1
noncomputable def pfree (m : aM) : Bool := aall (fun q => !pcell q.1 q.2) m.1 && aall (fun c => !(Nat.beq c 170 || pcell c 0)) m.2
theorem pcell_arr {c i : Nat} (h : ¬ c = 170) : pcell c i = pcell c 0 := by
  unfold pcell
  have : Nat.beq c 170 = false := (rx_bnf c 170).mpr h
  rw [this]
  rfl
theorem pfr {m : aM} {st s : zS} (hm : pfree m = true) (h : aFr m st s) : ∀ c i, pcell c i = true → s c i = st c i := by
  intro c i hj
  obtain ⟨h1, h2⟩ := rx_an hm
  refine h c i ?_ ?_
  · cases e : amf m c i with
    | false => rfl
    | true =>
      have := aall_o2 h1 _ (amf_ok.mp e)
      change (!pcell c i) = true at this
      rw [hj] at this
      cases this
  · cases e : ama m c with
    | false => rfl
    | true =>
      have := aall_o2 h2 _ (ama_ok.mp e)
      change (!(Nat.beq c 170 || pcell c 0)) = true at this
      by_cases e2 : c = 170
      · rw [e2] at this; cases this
      · rw [pcell_arr e2] at hj
        rw [hj] at this
        cases c2 : Nat.beq c 170 with
        | true => rw [c2] at this; cases this
        | false => rw [c2] at this; cases this
theorem PF_fr {m : aM} {st s : zS} {opd q : Int} (hm : pfree m = true) (h : aFr m st s) (hP : PF st opd q) : PF s opd q := PF_of (pfr hm h) hP
theorem PVF_fr {m : aM} {st s : zS} {opn opd q : Int} (hm : pfree m = true) (h : aFr m st s) (hP : PVF st opn opd q) : PVF s opn opd q := PVF_of (pfr hm h) hP
theorem PW_fr {m : aM} {st s : zS} {opd t q : Int} (hm : pfree m = true) (h : aFr m st s) (hP : PW st opd t q) : PW s opd t q := PW_of (pfr hm h) hP
theorem PF_up {st : zS} {opd q z : Int} {c i : Nat} (hc : pcell c i = false) (hP : PF st opd q) : PF (zup st c i z) opd q := by
  refine PF_of (fun c' i' e => zup_ne _ _ (fun k => ?_)) hP
  rw [k.1, k.2, hc] at e
  cases e
theorem PF_q {st : zS} {opd q q' : Int} (h : PF st opd q) (h1 : q ≤ q') (h2 : q' ≤ 1600) : PF st opd q' := ⟨PI_q h.1 h1 h2, h.2⟩
theorem PF_f {st : zS} {opd q : Int} (h : PF st opd q) : (0 ≤ f0s st ∧ f0s st ≤ st 170 34 ∧ st 170 34 + st 170 45 ≤ q ∧ q ≤ 1600) ∧ (1 ≤ st 170 42 ∧ st 170 42 ≤ 8) ∧ (0 ≤ st 170 45 ∧ st 170 45 ≤ 47) ∧ (0 ≤ st 170 43 ∧ st 170 43 ≤ 7) ∧ (0 ≤ st 196 (st 170 42 - 1).toNat ∧ st 196 (st 170 42 - 1).toNat ≤ st 170 45) ∧ (0 ≤ st 192 (st 170 42 - 1).toNat ∧ st 192 (st 170 42 - 1).toNat ≤ 6) ∧ (st 170 42 = 1 → st 192 (st 170 42 - 1).toNat ≤ 1) ∧ (2 ≤ st 170 42 → 2 ≤ st 192 (st 170 42 - 1).toNat) ∧ (opd = 1 → ¬ st 194 (st 170 42 - 1).toNat = 1) ∧ st 170 42 - 1 ≤ st 170 43 := by
  have W := PI_w h.1
  have B := PI_bw h.1
  obtain ⟨⟨a1, a2, a3, ⟨a4, a5⟩, a6⟩, ⟨b1, b2, b3⟩, c, d, e, f, g, hh, i⟩ := h.1
  have w := pW_b (st 197) (st 170 45).toNat
  have e1 := e.2 (st 170 42 - 1).toNat (by omega)
  refine ⟨⟨a1.2.2.1, a1.2.2.2, a2.1, a2.2⟩, ⟨a3.1, W.2.2.1⟩, ⟨a3.2, by omega⟩, ⟨by omega, a5⟩, ⟨B.2, b2⟩, ⟨e1.1, e1.2.1⟩, fun k => ?_, fun k => e1.2.2 (by omega), fun k1 k2 => ?_, by omega⟩
  · rw [show (st 170 42 - 1).toNat = 0 by omega]
    exact e.1
  · have := (g k2).1
    omega
theorem PF_c {st : zS} {opd q : Int} (h : PF st opd q) : cgd (st 188) (1600 * st 170 35 + f0s st) (1600 * st 170 35 + st 170 34) := h.1.2.2.2.2.2.2.2.2
theorem PF_t {st : zS} {opd q : Int} (h : PF st opd q) : prok (st 192 (st 170 42 - 1).toNat) (st 195 (st 170 42 - 1).toNat) := h.2.1
/-- the bases of the frames -/
theorem PF_b {st : zS} {opn opd q : Int} (h : PVF st opn opd q) : (∀ g k : Nat, g ≤ k → (k : Int) < st 170 42 → st 196 g ≤ st 196 k) ∧ st 196 (st 170 42 - 1).toNat ≤ st 170 45 := ⟨h.1.2.1.2.2, h.1.2.1.2.1⟩
/-- the pair of the top frame may be told -/
theorem PI_pr {inn cds opM dp opn opd t q f0 z : Int} {ops bs fr pr bg cd : Nat → Int} (h : PI inn cds opM dp opn opd t q ops bs fr pr bg cd f0) : PI inn cds opM dp opn opd t q ops bs fr (up1 pr (dp - 1).toNat z) bg cd f0 := by
  obtain ⟨⟨a1, a2, a3, a4, a6⟩, b, c, d, e, f, g, hh, i⟩ := h
  refine ⟨⟨a1, a2, a3, a4, a6⟩, b, c, d, e, ?_, g, ?_, i⟩
  · intro g' hg
    rw [up1_n pr z (show ¬ g' = (dp - 1).toNat by omega)]
    exact f g' hg
  · have : pA fr (up1 pr (dp - 1).toNat z) (dp - 1).toNat = pA fr pr (dp - 1).toNat := pA_c _ (fun j hj => ⟨rfl, up1_n pr z (by omega)⟩)
    rw [this]
    exact hh
/-- the sum's or test's first frame -/
theorem PI_start {inn cds q f0 k : Int} {ops bs fr pr bg cd : Nat → Int} (h1 : 0 ≤ inn ∧ inn ≤ 1) (h2 : 0 ≤ cds ∧ f0 = cds) (h3 : cds ≤ q ∧ q ≤ 1600) (hk : 0 ≤ k ∧ k ≤ 1) : PI inn cds 0 (0 + 1) 0 0 0 q ops (up1 bs (0 : Int).toNat 0) (up1 fr (0 : Int).toNat k) pr (up1 bg (0 : Int).toNat 1) cd f0 := by
  obtain ⟨h4, rfl⟩ := h2
  have z0 : pW ops (0 : Int).toNat = 0 := rfl
  have z1 : pA (up1 fr (0 : Int).toNat k) pr (0 + 1 - 1 : Int).toNat = 0 := rfl
  have u1 : ∀ (f : Nat → Int) (z : Int), up1 f (0 : Int).toNat z 0 = z := fun f z => up1_e f 0 z
  refine ⟨⟨⟨h1.1, h1.2, h4, Int.le_refl _⟩, ⟨by omega, by omega⟩, ⟨by omega, by omega⟩, ⟨by omega, by omega⟩, by omega, by omega, by omega, by omega⟩, ⟨u1 _ _, ?_, ?_⟩, ?_, ?_, ⟨?_, ?_⟩, ?_, ?_, ?_, ?_⟩
  · show up1 bs (0 : Int).toNat 0 0 ≤ 0
    rw [u1]
    omega
  · intro g1 g2 q1 q2
    have e1 : g1 = 0 := by omega
    have e2 : g2 = 0 := by omega
    rw [e1, e2]
    exact Int.le_refl _
  · intro i hi; omega
  · intro g i hi; omega
  · rw [u1]; exact hk.2
  · intro g hg
    have e1 : g = 0 := by omega
    rw [e1, u1]
    exact ⟨hk.1, by omega, fun z => by omega⟩
  · intro g hg; omega
  · intro _
    exact ⟨rfl, Or.inl (u1 bs 0).symm⟩
  · rw [z0, z1, show (f0 - f0).toNat = 0 by omega]
    rfl
  · intro n hn
    omega
theorem PI_bg0 {inn cds opM dp opn opd t q f0 : Int} {ops bs fr pr bg cd : Nat → Int} (h : PI inn cds opM dp opn opd t q ops bs fr pr bg cd f0) {i : Nat} (hi : i = (dp - 1).toNat) : PI inn cds opM dp opn opd t q ops bs fr pr (up1 bg i 0) cd f0 := by
  subst hi
  obtain ⟨⟨a1, a2, a3, a4, a6⟩, b, c, d, e, f, g, hh, i⟩ := h
  refine ⟨⟨a1, a2, a3, a4, a6⟩, b, c, d, e, ?_, ?_, hh, i⟩
  · intro g' hg
    rw [up1_n bg 0 (show ¬ g' = (dp - 1).toNat by omega)]
    exact f g' hg
  · rw [up1_e]
    intro z
    omega
theorem pnot {st : zS} {q : Int} (h : PF st 0 q) (hb : st 194 (st 170 42 - 1).toNat = 1) : st 170 45 = st 196 (st 170 42 - 1).toNat ∨ rkf (st 197 (st 170 45 - 1).toNat) ≤ rkf 43 := by
  rcases (h.1.2.2.2.2.2.2.1 hb).2 with e | e
  · exact Or.inl e
  · have B := PI_bw h.1
    have b2 := (PF_b h).2
    by_cases z : st 170 45 = st 196 (st 170 42 - 1).toNat
    · exact Or.inl z
    · refine Or.inr ?_
      have := h.1.2.2.1 (st 170 45 - 1).toNat (by omega)
      rw [show rkf 43 = 3 from rfl]
      unfold rkf
      repeat' split
      all_goals omega
theorem PF_bg0 {st : zS} {opd q : Int} (h : PF st opd q) {i : Nat} (hi : i = (st 170 42 - 1).toNat) : PF (zup st 194 i 0) opd q := ⟨PI_bg0 h.1 hi, h.2⟩
theorem rkf_5 {o : Int} (h : o = 31 ∨ o = 32) : rkf o = 5 := by rcases h with rfl | rfl <;> rfl
theorem rkf_6 {o : Int} (h : 33 ≤ o ∧ o ≤ 35) : rkf o = 6 := by
  unfold rkf
  repeat' split
  all_goals omega
theorem rkf_4 {o : Int} (h : 38 ≤ o ∧ o ≤ 40) : rkf o = 4 := by
  unfold rkf
  repeat' split
  all_goals omega
