/-! what stands while the reference reads a sum or a test -/
def wt (o : Int) : Int := if o = 43 then 0 else 1
noncomputable def pW (ops : Nat → Int) (n : Nat) : Int := Nat.rec 0 (fun k ih => ih + wt (ops k)) n
def rho (o : Int) : Int := if o = 42 then 0 else if o = 41 then 1 else if o = 43 then 2 else if 38 ≤ o ∧ o ≤ 40 then 2 else if o = 31 ∨ o = 32 then 3 else 4
def rkf (o : Int) : Int := if o = 42 then 1 else if o = 41 then 2 else if o = 43 then 3 else if 38 ≤ o ∧ o ≤ 40 then 4 else if o = 31 ∨ o = 32 then 5 else 6
def pa (k p : Int) : Int := if k = 4 then (if p = 44 then 2 else 1) else if k = 3 then (if p = 44 then 1 else 0) else 0
noncomputable def pA (fr pr : Nat → Int) (n : Nat) : Int := Nat.rec 0 (fun k ih => ih + pa (fr k) (pr k)) n
noncomputable def dpt (cd : Nat → Int) (c : Int) (n : Nat) : Int := Nat.rec 0 (fun n ih => ih + jdl (cd (c + (n : Int)).toNat)) n
def cok (x : Int) : Prop := 0 ≤ x ∧ (x ≤ 9 ∨ 30 ≤ x) ∧ x ≤ 44
def cgd (cd : Nat → Int) (c e : Int) : Prop := ∀ n : Nat, c + (n : Int) < e → cok (cd (c + (n : Int)).toNat) ∧ jnd (cd (c + (n : Int)).toNat) ≤ dpt cd c n ∧ dpt cd c n ≤ 400
theorem cgd_j (st : zS) (c e : Int) (h : cgd (st 188) c e) : jcg st c e := h
def prok (k p : Int) : Prop := (k = 3 ∨ k = 4 ∨ k = 6 → p = 36 ∨ p = 37 ∨ p = 44) ∧ (k = 6 → p = 44)
def up1 (f : Nat → Int) (i : Nat) (z : Int) : Nat → Int := fun j => cond (Nat.beq j i) z (f j)
theorem up1_e (f : Nat → Int) (i : Nat) (z : Int) : up1 f i z i = z := by
  unfold up1
  rw [zbeq]
  simp
theorem up1_n (f : Nat → Int) {i j : Nat} (z : Int) (h : ¬ j = i) : up1 f i z j = f j := by
  unfold up1
  rw [zbeq]
  simp [h]
theorem pW_s (ops : Nat → Int) (n : Nat) : pW ops (n + 1) = pW ops n + wt (ops n) := rfl
theorem wt_b (o : Int) : 0 ≤ wt o ∧ wt o ≤ 1 := by unfold wt; split <;> omega
theorem rho_b (o : Int) : 0 ≤ rho o ∧ rho o ≤ 4 := by
  unfold rho
  repeat' split
  all_goals omega
theorem pW_b (ops : Nat → Int) : ∀ n, 0 ≤ pW ops n ∧ pW ops n ≤ (n : Int) := by
  intro n
  induction n with
  | zero => exact ⟨Int.le_refl _, Int.le_refl _⟩
  | succ n ih =>
    rw [pW_s]
    have := wt_b (ops n)
    omega
theorem pW_c {a b : Nat → Int} : ∀ n, (∀ i, i < n → a i = b i) → pW a n = pW b n := by
  intro n
  induction n with
  | zero => intro _; rfl
  | succ n ih =>
    intro h
    rw [pW_s, pW_s, ih (fun i hi => h i (by omega)), h n (by omega)]
theorem pW_up (ops : Nat → Int) {n m : Nat} (z : Int) (h : n ≤ m) : pW (up1 ops m z) n = pW ops n := pW_c n (fun i hi => up1_n ops z (by omega))
theorem pa_b (k p : Int) : 0 ≤ pa k p ∧ pa k p ≤ 2 := by
  unfold pa
  repeat' split
  all_goals omega
theorem pA_s (fr pr : Nat → Int) (n : Nat) : pA fr pr (n + 1) = pA fr pr n + pa (fr n) (pr n) := rfl
theorem pA_b (fr pr : Nat → Int) : ∀ n : Nat, 0 ≤ pA fr pr n ∧ pA fr pr n ≤ 2 * (n : Int) := by
  intro n
  induction n with
  | zero => exact ⟨Int.le_refl _, Int.le_refl _⟩
  | succ n ih =>
    rw [pA_s]
    have := pa_b (fr n) (pr n)
    omega
theorem pA_c {a b c d : Nat → Int} : ∀ n, (∀ i, i < n → a i = b i ∧ c i = d i) → pA a c n = pA b d n := by
  intro n
  induction n with
  | zero => intro _; rfl
  | succ n ih =>
    intro h
    rw [pA_s, pA_s, ih (fun i hi => h i (by omega)), (h n (by omega)).1, (h n (by omega)).2]
theorem dpt_s (cd : Nat → Int) (c : Int) (n : Nat) : dpt cd c (n + 1) = dpt cd c n + jdl (cd (c + (n : Int)).toNat) := rfl
theorem dpt_c {a b : Nat → Int} {c : Int} : ∀ n : Nat, (∀ i : Nat, i < n → a (c + (i : Int)).toNat = b (c + (i : Int)).toNat) → dpt a c n = dpt b c n := by
  intro n
  induction n with
  | zero => intro _; rfl
  | succ n ih =>
    intro h
    rw [dpt_s, dpt_s, ih (fun i hi => h i (by omega)), h n (by omega)]
theorem rkf_b (o : Int) : 1 ≤ rkf o ∧ rkf o ≤ 6 := by
  unfold rkf
  repeat' split
  all_goals omega
theorem rk_rho {a b : Int} (h : rkf a < rkf b) : rho a + wt a ≤ rho b := by
  unfold rkf at h
  unfold rho wt
  repeat' split at h
  all_goals (repeat' split)
  all_goals omega
theorem rho_41 {o : Int} (h : 41 ≤ o) (h2 : o ≤ 43) : rho o + wt o ≤ 2 := by
  unfold rho wt
  repeat' split
  all_goals omega
/-- a code more at the end -/
theorem cgd_add {cd : Nat → Int} {c e z : Int} (h0 : 0 ≤ c) (h1 : c ≤ e) (h : cgd cd c e) (hz : cok z) (hn : jnd z ≤ dpt cd c (e - c).toNat) (hd : dpt cd c (e - c).toNat ≤ 400) : cgd (up1 cd e.toNat z) c (e + 1) := by
  intro n hn1
  have e1 : dpt (up1 cd e.toNat z) c n = dpt cd c n := dpt_c n (fun i hi => up1_n cd z (by omega))
  rw [e1]
  by_cases q : c + (n : Int) = e
  · rw [show (c + (n : Int)).toNat = e.toNat by rw [q], up1_e]
    rw [show (e - c).toNat = n by omega] at hn hd
    exact ⟨hz, hn, hd⟩
  · rw [up1_n cd z (show ¬ (c + (n : Int)).toNat = e.toNat by omega)]
    exact h n (by omega)
theorem dpt_add {cd : Nat → Int} {c e z : Int} (h0 : 0 ≤ c) (h1 : c ≤ e) : dpt (up1 cd e.toNat z) c (e + 1 - c).toNat = dpt cd c (e - c).toNat + jdl z := by
  rw [show (e + 1 - c).toNat = (e - c).toNat + 1 by omega, dpt_s, dpt_c (b := cd) _ (fun i hi => up1_n cd z (by omega)), show (c + ((e - c).toNat : Int)).toNat = e.toNat by omega, up1_e]
def PI (inn cds opM dp opn opd t q : Int) (ops bs fr pr bg cd : Nat → Int) (f0 : Int) : Prop :=
  ((0 ≤ inn ∧ inn ≤ 1 ∧ 0 ≤ f0 ∧ f0 ≤ cds) ∧ (cds + opM ≤ q ∧ q ≤ 1600) ∧ (1 ≤ dp ∧ 0 ≤ opM) ∧ (opn = dp - 1 + (opM - pW ops opM.toNat) ∧ opn ≤ 7) ∧ 0 ≤ opd ∧ opd ≤ 1 ∧ 0 ≤ t ∧ t ≤ 2) ∧
  (bs 0 = 0 ∧ bs (dp - 1).toNat ≤ opM ∧ ∀ g k : Nat, g ≤ k → (k : Int) < dp → bs g ≤ bs k) ∧
  (∀ i : Nat, (i : Int) < opM → 31 ≤ ops i ∧ ops i ≤ 43 ∧ pW ops i ≤ 5 * (dp - 1) + rho (ops i)) ∧
  (∀ g i : Nat, (g : Int) + 1 < dp → (i : Int) < bs (g + 1) → pW ops i ≤ 5 * (g : Int) + rho (ops i)) ∧
  (fr 0 ≤ 1 ∧ ∀ g : Nat, (g : Int) < dp → 0 ≤ fr g ∧ fr g ≤ 6 ∧ (1 ≤ g → 2 ≤ fr g)) ∧
  (∀ g : Nat, (g : Int) + 1 < dp → prok (fr g) (pr g) ∧ bg g = 0) ∧
  (bg (dp - 1).toNat = 1 → opd = 0 ∧ (opM = bs (dp - 1).toNat ∨ 41 ≤ ops (opM - 1).toNat)) ∧
  (dpt cd (1600 * inn + f0) (cds - f0).toNat = pW ops opM.toNat + pA fr pr (dp - 1).toNat + t + opd) ∧
  cgd cd (1600 * inn + f0) (1600 * inn + cds)
section PI1
variable {inn cds opM dp opn opd t q f0 : Int} {ops bs fr pr bg cd : Nat → Int}
theorem PI_q {q' : Int} (h : PI inn cds opM dp opn opd t q ops bs fr pr bg cd f0) (h1 : q ≤ q') (h2 : q' ≤ 1600) : PI inn cds opM dp opn opd t q' ops bs fr pr bg cd f0 := by
  obtain ⟨⟨a1, a2, a3, a4, a5⟩, h⟩ := h
  exact ⟨⟨a1, ⟨by omega, by omega⟩, a3, a4, a5⟩, h⟩
/-- the held operators' weight -/
theorem PI_w (h : PI inn cds opM dp opn opd t q ops bs fr pr bg cd f0) : pW ops opM.toNat ≤ 5 * dp ∧ opM ≤ 5 * dp + 7 ∧ dp ≤ 8 ∧ dpt cd (1600 * inn + f0) (cds - f0).toNat ≤ 100 ∧ 0 ≤ dpt cd (1600 * inn + f0) (cds - f0).toNat := by
  obtain ⟨⟨a1, a2, a3, ⟨a4, a5⟩, a6⟩, b, c, d, e, f, g, h, i⟩ := h
  have w := pW_b ops opM.toNat
  have v := pA_b fr pr (dp - 1).toNat
  have k : pW ops opM.toNat ≤ 5 * dp := by
    by_cases z : opM = 0
    · subst z
      have : pW ops (0 : Int).toNat = 0 := rfl
      omega
    · have c1 := c (opM - 1).toNat (by omega)
      have c2 := rho_b (ops (opM - 1).toNat)
      have c3 := wt_b (ops (opM - 1).toNat)
      have c4 := pW_s ops (opM - 1).toNat
      rw [show (opM - 1).toNat + 1 = opM.toNat by omega] at c4
      omega
  omega
/-- the base of a frame -/
theorem PI_bw (h : PI inn cds opM dp opn opd t q ops bs fr pr bg cd f0) : pW ops (bs (dp - 1).toNat).toNat ≤ 5 * (dp - 1) ∧ 0 ≤ bs (dp - 1).toNat := by
  obtain ⟨⟨a1, a2, a3, a4, a6⟩, ⟨b1, b2, b3⟩, c, d, e, f, g, h, i⟩ := h
  have b4 := b3 0 (dp - 1).toNat (by omega) (by omega)
  rw [b1] at b4
  refine ⟨?_, b4⟩
  by_cases z : bs (dp - 1).toNat = 0
  · rw [z]
    have : pW ops (0 : Int).toNat = 0 := rfl
    omega
  · have z2 : 2 ≤ dp := by
      rcases Int.lt_or_le dp 2 with k | k
      · rw [show (dp - 1).toNat = 0 by omega, b1] at z
        exact absurd rfl z
      · exact k
    have d1 := d (dp - 2).toNat (bs (dp - 1).toNat - 1).toNat (by omega) (by rw [show (dp - 2).toNat + 1 = (dp - 1).toNat by omega]; omega)
    have c2 := rho_b (ops (bs (dp - 1).toNat - 1).toNat)
    have c3 := wt_b (ops (bs (dp - 1).toNat - 1).toNat)
    have c4 := pW_s ops (bs (dp - 1).toNat - 1).toNat
    rw [show (bs (dp - 1).toNat - 1).toNat + 1 = (bs (dp - 1).toNat).toNat by omega] at c4
    omega
/-- an operator comes behind the codes -/
theorem PI_pop (h : PI inn cds opM dp opn 1 t q ops bs fr pr bg cd f0) (h1 : bs (dp - 1).toNat < opM) {opn' : Int} (ho : opn' = opn - (1 - wt (ops (opM - 1).toNat))) : PI inn (cds + 1) (opM - 1) dp opn' 1 t q ops bs fr pr bg (up1 cd (1600 * inn + cds).toNat (ops (opM - 1).toNat)) f0 := by
  have W := PI_w h
  have B := PI_bw h
  obtain ⟨⟨a1, a2, a3, ⟨a4, a5⟩, a6⟩, ⟨b1, b2, b3⟩, c, d, e, f, g, hh, i⟩ := h
  have c1 := c (opM - 1).toNat (by omega)
  have c3 := wt_b (ops (opM - 1).toNat)
  have c4 := pW_s ops (opM - 1).toNat
  rw [show (opM - 1).toNat + 1 = opM.toNat by omega] at c4
  have c5 := pW_b ops (opM - 1).toNat
  have c6 := pA_b fr pr (dp - 1).toNat
  have e1 : 1600 * inn + cds - (1600 * inn + f0) = cds - f0 := by omega
  have jl : jdl (ops (opM - 1).toNat) = - wt (ops (opM - 1).toNat) := by
    unfold jdl wt
    repeat' split
    all_goals omega
  have jn : jnd (ops (opM - 1).toNat) = 1 + wt (ops (opM - 1).toNat) := by
    unfold jnd wt
    repeat' split
    all_goals omega
  refine ⟨⟨⟨a1.1, a1.2.1, a1.2.2.1, by omega⟩, ⟨by omega, by omega⟩, ⟨by omega, by omega⟩, ⟨by omega, by omega⟩, a6⟩, ⟨b1, by omega, b3⟩, fun i hi => c i (by omega), d, e, f, ?_, ?_, ?_⟩
  · intro q1
    have := (g q1).1
    omega
  · have := dpt_add (cd := cd) (c := 1600 * inn + f0) (e := 1600 * inn + cds) (z := ops (opM - 1).toNat) (by omega) (by omega)
    rw [show 1600 * inn + cds + 1 - (1600 * inn + f0) = cds + 1 - f0 by omega, e1] at this
    rw [this, hh, jl]
    omega
  · have := cgd_add (cd := cd) (c := 1600 * inn + f0) (e := 1600 * inn + cds) (z := ops (opM - 1).toNat) (by omega) (by omega) i ⟨by omega, by omega, by omega⟩ (by rw [e1, hh, jn]; omega) (by rw [e1]; omega)
    rw [show 1600 * inn + cds + 1 = 1600 * inn + (cds + 1) by omega] at this
    exact this
/-- an operator is held back -/
theorem PI_hold {o : Int} {q' : Int} (h : PI inn cds opM dp opn 1 t q ops bs fr pr bg cd f0) (h1 : opM = bs (dp - 1).toNat ∨ rkf (ops (opM - 1).toNat) < rkf o) (h2 : 31 ≤ o ∧ o ≤ 42) (h3 : q + 1 ≤ q' ∧ q' ≤ 1600) {bg' : Nat → Int} (hb : (∀ g : Nat, (g : Int) + 1 < dp → bg' g = bg g) ∧ (bg' (dp - 1).toNat = 1 → 41 ≤ o)) : PI inn cds (opM + 1) dp opn 0 t q' (up1 ops opM.toNat o) bs fr pr bg' cd f0 := by
  have W := PI_w h
  have B := PI_bw h
  obtain ⟨⟨a1, a2, a3, ⟨a4, a5⟩, a6⟩, ⟨b1, b2, b3⟩, c, d, e, f, g, hh, i⟩ := h
  have w1 : wt o = 1 := by unfold wt; split <;> omega
  have k : pW ops opM.toNat ≤ 5 * (dp - 1) + rho o := by
    rcases h1 with z | z
    · rw [z]
      have := rho_b o
      omega
    · by_cases z2 : opM = 0
      · have := rho_b o
        rw [z2]
        have : pW ops (0 : Int).toNat = 0 := rfl
        omega
      · have c1 := c (opM - 1).toNat (by omega)
        have c4 := pW_s ops (opM - 1).toNat
        rw [show (opM - 1).toNat + 1 = opM.toNat by omega] at c4
        have := rk_rho z
        omega
  have n1 : pW (up1 ops opM.toNat o) (opM + 1).toNat = pW ops opM.toNat + 1 := by
    rw [show (opM + 1).toNat = opM.toNat + 1 by omega, pW_s, pW_up ops o (Nat.le_refl _), up1_e, w1]
  refine ⟨⟨a1, ⟨by omega, by omega⟩, ⟨by omega, by omega⟩, ⟨by rw [n1]; omega, by omega⟩, by omega, by omega, by omega, by omega⟩, ⟨b1, by omega, b3⟩, ?_, ?_, e, ?_, ?_, ?_, i⟩
  · intro j hj
    rw [pW_up ops o (show j ≤ opM.toNat by omega)]
    by_cases z : j = opM.toNat
    · rw [z, up1_e]
      exact ⟨by omega, by omega, k⟩
    · rw [up1_n ops o z]
      exact c j (by omega)
  · intro g' j hg hj
    have b5 := b3 (g' + 1) (dp - 1).toNat (by omega) (by omega)
    rw [pW_up ops o (show j ≤ opM.toNat by omega), up1_n ops o (show ¬ j = opM.toNat by omega)]
    exact d g' j hg hj
  · intro g' hg
    rw [hb.1 g' hg]
    exact f g' hg
  · intro z
    refine ⟨rfl, Or.inr ?_⟩
    rw [show (opM + 1 - 1).toNat = opM.toNat by omega, up1_e]
    exact hb.2 z
  · rw [hh, n1]
    omega
/-- a 'not' is held back -/
theorem PI_not {q' : Int} (h : PI inn cds opM dp opn 0 t q ops bs fr pr bg cd f0) (h1 : bg (dp - 1).toNat = 1) (h2 : opn ≤ 6) (h3 : q + 1 ≤ q' ∧ q' ≤ 1600) : PI inn cds (opM + 1) dp (opn + 1) 0 t q' (up1 ops opM.toNat 43) bs fr pr bg cd f0 := by
  have W := PI_w h
  have B := PI_bw h
  obtain ⟨⟨a1, a2, a3, ⟨a4, a5⟩, a6⟩, ⟨b1, b2, b3⟩, c, d, e, f, g, hh, i⟩ := h
  have k : pW ops opM.toNat ≤ 5 * (dp - 1) + 2 := by
    rcases (g h1).2 with z | z
    · rw [z]
      omega
    · by_cases z2 : opM = 0
      · rw [z2]
        have : pW ops (0 : Int).toNat = 0 := rfl
        omega
      · have c1 := c (opM - 1).toNat (by omega)
        have c4 := pW_s ops (opM - 1).toNat
        rw [show (opM - 1).toNat + 1 = opM.toNat by omega] at c4
        have := rho_41 z c1.2.1
        omega
  have n1 : pW (up1 ops opM.toNat 43) (opM + 1).toNat = pW ops opM.toNat := by
    rw [show (opM + 1).toNat = opM.toNat + 1 by omega, pW_s, pW_up ops 43 (Nat.le_refl _), up1_e]
    have : wt 43 = 0 := rfl
    omega
  refine ⟨⟨a1, ⟨by omega, by omega⟩, ⟨by omega, by omega⟩, ⟨by rw [n1]; omega, by omega⟩, a6⟩, ⟨b1, by omega, b3⟩, ?_, ?_, e, f, ?_, ?_, i⟩
  · intro j hj
    rw [pW_up ops 43 (show j ≤ opM.toNat by omega)]
    by_cases z : j = opM.toNat
    · rw [z, up1_e]
      have : rho 43 = 2 := rfl
      exact ⟨by omega, by omega, by omega⟩
    · rw [up1_n ops 43 z]
      exact c j (by omega)
  · intro g' j hg hj
    have b5 := b3 (g' + 1) (dp - 1).toNat (by omega) (by omega)
    rw [pW_up ops 43 (show j ≤ opM.toNat by omega), up1_n ops 43 (show ¬ j = opM.toNat by omega)]
    exact d g' j hg hj
  · intro z
    refine ⟨rfl, Or.inr ?_⟩
    rw [show (opM + 1 - 1).toNat = opM.toNat by omega, up1_e]
    omega
  · rw [hh, n1]
/-- an operand's code -/
theorem PI_code {z q' : Int} (h : PI inn cds opM dp opn 0 t q ops bs fr pr bg cd f0) (hz : 0 ≤ z ∧ (z ≤ 9 ∨ z = 30)) (h3 : q + 1 ≤ q' ∧ q' ≤ 1600) {bg' : Nat → Int} (hb : (∀ g : Nat, (g : Int) + 1 < dp → bg' g = bg g) ∧ bg' (dp - 1).toNat = 0) : PI inn (cds + 1) opM dp opn 1 t q' ops bs fr pr bg' (up1 cd (1600 * inn + cds).toNat z) f0 := by
  have W := PI_w h
  obtain ⟨⟨a1, a2, a3, ⟨a4, a5⟩, a6⟩, b, c, d, e, f, g, hh, i⟩ := h
  have e1 : 1600 * inn + cds - (1600 * inn + f0) = cds - f0 := by omega
  have jl : jdl z = 1 := by unfold jdl; rw [if_pos (by omega)]
  have jn : jnd z = 0 := by unfold jnd; rw [if_pos (by omega)]
  refine ⟨⟨⟨a1.1, a1.2.1, a1.2.2.1, by omega⟩, ⟨by omega, by omega⟩, a3, ⟨a4, a5⟩, by omega, by omega, a6.2.2.1, a6.2.2.2⟩, b, c, d, e, ?_, ?_, ?_, ?_⟩
  · intro g' hg
    rw [hb.1 g' hg]
    exact f g' hg
  · intro k
    rw [hb.2] at k
    omega
  · have := dpt_add (cd := cd) (c := 1600 * inn + f0) (e := 1600 * inn + cds) (z := z) (by omega) (by omega)
    rw [show 1600 * inn + cds + 1 - (1600 * inn + f0) = cds + 1 - f0 by omega, e1] at this
    rw [this, hh, jl]
    omega
  · have := cgd_add (cd := cd) (c := 1600 * inn + f0) (e := 1600 * inn + cds) (z := z) (by omega) (by omega) i ⟨by omega, by omega, by omega⟩ (by rw [e1, jn]; omega) (by rw [e1]; omega)
    rw [show 1600 * inn + cds + 1 = 1600 * inn + (cds + 1) by omega] at this
    exact this
/-- a frame more -/
theorem PI_push {k q' : Int} (h : PI inn cds opM dp opn 0 t q ops bs fr pr bg cd f0) (ht : t = pa (fr (dp - 1).toNat) (pr (dp - 1).toNat)) (hp : prok (fr (dp - 1).toNat) (pr (dp - 1).toNat)) (hk : 2 ≤ k ∧ k ≤ 6) (h2 : opn ≤ 6) (h3 : q + 1 ≤ q' ∧ q' ≤ 1600) (hb0 : bg (dp - 1).toNat = 0) : PI inn cds opM (dp + 1) (opn + 1) 0 0 q' ops (up1 bs dp.toNat opM) (up1 fr dp.toNat k) pr (up1 bg dp.toNat 1) cd f0 := by
  have W := PI_w h
  obtain ⟨⟨a1, a2, a3, ⟨a4, a5⟩, a6⟩, ⟨b1, b2, b3⟩, c, d, e, f, g, hh, i⟩ := h
  have n0 : (dp + 1 - 1).toNat = dp.toNat := by omega
  refine ⟨⟨a1, ⟨by omega, by omega⟩, ⟨by omega, by omega⟩, ⟨by omega, by omega⟩, by omega, by omega, by omega, by omega⟩, ⟨?_, ?_, ?_⟩, ?_, ?_, ⟨?_, ?_⟩, ?_, ?_, ?_, i⟩
  · rw [up1_n bs opM (by omega)]; exact b1
  · rw [n0, up1_e]; omega
  · intro g1 g2 q1 q2
    by_cases z : g2 = dp.toNat
    · rw [z, up1_e]
      by_cases z1 : g1 = dp.toNat
      · rw [z1, up1_e]; omega
      · rw [up1_n bs opM z1]
        have := b3 g1 (dp - 1).toNat (by omega) (by omega)
        omega
    · rw [up1_n bs opM z, up1_n bs opM (show ¬ g1 = dp.toNat by omega)]
      exact b3 g1 g2 q1 (by omega)
  · intro j hj
    have := c j hj
    exact ⟨this.1, this.2.1, by omega⟩
  · intro g' j hg hj
    by_cases z : g' + 1 = dp.toNat
    · rw [z, up1_e] at hj
      have := c j hj
      omega
    · rw [up1_n bs opM z] at hj
      exact d g' j (by omega) hj
  · rw [up1_n fr k (by omega)]; exact e.1
  · intro g' hg
    by_cases z : g' = dp.toNat
    · rw [z, up1_e]; omega
    · rw [up1_n fr k z]; exact e.2 g' (by omega)
  · intro g' hg
    rw [up1_n fr k (show ¬ g' = dp.toNat by omega), up1_n bg 1 (show ¬ g' = dp.toNat by omega)]
    by_cases z : g' = (dp - 1).toNat
    · rw [z]; exact ⟨hp, hb0⟩
    · exact f g' (by omega)
  · intro _
    rw [n0, up1_e]
    exact ⟨rfl, Or.inl rfl⟩
  · rw [hh, n0]
    have : pA (up1 fr dp.toNat k) pr dp.toNat = pA fr pr dp.toNat := pA_c _ (fun j hj => ⟨up1_n fr k (by omega), rfl⟩)
    rw [this, show dp.toNat = (dp - 1).toNat + 1 by omega, pA_s, ← ht]
    omega
/-- a comma: the next part of a frame -/
theorem PI_comma {k t' q' : Int} (h : PI inn cds opM dp opn 1 t q ops bs fr pr bg cd f0) (ht : t' = t + 1) (h2 : t' ≤ 2) (hk : 2 ≤ k ∧ k ≤ 6) (h3 : q ≤ q' ∧ q' ≤ 1600) (hd : 2 ≤ dp) (hb : bg (dp - 1).toNat = 0) : PI inn cds opM dp opn 0 t' q' ops bs (up1 fr (dp - 1).toNat k) pr bg cd f0 := by
  obtain ⟨⟨a1, a2, a3, a4, a6⟩, b, c, d, e, f, g, hh, i⟩ := h
  refine ⟨⟨a1, ⟨by omega, by omega⟩, a3, a4, by omega, by omega, by omega, by omega⟩, b, c, d, ⟨?_, ?_⟩, ?_, ?_, ?_, i⟩
  · rw [up1_n fr k (by omega)]; exact e.1
  · intro g' hg
    by_cases z : g' = (dp - 1).toNat
    · rw [z, up1_e]; omega
    · rw [up1_n fr k z]; exact e.2 g' hg
  · intro g' hg
    rw [up1_n fr k (show ¬ g' = (dp - 1).toNat by omega)]
    exact f g' hg
  · intro z; omega
  · have : pA (up1 fr (dp - 1).toNat k) pr (dp - 1).toNat = pA fr pr (dp - 1).toNat := pA_c _ (fun j hj => ⟨up1_n fr k (by omega), rfl⟩)
    rw [hh, this]
    omega
/-- a frame is left -/
theorem PI_leave {q' : Int} (h : PI inn cds opM dp opn 1 0 q ops bs fr pr bg cd f0) (he : opM = bs (dp - 1).toNat) (hd : 2 ≤ dp) (h3 : q ≤ q' ∧ q' ≤ 1600) : PI inn cds opM (dp - 1) (opn - 1) 1 (pa (fr (dp - 2).toNat) (pr (dp - 2).toNat)) q' ops bs fr pr bg cd f0 ∧ prok (fr (dp - 2).toNat) (pr (dp - 2).toNat) := by
  obtain ⟨⟨a1, a2, a3, ⟨a4, a5⟩, a6⟩, ⟨b1, b2, b3⟩, c, d, e, f, g, hh, i⟩ := h
  have n0 : (dp - 1 - 1).toNat = (dp - 2).toNat := by omega
  have f1 := f (dp - 2).toNat (by omega)
  have p1 := pa_b (fr (dp - 2).toNat) (pr (dp - 2).toNat)
  refine ⟨⟨⟨a1, ⟨by omega, by omega⟩, ⟨by omega, by omega⟩, ⟨by omega, by omega⟩, by omega, by omega, by omega, by omega⟩, ⟨b1, ?_, fun g1 g2 q1 q2 => b3 g1 g2 q1 (by omega)⟩, ?_, fun g' j q1 q2 => d g' j (by omega) q2, ⟨e.1, fun g' q1 => e.2 g' (by omega)⟩, fun g' q1 => f g' (by omega), ?_, ?_, i⟩, f1.1⟩
  · rw [n0]
    have := b3 (dp - 2).toNat (dp - 1).toNat (by omega) (by omega)
    omega
  · intro j hj
    have c1 := c j hj
    have d1 := d (dp - 2).toNat j (by omega) (by rw [show (dp - 2).toNat + 1 = (dp - 1).toNat by omega]; omega)
    exact ⟨c1.1, c1.2.1, by omega⟩
  · rw [n0, f1.2]
    intro z
    omega
  · rw [hh, n0, show (dp - 1).toNat = (dp - 2).toNat + 1 by omega, pA_s]
    omega
/-- a pair's code -/
theorem PI_pair {z : Int} (h : PI inn cds opM dp opn 1 t q ops bs fr pr bg cd f0) (hz : (z = 44 ∧ t = 2) ∨ ((z = 36 ∨ z = 37) ∧ t = 1)) (h3 : cds + opM + 1 ≤ q + 1 ∧ q + 1 ≤ 1600) : PI inn (cds + 1) opM dp opn 1 0 (q + 1) ops bs fr pr bg (up1 cd (1600 * inn + cds).toNat z) f0 := by
  have W := PI_w h
  obtain ⟨⟨a1, a2, a3, ⟨a4, a5⟩, a6⟩, b, c, d, e, f, g, hh, i⟩ := h
  have e1 : 1600 * inn + cds - (1600 * inn + f0) = cds - f0 := by omega
  have c5 := pW_b ops opM.toNat
  have c6 := pA_b fr pr (dp - 1).toNat
  have jl : jdl z = - t := by
    unfold jdl
    repeat' split
    all_goals omega
  have jn : jnd z = t + 1 := by
    unfold jnd
    repeat' split
    all_goals omega
  refine ⟨⟨⟨a1.1, a1.2.1, a1.2.2.1, by omega⟩, ⟨by omega, by omega⟩, a3, ⟨a4, a5⟩, by omega, by omega, by omega, by omega⟩, b, c, d, e, f, g, ?_, ?_⟩
  · have := dpt_add (cd := cd) (c := 1600 * inn + f0) (e := 1600 * inn + cds) (z := z) (by omega) (by omega)
    rw [show 1600 * inn + cds + 1 - (1600 * inn + f0) = cds + 1 - f0 by omega, e1] at this
    rw [this, hh, jl]
    omega
  · have := cgd_add (cd := cd) (c := 1600 * inn + f0) (e := 1600 * inn + cds) (z := z) (by omega) (by omega) i ⟨by omega, by omega, by omega⟩ (by rw [e1, hh, jn]; omega) (by rw [e1]; omega)
    rw [show 1600 * inn + cds + 1 = 1600 * inn + (cds + 1) by omega] at this
    exact this
end PI1
