/-! what the interval executor's state means -/
def arel (n : Nat) (rho : Nat → Int) (v : aI) (z : Int) : Prop := match v.1 with
  | none => z = v.2
  | some k => k < n ∧ z = rho k + v.2
def avr (n : Nat) (rho : Nat → Int) (v : aV) (u : zV) : Prop := match v, u with
  | .inl a, .inl z => arel n rho a z
  | .inr (.inl a), .inr (.inl z) => arel n rho a z
  | .inr (.inr c), .inr (.inr (.inl o)) => c = o
  | _, _ => False
def aokF (F : aF) (rho : Nat → Int) : Prop := ∀ k, k < afl F → (afn F k).1 ≤ rho k ∧ rho k ≤ (afn F k).2
def aext (n : Nat) (rho : Nat → Int) (n' : Nat) (rho' : Nat → Int) : Prop := n ≤ n' ∧ ∀ k, k < n → rho' k = rho k
theorem aext.rf (n : Nat) (rho : Nat → Int) : aext n rho n rho := ⟨Nat.le_refl _, fun _ _ => rfl⟩
theorem aext.tr {n n' n'' : Nat} {rho rho' rho'' : Nat → Int} (h : aext n rho n' rho') (k : aext n' rho' n'' rho'') : aext n rho n'' rho'' := ⟨Nat.le_trans h.1 k.1, fun i hi => by rw [k.2 i (Nat.lt_of_lt_of_le hi h.1), h.2 i hi]⟩
theorem arel.ext {n n' : Nat} {rho rho' : Nat → Int} {v : aI} {z : Int} (h : arel n rho v z) (e : aext n rho n' rho') : arel n' rho' v z := by
  obtain ⟨k, c⟩ := v
  cases k with
  | none => exact h
  | some k =>
    obtain ⟨h1, h2⟩ : k < n ∧ z = rho k + c := h
    show k < n' ∧ z = rho' k + c
    rw [e.2 k h1]
    exact ⟨Nat.lt_of_lt_of_le h1 e.1, h2⟩
theorem avr.ext {n n' : Nat} {rho rho' : Nat → Int} {v : aV} {u : zV} (h : avr n rho v u) (e : aext n rho n' rho') : avr n' rho' v u := by
  rcases v with a | (a | c) <;> rcases u with z | (z | (o | j)) <;> first | exact arel.ext h e | exact h
theorem afn_e (F : aF) (q : aB) : ∀ k, (k < afl F → afn (afe F q) k = afn F k) ∧ afn (afe F q) (afl F) = q := by
  induction F with
  | nil => intro k; exact ⟨fun h => absurd h (Nat.not_lt_zero k), rfl⟩
  | cons a t ih =>
    intro k
    refine ⟨fun h => ?_, (ih 0).2⟩
    cases k with
    | zero => rfl
    | succ k => exact (ih k).1 (Nat.lt_of_succ_lt_succ h)
theorem afl_e (F : aF) (q : aB) : afl (afe F q) = afl F + 1 := by
  induction F with
  | nil => rfl
  | cons a t ih =>
    show Nat.succ (afl (afe t q)) = Nat.succ (afl t) + 1
    rw [ih]
theorem afn_s (F : aF) (q : aB) (s : Nat) : ∀ k, afn (afs F s q) k = if k = s ∧ s < afl F then q else afn F k := by
  induction F generalizing s with
  | nil =>
    intro k
    rw [if_neg (fun h => Nat.not_lt_zero s h.2)]
    rfl
  | cons a t ih =>
    intro k
    cases s with
    | zero =>
      cases k with
      | zero => rw [if_pos ⟨rfl, Nat.zero_lt_succ _⟩]; rfl
      | succ k => rw [if_neg (fun h => by cases h.1)]; rfl
    | succ s =>
      cases k with
      | zero => rw [if_neg (fun h => by cases h.1)]; rfl
      | succ k =>
        show afn (afs t s q) k = _
        rw [ih s k]
        by_cases h : k = s ∧ s < afl t
        · rw [if_pos h, if_pos ⟨by rw [h.1], Nat.succ_lt_succ h.2⟩]
        · rw [if_neg h, if_neg (fun g => h ⟨Nat.succ.inj g.1, Nat.lt_of_succ_lt_succ g.2⟩)]
          rfl
theorem afl_s (F : aF) (q : aB) : ∀ s, afl (afs F s q) = afl F := by
  induction F with
  | nil => intro s; rfl
  | cons a t ih =>
    intro s
    cases s with
    | zero => rfl
    | succ s =>
      show Nat.succ (afl (afs t s q)) = Nat.succ (afl t)
      rw [ih]
theorem arg_ok {F : aF} {rho : Nat → Int} {v : aI} {z : Int} (hF : aokF F rho) (h : arel (afl F) rho v z) : (arg F v).1 ≤ z ∧ z ≤ (arg F v).2 := by
  obtain ⟨k, c⟩ := v
  cases k with
  | none =>
    have h : z = c := h
    show c ≤ z ∧ z ≤ c
    omega
  | some k =>
    obtain ⟨h1, h2⟩ : k < afl F ∧ z = rho k + c := h
    have := hF k h1
    show (afn F k).1 + c ≤ z ∧ z ≤ (afn F k).2 + c
    omega
theorem afr_ok {F : aF} {q : aB} {k : aF → aI → Bool} {rho : Nat → Int} {z : Int} (h : afr F q k = true) (hF : aokF F rho) (h1 : q.1 ≤ z) (h2 : z ≤ q.2) : ∃ F1 v rho1, k F1 v = true ∧ aokF F1 rho1 ∧ aext (afl F) rho (afl F1) rho1 ∧ arel (afl F1) rho1 v z := by
  unfold afr at h
  cases c : ieq q.1 q.2 with
  | true =>
    rw [c] at h
    have c := ieq_ok c
    exact ⟨F, (none, q.1), rho, h, hF, aext.rf _ _, by show z = q.1; omega⟩
  | false =>
    rw [c] at h
    refine ⟨afe F q, (some (afl F), 0), fun i => if i = afl F then z else rho i, h, ?_, ?_, ?_⟩
    · intro i hi
      rw [afl_e] at hi
      show (afn (afe F q) i).1 ≤ (if i = afl F then z else rho i) ∧ (if i = afl F then z else rho i) ≤ (afn (afe F q) i).2
      by_cases e : i = afl F
      · rw [if_pos e, e, (afn_e F q 0).2]
        exact ⟨h1, h2⟩
      · rw [if_neg e, (afn_e F q i).1 (by omega)]
        exact hF i (by omega)
    · rw [afl_e]
      exact ⟨by omega, fun i hi => if_neg (by omega)⟩
    · rw [afl_e]
      show afl F < afl F + 1 ∧ z = (if afl F = afl F then z else rho (afl F)) + 0
      rw [if_pos rfl]
      omega
theorem aref_ok {F : aF} {v : aI} {lo hi : Int} {k : aF → Bool} {rho : Nat → Int} {z : Int} (h : aref F v lo hi k = true) (hF : aokF F rho) (hv : arel (afl F) rho v z) (h1 : lo ≤ z) (h2 : z ≤ hi) : ∃ F1, k F1 = true ∧ aokF F1 rho ∧ afl F1 = afl F := by
  have hb := arg_ok hF hv
  obtain ⟨s, c⟩ := v
  cases s with
  | none =>
    have hz : z = c := hv
    have h : cond (ile lo c && ile c hi) (k F) true = true := h
    cases q : (ile lo c && ile c hi) with
    | true => rw [q] at h; exact ⟨F, h, hF, rfl⟩
    | false =>
      exfalso
      cases q1 : ile lo c with
      | false => have := ile_no q1; omega
      | true =>
        rw [q1, Bool.true_and] at q
        have := ile_no q
        omega
  | some s =>
    obtain ⟨hs, hz⟩ : s < afl F ∧ z = rho s + c := hv
    have hb : (afn F s).1 + c ≤ z ∧ z ≤ (afn F s).2 + c := hb
    have h : cond (ile (imax ((afn F s).1 + c) lo) (imin ((afn F s).2 + c) hi)) (k (afs F s (imax ((afn F s).1 + c) lo - c, imin ((afn F s).2 + c) hi - c))) true = true := h
    have g1 : imax ((afn F s).1 + c) lo ≤ z := imax_le hb.1 h1
    have g2 : z ≤ imin ((afn F s).2 + c) hi := le_imin hb.2 h2
    cases q : ile (imax ((afn F s).1 + c) lo) (imin ((afn F s).2 + c) hi) with
    | false => have := ile_no q; omega
    | true =>
      rw [q] at h
      refine ⟨_, h, ?_, afl_s _ _ _⟩
      intro i hi
      rw [afl_s] at hi
      rw [afn_s]
      by_cases e : i = s ∧ s < afl F
      · rw [if_pos e, e.1]
        show imax ((afn F s).1 + c) lo - c ≤ rho s ∧ rho s ≤ imin ((afn F s).2 + c) _ - c
        omega
      · rw [if_neg e]
        exact hF i hi
theorem aext.of_eq {n n' : Nat} (rho : Nat → Int) (h : n' = n) : aext n rho n' rho := by rw [h]; exact aext.rf _ _
section ACM
variable {F : aF} {k : aF → Bool} {rho : Nat → Int} {a b : aI} {x y : Int}
theorem alt_ok (h : alt F a b k = true) (hF : aokF F rho) (ha : arel (afl F) rho a x) (hb : arel (afl F) rho b y) (c : x < y) : ∃ F1, k F1 = true ∧ aokF F1 rho ∧ afl F1 = afl F := by
  have ra := arg_ok hF ha
  have rb := arg_ok hF hb
  obtain ⟨F1, h1, h2, h3⟩ := aref_ok h hF ha ra.1 (by omega)
  rw [← h3] at hb
  obtain ⟨F2, g1, g2, g3⟩ := aref_ok h1 h2 hb (by omega) rb.2
  exact ⟨F2, g1, g2, by rw [g3, h3]⟩
theorem ale_ok (h : ale F a b k = true) (hF : aokF F rho) (ha : arel (afl F) rho a x) (hb : arel (afl F) rho b y) (c : x ≤ y) : ∃ F1, k F1 = true ∧ aokF F1 rho ∧ afl F1 = afl F := by
  have ra := arg_ok hF ha
  have rb := arg_ok hF hb
  obtain ⟨F1, h1, h2, h3⟩ := aref_ok h hF ha ra.1 (by omega)
  rw [← h3] at hb
  obtain ⟨F2, g1, g2, g3⟩ := aref_ok h1 h2 hb (by omega) rb.2
  exact ⟨F2, g1, g2, by rw [g3, h3]⟩
theorem aeq_ok (h : aeq F a b k = true) (hF : aokF F rho) (ha : arel (afl F) rho a x) (hb : arel (afl F) rho b y) (c : x = y) : ∃ F1, k F1 = true ∧ aokF F1 rho ∧ afl F1 = afl F := by
  have ra := arg_ok hF ha
  have rb := arg_ok hF hb
  obtain ⟨F1, h1, h2, h3⟩ := aref_ok h hF ha (by omega) (by omega)
  rw [← h3] at hb
  obtain ⟨F2, g1, g2, g3⟩ := aref_ok h1 h2 hb (by omega) (by omega)
  exact ⟨F2, g1, g2, by rw [g3, h3]⟩
theorem anc_ok {c : Int} (h : anc F a c k = true) (hF : aokF F rho) (ha : arel (afl F) rho a x) (hc : ¬ x = c) : ∃ F1, k F1 = true ∧ aokF F1 rho ∧ afl F1 = afl F := by
  have ra := arg_ok hF ha
  obtain ⟨h1, h2⟩ := rx_an h
  rcases Int.lt_or_gt_of_ne hc with c1 | c1
  · exact aref_ok h1 hF ha ra.1 (by omega)
  · exact aref_ok h2 hF ha (by omega) ra.2
theorem ane_ok (h : ane F a b k = true) (hF : aokF F rho) (ha : arel (afl F) rho a x) (hb : arel (afl F) rho b y) (c : ¬ x = y) : ∃ F1, k F1 = true ∧ aokF F1 rho ∧ afl F1 = afl F := by
  have ra := arg_ok hF ha
  have rb := arg_ok hF hb
  unfold ane at h
  cases q : ieq (arg F b).1 (arg F b).2 with
  | true =>
    rw [q] at h
    have q := ieq_ok q
    cases q2 : (ile (arg F a).1 (arg F b).1 && ile (arg F b).1 (arg F a).2) with
    | true => rw [q2] at h; exact anc_ok h hF ha (by omega)
    | false => rw [q2] at h; exact ⟨F, h, hF, rfl⟩
  | false =>
    rw [q] at h
    cases q1 : ieq (arg F a).1 (arg F a).2 with
    | true =>
      rw [q1] at h
      have q1 := ieq_ok q1
      cases q2 : (ile (arg F b).1 (arg F a).1 && ile (arg F a).1 (arg F b).2) with
      | true => rw [q2] at h; exact anc_ok h hF hb (by omega)
      | false => rw [q2] at h; exact ⟨F, h, hF, rfl⟩
    | false => rw [q1] at h; exact ⟨F, h, hF, rfl⟩
theorem acm_ok {c : Jvm.ClassFile.Cond} (h : acm c F a b k = true) (hF : aokF F rho) (ha : arel (afl F) rho a x) (hb : arel (afl F) rho b y) (hc : zcmp c x y) : ∃ F1, k F1 = true ∧ aokF F1 rho ∧ afl F1 = afl F := by
  cases c
  · exact aeq_ok h hF ha hb hc
  · exact ane_ok h hF ha hb hc
  · exact alt_ok h hF ha hb hc
  · exact ale_ok h hF hb ha hc
  · exact alt_ok h hF hb ha hc
  · exact ale_ok h hF ha hb hc
theorem acn_ok {c : Jvm.ClassFile.Cond} (h : ¬ zcmp c x y) : zcmp (acn c) x y := by
  cases c
  · exact h
  · exact Classical.not_not.mp h
  · show y ≤ x; have h : ¬ x < y := h; omega
  · show x < y; have h : ¬ y ≤ x := h; omega
  · show x ≤ y; have h : ¬ y < x := h; omega
  · show y < x; have h : ¬ x ≤ y := h; omega
end ACM
/-- an operation's result -/
def aop (k : aF → aI → Bool) (F : aF) (rho : Nat → Int) (z : Int) : Prop := ∃ F1 v rho1, k F1 v = true ∧ aokF F1 rho1 ∧ aext (afl F) rho (afl F1) rho1 ∧ arel (afl F1) rho1 v z
theorem aop.of {k : aF → aI → Bool} {F : aF} {rho : Nat → Int} {v : aI} {z : Int} (h : k F v = true) (hF : aokF F rho) (hv : arel (afl F) rho v z) : aop k F rho z := ⟨F, v, rho, h, hF, aext.rf _ _, hv⟩
theorem ain_ok {f q : aB} (h : ain f q = true) : f.1 ≤ q.1 ∧ q.2 ≤ f.2 := by
  obtain ⟨h1, h2⟩ := rx_an h
  exact ⟨ile_ok h1, ile_ok h2⟩
theorem aon_ok {a b : Option Nat} (h : aon a b = true) : a = b := by
  cases a with
  | none => cases b with
    | none => rfl
    | some y => cases h
  | some x => cases b with
    | none => cases h
    | some y => rw [rx_bq (show Nat.beq x y = true from h)]
section AOP
variable {f : aB} {W : Int → Int} {F : aF} {k : aF → aI → Bool} {rho : Nat → Int} {a b : aI} {x y : Int}
theorem aad_ok (h : aad f F a b k = true) (hW : ∀ z, f.1 ≤ z → z ≤ f.2 → W z = z) (hW2 : ∀ z, f.1 ≤ W z ∧ W z ≤ f.2) (hF : aokF F rho) (ha : arel (afl F) rho a x) (hb : arel (afl F) rho b y) : aop k F rho (W (x + y)) := by
  have ra := arg_ok hF ha
  have rb := arg_ok hF hb
  unfold aad at h
  cases q : ain f ((arg F a).1 + (arg F b).1, (arg F a).2 + (arg F b).2) with
  | false =>
    rw [q] at h
    exact afr_ok h hF (hW2 _).1 (hW2 _).2
  | true =>
    rw [q] at h
    have q := ain_ok q
    dsimp only at q
    rw [hW _ (by omega) (by omega)]
    obtain ⟨ka, ca⟩ := a
    obtain ⟨kb, cb⟩ := b
    cases ka with
    | none =>
      have ha : x = ca := ha
      refine aop.of h hF ?_
      cases kb with
      | none => have hb : y = cb := hb; show x + y = ca + cb; omega
      | some kb => obtain ⟨hb1, hb2⟩ : kb < afl F ∧ y = rho kb + cb := hb; show kb < afl F ∧ x + y = rho kb + (ca + cb); exact ⟨hb1, by omega⟩
    | some ka =>
      cases kb with
      | none =>
        have hb : y = cb := hb
        obtain ⟨ha1, ha2⟩ : ka < afl F ∧ x = rho ka + ca := ha
        exact aop.of h hF ⟨ha1, by show x + y = rho ka + (ca + cb); omega⟩
      | some kb => exact afr_ok h hF (by show _ ≤ _; dsimp only; omega) (by show _ ≤ _; dsimp only; omega)
theorem asb_ok (h : asb f F a b k = true) (hW : ∀ z, f.1 ≤ z → z ≤ f.2 → W z = z) (hW2 : ∀ z, f.1 ≤ W z ∧ W z ≤ f.2) (hF : aokF F rho) (ha : arel (afl F) rho a x) (hb : arel (afl F) rho b y) : aop k F rho (W (x - y)) := by
  have ra := arg_ok hF ha
  have rb := arg_ok hF hb
  unfold asb at h
  cases q0 : aon a.1 b.1 with
  | true =>
    rw [q0] at h
    have q0 := aon_ok q0
    have e : x - y = a.2 - b.2 := by
      obtain ⟨ka, ca⟩ := a
      obtain ⟨kb, cb⟩ := b
      dsimp only at q0
      subst q0
      cases ka with
      | none => have ha : x = ca := ha; have hb : y = cb := hb; show x - y = ca - cb; omega
      | some ka =>
        obtain ⟨ha1, ha2⟩ : ka < afl F ∧ x = rho ka + ca := ha
        obtain ⟨hb1, hb2⟩ : ka < afl F ∧ y = rho ka + cb := hb
        show x - y = ca - cb
        omega
    cases q : ain f (a.2 - b.2, a.2 - b.2) with
    | false => rw [q] at h; exact afr_ok h hF (hW2 _).1 (hW2 _).2
    | true =>
      rw [q] at h
      have q := ain_ok q
      dsimp only at q
      rw [hW _ (by omega) (by omega)]
      exact aop.of h hF e
  | false =>
    rw [q0] at h
    cases q : ain f ((arg F a).1 - (arg F b).2, (arg F a).2 - (arg F b).1) with
    | false =>
      rw [q] at h
      exact afr_ok h hF (hW2 _).1 (hW2 _).2
    | true =>
      rw [q] at h
      have q := ain_ok q
      dsimp only at q
      rw [hW _ (by omega) (by omega)]
      obtain ⟨kb, cb⟩ := b
      cases kb with
      | none =>
        have hb : y = cb := hb
        refine aop.of h hF ?_
        obtain ⟨ka, ca⟩ := a
        cases ka with
        | none => have ha : x = ca := ha; show x - y = ca - cb; omega
        | some ka => obtain ⟨ha1, ha2⟩ : ka < afl F ∧ x = rho ka + ca := ha; exact ⟨ha1, by show x - y = rho ka + (ca - cb); omega⟩
      | some kb => exact afr_ok h hF (by show _ ≤ _; dsimp only; omega) (by show _ ≤ _; dsimp only; omega)
theorem mul_rng {x y a b c d : Int} (h1 : a ≤ x) (h2 : x ≤ b) (h3 : c ≤ y) (h4 : y ≤ d) : amn (a * c) (a * d) (b * c) (b * d) ≤ x * y ∧ x * y ≤ amx (a * c) (a * d) (b * c) (b * d) := by
  have m1 : amn (a * c) (a * d) (b * c) (b * d) ≤ a * c := Int.le_trans (imin_le _ _).1 (imin_le _ _).1
  have m2 : amn (a * c) (a * d) (b * c) (b * d) ≤ a * d := Int.le_trans (imin_le _ _).1 (imin_le _ _).2
  have m3 : amn (a * c) (a * d) (b * c) (b * d) ≤ b * c := Int.le_trans (imin_le _ _).2 (imin_le _ _).1
  have m4 : amn (a * c) (a * d) (b * c) (b * d) ≤ b * d := Int.le_trans (imin_le _ _).2 (imin_le _ _).2
  have n1 : a * c ≤ amx (a * c) (a * d) (b * c) (b * d) := Int.le_trans (le_imax _ _).1 (le_imax _ _).1
  have n2 : a * d ≤ amx (a * c) (a * d) (b * c) (b * d) := Int.le_trans (le_imax _ _).2 (le_imax _ _).1
  have n3 : b * c ≤ amx (a * c) (a * d) (b * c) (b * d) := Int.le_trans (le_imax _ _).1 (le_imax _ _).2
  have n4 : b * d ≤ amx (a * c) (a * d) (b * c) (b * d) := Int.le_trans (le_imax _ _).2 (le_imax _ _).2
  generalize amn (a * c) (a * d) (b * c) (b * d) = lo at *
  generalize amx (a * c) (a * d) (b * c) (b * d) = hi at *
  rcases Int.le_total 0 y with hy | hy
  · have p1 : a * y ≤ x * y := Int.mul_le_mul_of_nonneg_right h1 hy
    have p2 : x * y ≤ b * y := Int.mul_le_mul_of_nonneg_right h2 hy
    constructor
    · rcases Int.le_total 0 a with ha | ha
      · have := Int.mul_le_mul_of_nonneg_left h3 ha; omega
      · have := Int.mul_le_mul_of_nonpos_left ha h4; omega
    · rcases Int.le_total 0 b with hb | hb
      · have := Int.mul_le_mul_of_nonneg_left h4 hb; omega
      · have := Int.mul_le_mul_of_nonpos_left hb h3; omega
  · have p1 : b * y ≤ x * y := Int.mul_le_mul_of_nonpos_right h2 hy
    have p2 : x * y ≤ a * y := Int.mul_le_mul_of_nonpos_right h1 hy
    constructor
    · rcases Int.le_total 0 b with hb | hb
      · have := Int.mul_le_mul_of_nonneg_left h3 hb; omega
      · have := Int.mul_le_mul_of_nonpos_left hb h4; omega
    · rcases Int.le_total 0 a with ha | ha
      · have := Int.mul_le_mul_of_nonneg_left h4 ha; omega
      · have := Int.mul_le_mul_of_nonpos_left ha h3; omega
theorem aml_ok (h : aml f F a b k = true) (hW : ∀ z, f.1 ≤ z → z ≤ f.2 → W z = z) (hW2 : ∀ z, f.1 ≤ W z ∧ W z ≤ f.2) (hF : aokF F rho) (ha : arel (afl F) rho a x) (hb : arel (afl F) rho b y) : aop k F rho (W (x * y)) := by
  have ra := arg_ok hF ha
  have rb := arg_ok hF hb
  have hm := mul_rng ra.1 ra.2 rb.1 rb.2
  unfold aml at h
  generalize amn ((arg F a).1 * (arg F b).1) ((arg F a).1 * (arg F b).2) ((arg F a).2 * (arg F b).1) ((arg F a).2 * (arg F b).2) = lo at h hm
  generalize amx ((arg F a).1 * (arg F b).1) ((arg F a).1 * (arg F b).2) ((arg F a).2 * (arg F b).1) ((arg F a).2 * (arg F b).2) = hi at h hm
  cases q : ain f (lo, hi) with
  | false =>
    rw [q] at h
    exact afr_ok h hF (hW2 _).1 (hW2 _).2
  | true =>
    rw [q] at h
    have q := ain_ok q
    dsimp only at q
    rw [hW _ (by omega) (by omega)]
    exact afr_ok h hF hm.1 hm.2
theorem aany_ok {z : Int} (h : aany f F a b k = true) (hF : aokF F rho) (h1 : f.1 ≤ z) (h2 : z ≤ f.2) : aop k F rho z := afr_ok h hF h1 h2
theorem anz_ok (h : anz F b = true) (hF : aokF F rho) (hb : arel (afl F) rho b y) : ¬ y = 0 := by
  have rb := arg_ok hF hb
  rcases Bool.or_eq_true_iff.mp h with h | h
  · have := ile_ok h; omega
  · have := ile_ok h; omega
theorem adiv_ok {z : Int} (h : adiv f F a b k = true) (hF : aokF F rho) (hb : arel (afl F) rho b y) (h1 : f.1 ≤ z) (h2 : z ≤ f.2) : ¬ y = 0 ∧ aop k F rho z := by
  unfold adiv at h
  cases q : anz F b with
  | false => rw [q] at h; cases h
  | true => rw [q] at h; exact ⟨anz_ok q hF hb, afr_ok h hF h1 h2⟩
theorem arem_ok (h : arem f F a b k = true) (hW : ∀ z, f.1 ≤ z → z ≤ f.2 → W z = z) (hW2 : ∀ z, f.1 ≤ W z ∧ W z ≤ f.2) (hf : f.1 = - f.2 - 1) (hF : aokF F rho) (ha : arel (afl F) rho a x) (hb : arel (afl F) rho b y) : ¬ y = 0 ∧ aop k F rho (W (Int.tmod x y)) := by
  have ra := arg_ok hF ha
  have rb := arg_ok hF hb
  unfold arem at h
  cases q : (anz F b && ain f (arg F b)) with
  | false => rw [q] at h; cases h
  | true =>
    rw [q] at h
    obtain ⟨q, q9⟩ := rx_an q
    have q9 := ain_ok q9
    refine ⟨anz_ok q hF hb, ?_⟩
    have h : arm f F a b k = true := h
    unfold arm at h
    cases q1 : ile 1 (arg F b).1 with
    | false => rw [q1] at h; exact afr_ok h hF (hW2 _).1 (hW2 _).2
    | true =>
      rw [q1] at h
      have q1 := ile_ok q1
      have y1 : 1 ≤ y := by omega
      have hlt : Int.tmod x y < y := Int.tmod_lt_of_pos x (by omega)
      have hgt : - y < Int.tmod x y := by
        have h0 := Int.tmod_lt_of_pos (-x) (show 0 < y by omega)
        rw [Int.neg_tmod] at h0
        omega
      rw [hW _ (by omega) (by omega)]
      cases q2 : ile 0 (arg F a).1 with
      | false => rw [q2] at h; exact afr_ok h hF (by show - ((arg F b).2 - 1) ≤ _; omega) (by show _ ≤ (arg F b).2 - 1; omega)
      | true =>
        rw [q2] at h
        have q2 := ile_ok q2
        have x0 : 0 ≤ x := by omega
        have hn : 0 ≤ Int.tmod x y := Int.tmod_nonneg y x0
        have hle : Int.tmod x y ≤ x := by
          rw [Int.tmod_eq_emod_of_nonneg x0]
          have e1 := Int.emod_add_mul_ediv x y
          have e2 : 0 ≤ y * (x / y) := Int.mul_nonneg (by omega) (Int.ediv_nonneg x0 (by omega))
          omega
        exact afr_ok h hF hn (le_imin (by omega) (by omega))
end AOP
theorem ashr_ok {F : aF} {k : aF → aI → Bool} {rho : Nat → Int} {a b : aI} {x d : Int} (h : ashr afI F a b k = true) (hF : aokF F rho) (ha : arel (afl F) rho a x) (hd : 0 < d) : aop k F rho (x / d) := by
  have ra := arg_ok hF ha
  unfold ashr at h
  cases q : ain afI (arg F a) with
  | false => rw [q] at h; cases h
  | true =>
    rw [q] at h
    have q := ain_ok q
    have q1 : -2147483648 ≤ (arg F a).1 := q.1
    have q2 : (arg F a).2 ≤ 2147483647 := q.2
    have this := zdiv_rng (x := x) (d := d) (a := -2147483648) (b := 2147483647) hd (by omega) (by omega) (by omega) (by omega)
    have h : afr F afI k = true := h
    exact afr_ok h hF this.1 this.2
theorem aan_ok {F : aF} {k : aF → aI → Bool} {rho : Nat → Int} {a b : aI} {x y : Int} (h : aan afI F a b k = true) (hF : aokF F rho) (hb : arel (afl F) rho b y) : aop k F rho (zd (Nat.land (zi x) (zi y))) := by
  have rb := arg_ok hF hb
  unfold aan at h
  cases q : (ile 0 (arg F b).1 && ile (arg F b).2 2147483647) with
  | false =>
    rw [q] at h
    have this := zd_ok (zland x y)
    have h : afr F afI k = true := h
    exact afr_ok h hF this.1 this.2
  | true =>
    rw [q] at h
    obtain ⟨q, q2⟩ := rx_an q
    have q := ile_ok q
    have q2 := ile_ok q2
    have hle : Nat.land (zi x) (zi y) ≤ zi y := Nat.and_le_right
    have hz : zi y = y.toNat := zi_nn (by omega) (by omega)
    have e : zd (Nat.land (zi x) (zi y)) = ((Nat.land (zi x) (zi y) : Nat) : Int) := by
      unfold zd
      rw [zblt, decide_eq_true (show Nat.land (zi x) (zi y) < 2147483648 by omega)]
      rfl
    rw [e]
    exact afr_ok h hF (by show (0 : Int) ≤ _; omega) (by show _ ≤ (arg F b).2; omega)
