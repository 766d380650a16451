/-! a step of the interval executor is a step of the second layer -/
def aFr (m : aM) (st0 st : zS) : Prop := ∀ c i, amf m c i = false → ama m c = false → st c i = st0 c i
def aRo (n : Nat) (rho : Nat → Int) (r : Option aV) (u : Option zV) : Prop := match r, u with
  | none, none => True
  | some v, some x => avr n rho v x
  | _, _ => False
def aX (gt : aG) (m : aM) (st0 : zS) (n0 : Nat) (rho0 : Nat → Int) (F : aF) (rho : Nat → Int) (L : aL) (S : List aV) (O : aO) (A : aA) (Lz : zL) (Sz : List zV) (st : zS) : Prop := aokF F rho ∧ aext n0 rho0 (afl F) rho ∧ aRL (afl F) rho L Lz ∧ aRS (afl F) rho S Sz ∧ aRT gt (afl F) rho O A st ∧ aFr m st0 st
def aKs (gt : aG) (m : aM) (st0 : zS) (n0 : Nat) (rho0 : Nat → Int) (K : aK) (Kz : zG) : Prop := ∀ cs L S F O A, K cs L S F O A = true → ∀ rho Lz Sz st, aX gt m st0 n0 rho0 F rho L S O A Lz Sz st → Kz cs Lz Sz st
def aEs (gt : aG) (m : aM) (st0 : zS) (n0 : Nat) (rho0 : Nat → Int) (kc : aE) (Q : zQ) : Prop := ∀ r F O A, kc r F O A = true → ∀ rho rz st, aokF F rho → aext n0 rho0 (afl F) rho → aRo (afl F) rho r rz → aRT gt (afl F) rho O A st → aFr m st0 st → Q rz st
def aCs (gt : aG) (m : aM) (st0 : zS) (n0 : Nat) (rho0 : Nat → Int) (ic : aC) (call : zCall) : Prop := ∀ nu as F O A kc, ic nu as F O A kc = true → ∀ rho asz st, aokF F rho → aext n0 rho0 (afl F) rho → aRS (afl F) rho as asz → aRT gt (afl F) rho O A st → aFr m st0 st → ∀ Q : zQ, aEs gt m st0 (afl F) rho kc Q → call nu asz st Q
theorem acond {b : Bool} {x : Bool} (h : cond b x false = true) : b = true ∧ x = true := by
  cases b
  · cases h
  · exact ⟨rfl, h⟩
theorem zcond {b : Bool} {P : Prop} (h : b = true) (k : P) : cond b P False := by rw [h]; exact k
theorem amf_ok {m : aM} {c i : Nat} : amf m c i = true ↔ (c, i) ∈ m.1 := by
  obtain ⟨l, l2⟩ := m
  show (List.rec false (fun (q : Nat × Nat) _ ih => cond (Nat.beq q.1 c && Nat.beq q.2 i) true ih) l : Bool) = true ↔ (c, i) ∈ l
  induction l with
  | nil => simp
  | cons q t ih =>
    show cond (Nat.beq q.1 c && Nat.beq q.2 i) true _ = true ↔ _
    rw [zbeq, zbeq]
    by_cases e : q.1 = c ∧ q.2 = i
    · rw [decide_eq_true e.1, decide_eq_true e.2]
      obtain ⟨a, b⟩ := q
      obtain ⟨rfl, rfl⟩ := e
      simp
    · have e2 : (decide (q.1 = c) && decide (q.2 = i)) = false := by
        cases c2 : (decide (q.1 = c) && decide (q.2 = i)) with
        | false => rfl
        | true =>
          obtain ⟨e3, e4⟩ := rx_an c2
          exact absurd ⟨of_decide_eq_true e3, of_decide_eq_true e4⟩ e
      rw [e2]
      refine Iff.trans ih ⟨fun h => List.mem_cons_of_mem _ h, fun h => ?_⟩
      rcases List.mem_cons.mp h with h | h
      · exact absurd ⟨by rw [← h], by rw [← h]⟩ e
      · exact h
theorem ama_ok {m : aM} {c : Nat} : ama m c = true ↔ c ∈ m.2 := by
  obtain ⟨l2, l⟩ := m
  show (List.rec false (fun (q : Nat) _ ih => cond (Nat.beq q c) true ih) l : Bool) = true ↔ c ∈ l
  induction l with
  | nil => simp
  | cons q t ih =>
    show cond (Nat.beq q c) true _ = true ↔ _
    rw [zbeq]
    by_cases e : q = c
    · rw [decide_eq_true e]
      simp [e]
    · rw [decide_eq_false e]
      refine Iff.trans ih ⟨fun h => List.mem_cons_of_mem _ h, fun h => ?_⟩
      rcases List.mem_cons.mp h with h | h
      · exact absurd h.symm e
      · exact h
theorem aFr_put {m : aM} {st0 st : zS} {o b : Nat} (h : aFr m st0 st) (hm : amf m o b = true) (z : Int) : aFr m st0 (zup st o b z) := by
  intro c i h1 h2
  have e : ¬ (c = o ∧ i = b) := by
    intro q
    rw [q.1, q.2, hm] at h1
    cases h1
  rw [zup_ne st z e]
  exact h c i h1 h2
theorem aFr_arr {m : aM} {st0 st st' : zS} {o : Nat} (h : aFr m st0 st) (hm : ama m o = true) (hn : ∀ c i, ¬ c = o → st' c i = st c i) : aFr m st0 st' := by
  intro c i h1 h2
  have e : ¬ c = o := by
    intro q
    rw [q, hm] at h2
    cases h2
  rw [hn c i e]
  exact h c i h1 h2
section ASND
variable {gt : aG} {m : aM} {st0 : zS} {n0 : Nat} {rho0 : Nat → Int} {K : aK} {Kz : zG} {rest cd : List rx_E} {F : aF} {rho : Nat → Int} {L : aL} {S : List aV} {O : aO} {A : aA} {Lz : zL} {Sz : List zV} {st : zS} {Sh : List zC} {nL q : Nat}
theorem aX.ex {F1 : aF} {rho1 : Nat → Int} (X : aX gt m st0 n0 rho0 F rho L S O A Lz Sz st) (h : aokF F1 rho1) (e : aext (afl F) rho (afl F1) rho1) : aX gt m st0 n0 rho0 F1 rho1 L S O A Lz Sz st := ⟨h, X.2.1.tr e, X.2.2.1.ext e, aRS.ext e X.2.2.2.1, X.2.2.2.2.1.ext e, X.2.2.2.2.2⟩
theorem aX.rf {F1 : aF} (X : aX gt m st0 n0 rho0 F rho L S O A Lz Sz st) (h : aokF F1 rho) (e : afl F1 = afl F) : aX gt m st0 n0 rho0 F1 rho L S O A Lz Sz st := X.ex h (aext.of_eq rho e)
theorem aX.sk {S' : List aV} {Sz' : List zV} (X : aX gt m st0 n0 rho0 F rho L S O A Lz Sz st) (h : aRS (afl F) rho S' Sz') : aX gt m st0 n0 rho0 F rho L S' O A Lz Sz' st := ⟨X.1, X.2.1, X.2.2.1, h, X.2.2.2.2.1, X.2.2.2.2.2⟩
theorem aX.lo {L' : aL} {Lz' : zL} (X : aX gt m st0 n0 rho0 F rho L S O A Lz Sz st) (h : aRL (afl F) rho L' Lz') : aX gt m st0 n0 rho0 F rho L' S O A Lz' Sz st := ⟨X.1, X.2.1, h, X.2.2.2.1, X.2.2.2.2.1, X.2.2.2.2.2⟩
/-- the stack's top -/
theorem aRS_i {n : Nat} {a : aI} (h : aRS n rho (.inl a :: S) Sz) : ∃ z Sz', Sz = .inl z :: Sz' ∧ arel n rho a z ∧ aRS n rho S Sz' := by
  cases Sz with
  | nil => exact absurd h id
  | cons u t =>
    rcases u with z | (z | (o | j))
    · exact ⟨z, t, rfl, h.1, h.2⟩
    · exact absurd h.1 id
    · exact absurd h.1 id
    · exact absurd h.1 id
theorem aRS_l {n : Nat} {a : aI} (h : aRS n rho (.inr (.inl a) :: S) Sz) : ∃ z Sz', Sz = .inr (.inl z) :: Sz' ∧ arel n rho a z ∧ aRS n rho S Sz' := by
  cases Sz with
  | nil => exact absurd h id
  | cons u t =>
    rcases u with z | (z | (o | j))
    · exact absurd h.1 id
    · exact ⟨z, t, rfl, h.1, h.2⟩
    · exact absurd h.1 id
    · exact absurd h.1 id
theorem aRS_r {n c : Nat} (h : aRS n rho (.inr (.inr c) :: S) Sz) : ∃ Sz', Sz = .inr (.inr (.inl c)) :: Sz' ∧ aRS n rho S Sz' := by
  cases Sz with
  | nil => exact absurd h id
  | cons u t =>
    rcases u with z | (z | (o | j))
    · exact absurd h.1 id
    · exact absurd h.1 id
    · have e : c = o := h.1
      rw [e]
      exact ⟨t, rfl, h.2⟩
    · exact absurd h.1 id
theorem aRS_v {n : Nat} {v : aV} (h : aRS n rho (v :: S) Sz) : ∃ u Sz', Sz = u :: Sz' ∧ avr n rho v u ∧ aRS n rho S Sz' := by
  cases Sz with
  | nil => exact absurd h id
  | cons u t => exact ⟨u, t, rfl, h.1, h.2⟩
theorem acats_z {n : Nat} : ∀ {S : List aV} {Sz : List zV}, aRS n rho S Sz → zcats Sz = acats S
  | [], [], _ => rfl
  | v :: S, u :: Sz, h => by
    show Nat.add (zcat u) (zcats Sz) = Nat.add (acat v) (acats S)
    rw [avr_cat h.1, acats_z h.2]
  | [], _ :: _, h => absurd h id
  | _ :: _, [], h => absurd h id
theorem s_cst (hK : aKs gt m st0 n0 rho0 K Kz) (X : aX gt m st0 n0 rho0 F rho L S O A Lz Sz st) {a : Nat} (h : acst K rest a L S F O A = true) : zcst Kz rest a Lz Sz st := by
  obtain ⟨h1, h2⟩ := acond h
  exact zcond h1 (hK _ _ _ _ _ _ h2 _ _ _ _ (X.sk ⟨(show zd a = zd a from rfl), X.2.2.2.1⟩))
theorem s_lst (hK : aKs gt m st0 n0 rho0 K Kz) (X : aX gt m st0 n0 rho0 F rho L S O A Lz Sz st) {a : Nat} (h : alst K rest a L S F O A = true) : zlst Kz rest a Lz Sz st := by
  obtain ⟨h1, h2⟩ := acond h
  exact zcond h1 (hK _ _ _ _ _ _ h2 _ _ _ _ (X.sk ⟨(show ze a = ze a from rfl), X.2.2.2.1⟩))
theorem s_ldI (hK : aKs gt m st0 n0 rho0 K Kz) (X : aX gt m st0 n0 rho0 F rho L S O A Lz Sz st) {a : Nat} (h : aldI K rest a L S F O A = true) : zldI Kz rest a Lz Sz st := by
  obtain ⟨v, h1, h2⟩ := aget_ok h
  obtain ⟨u, h3, h4⟩ := X.2.2.1 a v h1
  refine zget_of h3 ?_
  rcases v with x | (x | c)
  · rcases u with z | (z | (o | j))
    · exact hK _ _ _ _ _ _ h2 _ _ _ _ (X.sk ⟨h4, X.2.2.2.1⟩)
    · exact absurd h4 id
    · exact absurd h4 id
    · exact absurd h4 id
  · cases h2
  · cases h2
theorem s_ldL (hK : aKs gt m st0 n0 rho0 K Kz) (X : aX gt m st0 n0 rho0 F rho L S O A Lz Sz st) {a : Nat} (h : aldL K rest a L S F O A = true) : zldL Kz rest a Lz Sz st := by
  obtain ⟨v, h1, h2⟩ := aget_ok h
  obtain ⟨u, h3, h4⟩ := X.2.2.1 a v h1
  refine zget_of h3 ?_
  rcases v with x | (x | c)
  · cases h2
  · rcases u with z | (z | (o | j))
    · exact absurd h4 id
    · exact hK _ _ _ _ _ _ h2 _ _ _ _ (X.sk ⟨h4, X.2.2.2.1⟩)
    · exact absurd h4 id
    · exact absurd h4 id
  · cases h2
theorem s_ldA (hK : aKs gt m st0 n0 rho0 K Kz) (X : aX gt m st0 n0 rho0 F rho L S O A Lz Sz st) {a : Nat} (h : aldA K rest a L S F O A = true) : zldA Kz rest a Lz Sz st := by
  obtain ⟨v, h1, h2⟩ := aget_ok h
  obtain ⟨u, h3, h4⟩ := X.2.2.1 a v h1
  refine zget_of h3 ?_
  rcases v with x | (x | c)
  · cases h2
  · cases h2
  · rcases u with z | (z | (o | j))
    · exact absurd h4 id
    · exact absurd h4 id
    · exact hK _ _ _ _ _ _ h2 _ _ _ _ (X.sk ⟨h4, X.2.2.2.1⟩)
    · exact absurd h4 id
theorem s_stI (hK : aKs gt m st0 n0 rho0 K Kz) (X : aX gt m st0 n0 rho0 F rho L S O A Lz Sz st) {a : Nat} (h : astI nL K rest a L S F O A = true) : zstI nL Kz rest a Lz Sz st := by
  unfold astI at h
  split at h
  · rename_i x S'
    obtain ⟨h1, h2⟩ := acond h
    obtain ⟨h1, h3⟩ := rx_an h1
    obtain ⟨z, Sz', rfl, h4, h5⟩ := aRS_i X.2.2.2.1
    exact zcond h1 (hK _ _ _ _ _ _ h2 _ _ _ _ ((X.sk h5).lo (aRL_put1 X.2.2.1 h3 (u := .inl z) h4)))
  · cases h
theorem s_stL (hK : aKs gt m st0 n0 rho0 K Kz) (X : aX gt m st0 n0 rho0 F rho L S O A Lz Sz st) {a : Nat} (h : astL nL K rest a L S F O A = true) : zstL nL Kz rest a Lz Sz st := by
  unfold astL at h
  split at h
  · rename_i x S'
    obtain ⟨h1, h2⟩ := acond h
    obtain ⟨h1, h3⟩ := rx_an h1
    obtain ⟨z, Sz', rfl, h4, h5⟩ := aRS_l X.2.2.2.1
    exact zcond h1 (hK _ _ _ _ _ _ h2 _ _ _ _ ((X.sk h5).lo (aRL_put2 X.2.2.1 h3 (u := .inr (.inl z)) h4)))
  · cases h
theorem s_stA (hK : aKs gt m st0 n0 rho0 K Kz) (X : aX gt m st0 n0 rho0 F rho L S O A Lz Sz st) {a : Nat} (h : astA nL K rest a L S F O A = true) : zstA nL Kz rest a Lz Sz st := by
  unfold astA at h
  split at h
  · rename_i x S'
    obtain ⟨h1, h2⟩ := acond h
    obtain ⟨h1, h3⟩ := rx_an h1
    obtain ⟨Sz', rfl, h5⟩ := aRS_r X.2.2.2.1
    exact zcond h1 (hK _ _ _ _ _ _ h2 _ _ _ _ ((X.sk h5).lo (aRL_put1 X.2.2.1 h3 (v := .inr (.inr x)) (u := .inr (.inr (.inl x))) rfl)))
  · cases h
theorem zwI (z : Int) (h1 : afI.1 ≤ z) (h2 : z ≤ afI.2) : zw z = z := zw_id ⟨h1, h2⟩
theorem zxJ (z : Int) (h1 : afJ.1 ≤ z) (h2 : z ≤ afJ.2) : zx z = z := zx_id ⟨h1, h2⟩
theorem s_inc (hK : aKs gt m st0 n0 rho0 K Kz) (X : aX gt m st0 n0 rho0 F rho L S O A Lz Sz st) {a b : Nat} (h : ainc nL K rest a b L S F O A = true) : zinc nL Kz rest a b Lz Sz st := by
  obtain ⟨v, h1, h2⟩ := aget_ok h
  obtain ⟨u, h3, h4⟩ := X.2.2.1 a v h1
  refine zget_of h3 ?_
  rcases v with x | (x | c)
  · rcases u with z | (z | (o | j))
    · obtain ⟨g1, g2⟩ := acond h2
      obtain ⟨g1, g3⟩ := rx_an g1
      obtain ⟨g3, g4⟩ := rx_an g3
      obtain ⟨F1, y, rho1, k1, k2, k3, k4⟩ := aad_ok (W := zw) (y := zd b) g2 zwI (fun z => zw_ok z) X.1 h4 (show zd b = zd b from rfl)
      have X1 := X.ex k2 k3
      show cond (Nat.blt a nL && Nat.blt b 4294967296) _ False
      rw [g1, g3]
      exact hK _ _ _ _ _ _ k1 _ _ _ _ (X1.lo (aRL_put1 X1.2.2.1 g4 (u := .inl (zw (z + zd b))) k4))
    · exact absurd h4 id
    · exact absurd h4 id
    · exact absurd h4 id
  · cases h2
  · cases h2
theorem s_2 {f : aF → aI → aI → (aF → aI → Bool) → Bool} {g : Int → Int → Int} (hf : ∀ {F : aF} {rho : Nat → Int} {a b : aI} {x y : Int} {k : aF → aI → Bool}, f F a b k = true → aokF F rho → arel (afl F) rho a x → arel (afl F) rho b y → aop k F rho (g x y)) (hK : aKs gt m st0 n0 rho0 K Kz) (X : aX gt m st0 n0 rho0 F rho L S O A Lz Sz st) (h : a2 f K rest L S F O A = true) : z2 g Kz rest Lz Sz st := by
  unfold a2 at h
  split at h
  · rename_i y x S'
    obtain ⟨zy, Sz', rfl, h1, h2⟩ := aRS_i X.2.2.2.1
    obtain ⟨zx, Sz'', rfl, h3, h4⟩ := aRS_i h2
    obtain ⟨F1, v, rho1, k1, k2, k3, k4⟩ := hf h X.1 h3 h1
    exact hK _ _ _ _ _ _ k1 _ _ _ _ (((X.sk h4).ex k2 k3).sk ⟨k4, aRS.ext k3 h4⟩)
  · cases h
theorem s_2n {f : aF → aI → aI → (aF → aI → Bool) → Bool} {g : Int → Int → Int} (hf : ∀ {F : aF} {rho : Nat → Int} {a b : aI} {x y : Int} {k : aF → aI → Bool}, f F a b k = true → aokF F rho → arel (afl F) rho a x → arel (afl F) rho b y → ¬ y = 0 ∧ aop k F rho (g x y)) (hK : aKs gt m st0 n0 rho0 K Kz) (X : aX gt m st0 n0 rho0 F rho L S O A Lz Sz st) (h : a2 f K rest L S F O A = true) : z2n g Kz rest Lz Sz st := by
  unfold a2 at h
  split at h
  · rename_i y x S'
    obtain ⟨zy, Sz', rfl, h1, h2⟩ := aRS_i X.2.2.2.1
    obtain ⟨zx, Sz'', rfl, h3, h4⟩ := aRS_i h2
    obtain ⟨h0, F1, v, rho1, k1, k2, k3, k4⟩ := hf h X.1 h3 h1
    exact ⟨h0, hK _ _ _ _ _ _ k1 _ _ _ _ (((X.sk h4).ex k2 k3).sk ⟨k4, aRS.ext k3 h4⟩)⟩
  · cases h
theorem s_2l {f : aF → aI → aI → (aF → aI → Bool) → Bool} {g : Int → Int → Int} (hf : ∀ {F : aF} {rho : Nat → Int} {a b : aI} {x y : Int} {k : aF → aI → Bool}, f F a b k = true → aokF F rho → arel (afl F) rho a x → arel (afl F) rho b y → aop k F rho (g x y)) (hK : aKs gt m st0 n0 rho0 K Kz) (X : aX gt m st0 n0 rho0 F rho L S O A Lz Sz st) (h : a2l f K rest L S F O A = true) : z2l g Kz rest Lz Sz st := by
  unfold a2l at h
  split at h
  · rename_i y x S'
    obtain ⟨zy, Sz', rfl, h1, h2⟩ := aRS_l X.2.2.2.1
    obtain ⟨zx, Sz'', rfl, h3, h4⟩ := aRS_l h2
    obtain ⟨F1, v, rho1, k1, k2, k3, k4⟩ := hf h X.1 h3 h1
    exact hK _ _ _ _ _ _ k1 _ _ _ _ (((X.sk h4).ex k2 k3).sk ⟨k4, aRS.ext k3 h4⟩)
  · cases h
theorem s_2m {f : aF → aI → aI → (aF → aI → Bool) → Bool} {g : Int → Int → Int} (hf : ∀ {F : aF} {rho : Nat → Int} {a b : aI} {x y : Int} {k : aF → aI → Bool}, f F a b k = true → aokF F rho → arel (afl F) rho a x → arel (afl F) rho b y → ¬ y = 0 ∧ aop k F rho (g x y)) (hK : aKs gt m st0 n0 rho0 K Kz) (X : aX gt m st0 n0 rho0 F rho L S O A Lz Sz st) (h : a2l f K rest L S F O A = true) : z2m g Kz rest Lz Sz st := by
  unfold a2l at h
  split at h
  · rename_i y x S'
    obtain ⟨zy, Sz', rfl, h1, h2⟩ := aRS_l X.2.2.2.1
    obtain ⟨zx, Sz'', rfl, h3, h4⟩ := aRS_l h2
    obtain ⟨h0, F1, v, rho1, k1, k2, k3, k4⟩ := hf h X.1 h3 h1
    exact ⟨h0, hK _ _ _ _ _ _ k1 _ _ _ _ (((X.sk h4).ex k2 k3).sk ⟨k4, aRS.ext k3 h4⟩)⟩
  · cases h
theorem s_lcm (hK : aKs gt m st0 n0 rho0 K Kz) (X : aX gt m st0 n0 rho0 F rho L S O A Lz Sz st) (h : alcm K rest L S F O A = true) : zlcm Kz rest Lz Sz st := by
  unfold alcm at h
  split at h
  · rename_i y x S'
    obtain ⟨zy, Sz', rfl, h1, h2⟩ := aRS_l X.2.2.2.1
    obtain ⟨zx, Sz'', rfl, h3, h4⟩ := aRS_l h2
    obtain ⟨g1, h⟩ := acond h
    obtain ⟨g2, g3⟩ := acond h
    refine ⟨fun c => ?_, fun c => ?_, fun c => ?_⟩
    · obtain ⟨F1, k1, k2, k3⟩ := alt_ok g1 X.1 h3 h1 c
      exact hK _ _ _ _ _ _ k1 _ _ _ _ (((X.sk h4).rf k2 k3).sk ⟨rfl, aRS.ext (aext.of_eq rho k3) h4⟩)
    · obtain ⟨F1, k1, k2, k3⟩ := aeq_ok g2 X.1 h3 h1 c
      exact hK _ _ _ _ _ _ k1 _ _ _ _ (((X.sk h4).rf k2 k3).sk ⟨rfl, aRS.ext (aext.of_eq rho k3) h4⟩)
    · obtain ⟨F1, k1, k2, k3⟩ := alt_ok g3 X.1 h1 h3 c
      exact hK _ _ _ _ _ _ k1 _ _ _ _ (((X.sk h4).rf k2 k3).sk ⟨rfl, aRS.ext (aext.of_eq rho k3) h4⟩)
  · cases h
theorem s_i2l (hK : aKs gt m st0 n0 rho0 K Kz) (X : aX gt m st0 n0 rho0 F rho L S O A Lz Sz st) (h : ai2l K rest L S F O A = true) : zi2l Kz rest Lz Sz st := by
  unfold ai2l at h
  split at h
  · rename_i x S'
    obtain ⟨z, Sz', rfl, h1, h2⟩ := aRS_i X.2.2.2.1
    exact hK _ _ _ _ _ _ h _ _ _ _ (X.sk (Sz' := .inr (.inl z) :: Sz') ⟨h1, h2⟩)
  · cases h
theorem s_l2i (hK : aKs gt m st0 n0 rho0 K Kz) (X : aX gt m st0 n0 rho0 F rho L S O A Lz Sz st) (h : al2i K rest L S F O A = true) : zl2i Kz rest Lz Sz st := by
  unfold al2i at h
  split at h
  · rename_i x S'
    obtain ⟨z, Sz', rfl, h1, h2⟩ := aRS_l X.2.2.2.1
    cases c : ain afI (arg F x) with
    | true =>
      rw [c] at h
      have c := ain_ok c
      have ra := arg_ok X.1 h1
      have e : zw z = z := zwI z (by omega) (by omega)
      show Kz rest Lz (.inl (zw z) :: Sz') st
      rw [e]
      exact hK _ _ _ _ _ _ h _ _ _ _ (X.sk (Sz' := .inl z :: Sz') ⟨h1, h2⟩)
    | false =>
      rw [c] at h
      have h : afr F afI (fun F1 v => K rest L (.inl v :: S') F1 O A) = true := h
      obtain ⟨F1, v, rho1, k1, k2, k3, k4⟩ := afr_ok h X.1 (zw_ok z).1 (zw_ok z).2
      exact hK _ _ _ _ _ _ k1 _ _ _ _ (((X.sk h2).ex k2 k3).sk (Sz' := .inl (zw z) :: Sz') ⟨k4, aRS.ext k3 h2⟩)
  · cases h
theorem s_i2b (hK : aKs gt m st0 n0 rho0 K Kz) (X : aX gt m st0 n0 rho0 F rho L S O A Lz Sz st) (h : ai2b K rest L S F O A = true) : zi2b Kz rest Lz Sz st := by
  unfold ai2b at h
  split at h
  · rename_i x S'
    obtain ⟨z, Sz', rfl, h1, h2⟩ := aRS_i X.2.2.2.1
    obtain ⟨F1, v, rho1, k1, k2, k3, k4⟩ := afr_ok h X.1 (zb_ok z).1 (zb_ok z).2
    exact hK _ _ _ _ _ _ k1 _ _ _ _ (((X.sk h2).ex k2 k3).sk (Sz' := .inl (zb z) :: Sz') ⟨k4, aRS.ext k3 h2⟩)
  · cases h
theorem s_dup (hK : aKs gt m st0 n0 rho0 K Kz) (X : aX gt m st0 n0 rho0 F rho L S O A Lz Sz st) (h : adup K rest L S F O A = true) : zdup Kz rest Lz Sz st := by
  unfold adup at h
  split at h
  · rename_i v S'
    obtain ⟨h1, h2⟩ := acond h
    obtain ⟨u, Sz', rfl, h3, h4⟩ := aRS_v X.2.2.2.1
    exact zcond (by rw [avr_cat h3]; exact h1) (hK _ _ _ _ _ _ h2 _ _ _ _ (X.sk ⟨h3, h3, h4⟩))
  · cases h
theorem s_dup2 (hK : aKs gt m st0 n0 rho0 K Kz) (X : aX gt m st0 n0 rho0 F rho L S O A Lz Sz st) (h : adup2 K rest L S F O A = true) : zdup2 Kz rest Lz Sz st := by
  unfold adup2 at h
  split at h
  · rename_i v u S'
    obtain ⟨h1, h2⟩ := acond h
    obtain ⟨v', Sz', rfl, h3, h4⟩ := aRS_v X.2.2.2.1
    obtain ⟨u', Sz'', rfl, h5, h6⟩ := aRS_v h4
    exact zcond (by rw [avr_cat h3, avr_cat h5]; exact h1) (hK _ _ _ _ _ _ h2 _ _ _ _ (X.sk ⟨h3, h5, h3, h5, h6⟩))
  · cases h
theorem s_pop (hK : aKs gt m st0 n0 rho0 K Kz) (X : aX gt m st0 n0 rho0 F rho L S O A Lz Sz st) (h : apop K rest L S F O A = true) : zpop Kz rest Lz Sz st := by
  unfold apop at h
  split at h
  · rename_i v S'
    obtain ⟨h1, h2⟩ := acond h
    obtain ⟨v', Sz', rfl, h3, h4⟩ := aRS_v X.2.2.2.1
    exact zcond (by rw [avr_cat h3]; exact h1) (hK _ _ _ _ _ _ h2 _ _ _ _ (X.sk h4))
  · cases h
theorem s_icm {c : Jvm.ClassFile.Cond} {tgt : List rx_E} (hK : aKs gt m st0 n0 rho0 K Kz) (X : aX gt m st0 n0 rho0 F rho L S O A Lz Sz st) (h : aicm c K tgt rest L S F O A = true) : zicm c Kz tgt rest Lz Sz st := by
  unfold aicm at h
  split at h
  · rename_i y x S'
    obtain ⟨zy, Sz', rfl, h1, h2⟩ := aRS_i X.2.2.2.1
    obtain ⟨zx, Sz'', rfl, h3, h4⟩ := aRS_i h2
    obtain ⟨g1, g2⟩ := acond h
    refine ⟨fun k => ?_, fun k => ?_⟩
    · obtain ⟨F1, k1, k2, k3⟩ := acm_ok g1 X.1 h3 h1 k
      exact hK _ _ _ _ _ _ k1 _ _ _ _ ((X.sk h4).rf k2 k3)
    · obtain ⟨F1, k1, k2, k3⟩ := acm_ok g2 X.1 h3 h1 (acn_ok k)
      exact hK _ _ _ _ _ _ k1 _ _ _ _ ((X.sk h4).rf k2 k3)
  · cases h
theorem s_ifc {c : Jvm.ClassFile.Cond} {tgt : List rx_E} (hK : aKs gt m st0 n0 rho0 K Kz) (X : aX gt m st0 n0 rho0 F rho L S O A Lz Sz st) (h : aifc c K tgt rest L S F O A = true) : zifc c Kz tgt rest Lz Sz st := by
  unfold aifc at h
  split at h
  · rename_i x S'
    obtain ⟨zx, Sz', rfl, h3, h4⟩ := aRS_i X.2.2.2.1
    have h0 : arel (afl F) rho (none, 0) 0 := rfl
    obtain ⟨g1, g2⟩ := acond h
    refine ⟨fun k => ?_, fun k => ?_⟩
    · obtain ⟨F1, k1, k2, k3⟩ := acm_ok g1 X.1 h3 h0 k
      exact hK _ _ _ _ _ _ k1 _ _ _ _ ((X.sk h4).rf k2 k3)
    · obtain ⟨F1, k1, k2, k3⟩ := acm_ok g2 X.1 h3 h0 (acn_ok k)
      exact hK _ _ _ _ _ _ k1 _ _ _ _ ((X.sk h4).rf k2 k3)
  · cases h
theorem s_sws {P : Nat → aF → Bool} {Pz : Nat → Prop} {x : aI} {z : Int} (hF : aokF F rho) (hx : arel (afl F) rho x z) (hP : ∀ g F1, P g F1 = true → aokF F1 rho → afl F1 = afl F → Pz g) : ∀ {t : List Nat} {n : Int}, asws P F x t n = true → zsws Pz z t n := by
  intro t
  induction t with
  | nil => intro n h; exact trivial
  | cons g t ih =>
    intro n h
    obtain ⟨h1, h2⟩ := acond (show cond (aref F x n n (P g)) (asws P F x t (n + 1)) false = true from h)
    refine ⟨fun e => ?_, ih h2⟩
    obtain ⟨F1, k1, k2, k3⟩ := aref_ok h1 hF hx (by omega) (by omega)
    exact hP g F1 k1 k2 k3
theorem s_sw {a b c : Nat} {t : List Nat} (hK : aKs gt m st0 n0 rho0 K Kz) (X : aX gt m st0 n0 rho0 F rho L S O A Lz Sz st) (h : asw cd K a b c t L S F O A = true) : zsw cd Kz a b c t Lz Sz st := by
  unfold asw at h
  split at h
  · rename_i x S'
    obtain ⟨z, Sz', rfl, h3, h4⟩ := aRS_i X.2.2.2.1
    obtain ⟨g1, h⟩ := acond h
    obtain ⟨g2, h⟩ := acond h
    obtain ⟨g3, g4⟩ := acond h
    have hz := arg_ok X.1 h3
    refine zcond g1 ⟨fun e => ?_, fun e => ?_, s_sws (P := fun g F1 => K (rx_find cd g) L S' F1 O A) (Pz := fun g => Kz (rx_find cd g) Lz Sz' st) X.1 h3 (fun g F1 k1 k2 k3 => hK _ _ _ _ _ _ k1 _ _ _ _ ((X.sk h4).rf k2 k3)) g4⟩
    · obtain ⟨F1, k1, k2, k3⟩ := aref_ok g2 X.1 h3 hz.1 (by omega)
      exact hK _ _ _ _ _ _ k1 _ _ _ _ ((X.sk h4).rf k2 k3)
    · obtain ⟨F1, k1, k2, k3⟩ := aref_ok g3 X.1 h3 (by omega) hz.2
      exact hK _ _ _ _ _ _ k1 _ _ _ _ ((X.sk h4).rf k2 k3)
  · cases h
end ASND
