/-! a summary holds when the interval executor has gone through its segments -/
def atc (t : aT) : Nat := match t with
  | .inr (.inl _) => 2
  | _ => 1
noncomputable def alsp (ts : List aT) : Nat → List (Nat × aT) := List.rec (fun _ => []) (fun t _ ih i => (i, t) :: ih (i + atc t)) ts
noncomputable def atcs (ts : List aT) : Nat := List.rec 0 (fun t _ ih => Nat.add (atc t) ih) ts
noncomputable def aix (ts : List aT) : Nat → Nat → Nat := List.rec (fun _ i => i) (fun t _ ih o i => Nat.rec i (fun o' _ => ih o' (i + atc t)) o) ts
noncomputable def aolx (s : aS) : Option Nat := cond (Nat.beq s.2.2.2.2.1 0) none (some (aix s.1 s.2.2.2.2.2 0))
noncomputable def anp (s : aS) : Bool := cond (Nat.beq s.2.2.2.2.1 0) (Nat.blt 0 s.2.2.2.1) (aat s.1 s.2.2.2.2.2 (fun t => match t with
  | .inl b => ile 1 ((s.2.2.2.1 : Int) - (s.2.2.2.2.1 : Int) * b.2)
  | _ => false))
noncomputable def ains (Sh : List zC) (gt : aG) (it : aIt) (tb : rx_T) (n nu : Nat) (s : aS) (sgs : List aSg) : Bool := aat tb nu (fun x => (apin x.1 && (Nat.ble (atcs s.1) x.2.1 && anp s)) && (aen Sh gt it tb n x.1 x.2.1 x.2.2.2.2 s (alsp s.1 0) (aolx s) sgs && aall (fun sg => asg Sh gt it tb n x.1 x.2.1 x.2.2.2.2 s (aolx s) sgs sg) sgs))
theorem aTz_cat {t : aT} {u : zV} (h : aTz t u) : zcat u = atc t := by
  rcases t with b | (b | c) <;> rcases u with z | (z | (o | j)) <;> first | rfl | exact absurd h id
theorem aTs_cats : ∀ {ts : List aT} {us : List zV}, aTs ts us → zcats us = atcs ts
  | [], [], _ => rfl
  | t :: ts, u :: us, h => by
    show Nat.add (zcat u) (zcats us) = Nat.add (atc t) (atcs ts)
    rw [aTz_cat h.1, aTs_cats h.2]
  | [], _ :: _, h => absurd h id
  | _ :: _, [], h => absurd h id
theorem atc_pos (t : aT) : 0 < atc t := by
  rcases t with b | (b | c)
  · show 0 < 1; decide
  · show 0 < 2; decide
  · show 0 < 1; decide
theorem alsp_ge : ∀ {ts : List aT} {i : Nat}, ∀ q ∈ alsp ts i, i ≤ q.1 := by
  intro ts
  induction ts with
  | nil => intro i q hq; cases hq
  | cons t ts ih =>
    intro i q hq
    rcases List.mem_cons.mp (show q ∈ (i, t) :: alsp ts (i + atc t) from hq) with e | e
    · rw [e]; exact Nat.le_refl _
    · exact Nat.le_trans (Nat.le_add_right _ _) (ih q e)
theorem zargs_lk : ∀ {ts : List aT} {us : List zV} {i : Nat}, aTs ts us → ∀ q ∈ alsp ts i, ∃ u, zlk (zargs us i) q.1 = some u ∧ aTz q.2 u := by
  intro ts
  induction ts with
  | nil => intro us i _ q hq; cases hq
  | cons t ts ih =>
    intro us i h q hq
    cases us with
    | nil => exact absurd h id
    | cons u us =>
      show ∃ x, (if i = q.1 then some u else zlk (zargs us (i + zcat u)) q.1) = some x ∧ aTz q.2 x
      rcases List.mem_cons.mp (show q ∈ (i, t) :: alsp ts (i + atc t) from hq) with e | e
      · rw [e, if_pos rfl]
        exact ⟨u, rfl, h.1⟩
      · have h1 := alsp_ge q e
        have h2 := atc_pos t
        rw [if_neg (by omega), aTz_cat h.1]
        exact ih h.2 q e
theorem aix_ge : ∀ {ts : List aT} {o i : Nat}, i ≤ aix ts o i := by
  intro ts
  induction ts with
  | nil => intro o i; exact Nat.le_refl _
  | cons t ts ih =>
    intro o i
    cases o with
    | zero => exact Nat.le_refl _
    | succ o => exact Nat.le_trans (Nat.le_add_right _ _) (ih (o := o) (i := i + atc t))
theorem aix_lk : ∀ {ts : List aT} {us : List zV} {o i : Nat} {u : zV}, aTs ts us → us[o]? = some u → zlk (zargs us i) (aix ts o i) = some u := by
  intro ts
  induction ts with
  | nil =>
    intro us o i u h hu
    cases us with
    | nil => simp at hu
    | cons x t => exact absurd h id
  | cons t ts ih =>
    intro us o i u h hu
    cases us with
    | nil => exact absurd h id
    | cons x us =>
      cases o with
      | zero =>
        simp at hu
        show (if i = i then some x else _) = some u
        rw [if_pos rfl, hu]
      | succ o =>
        have h1 := aix_ge (ts := ts) (o := o) (i := i + atc t)
        have h2 := atc_pos t
        show (if i = aix ts o (i + atc t) then some x else zlk (zargs us (i + zcat x)) (aix ts o (i + atc t))) = some u
        rw [if_neg (by omega), aTz_cat h.1]
        exact ih h.2 (by simpa using hu)
theorem aTs_at : ∀ {ts : List aT} {us : List zV} {o : Nat} {u : zV} {t : aT}, aTs ts us → us[o]? = some u → ts[o]? = some t → aTz t u := by
  intro ts
  induction ts with
  | nil => intro us o u t h hu ht; simp at ht
  | cons a ts ih =>
    intro us o u t h hu ht
    cases us with
    | nil => exact absurd h id
    | cons x us =>
      cases o with
      | zero =>
        simp at hu ht
        rw [← hu, ← ht]
        exact h.1
      | succ o => exact ih h.2 (by simpa using hu) (by simpa using ht)
section AALL
variable {Sh : List zC} {gt : aG} {it : aIt} {tb : rx_T} {cl : Nat → zCall}
theorem ains_ok (hTb : aTb Sh tb cl) {n nu : Nat} {s : aS} {sgs : List aSg} (h : ains Sh gt it tb n nu s sgs = true) : ∀ D : Nat, (∀ d', d' < D → ∀ nu x s, it[nu]? = some x → s ∈ x.2 → aSp gt cl d' nu s) → aSp gt cl D nu s := by
  intro D hI asz st0 hm hG hnd Q hQ
  obtain ⟨x, h1, h2⟩ := aat_ok h
  obtain ⟨h2, h3⟩ := rx_an h2
  obtain ⟨hpi, h2⟩ := rx_an h2
  obtain ⟨h4, h5⟩ := rx_an h2
  obtain ⟨h6, h7⟩ := rx_an h3
  have h7 := aall_ok h7
  -- the argument that the frames hang on
  have hzo : ∃ zo : Int, (aolx s = none → zo = 0) ∧ volk (aolx s) (zargs asz 0) zo ∧ (s.2.2.2.1 : Int) - (s.2.2.2.2.1 : Int) * zo ≤ (D : Int) ∧ 1 ≤ (s.2.2.2.1 : Int) - (s.2.2.2.2.1 : Int) * zo := by
    unfold aolx
    unfold anp at h5
    cases c : Nat.beq s.2.2.2.2.1 0 with
    | true =>
      rw [c] at h5
      have c := rx_bq c
      have h5 := rx_bt h5
      have h8 := hnd.1 c
      refine ⟨0, fun _ => rfl, rfl, ?_, ?_⟩
      · rw [Int.mul_zero]; omega
      · rw [Int.mul_zero]; omega
    | false =>
      rw [c] at h5
      have c2 : ¬ s.2.2.2.2.1 = 0 := by
        intro q
        rw [q] at c
        cases c
      obtain ⟨z, h8, h9⟩ := hnd.2 c2
      obtain ⟨t, g1, g2⟩ := aat_ok (show aat s.1 s.2.2.2.2.2 _ = true from h5)
      have g3 := aTs_at hm h8 g1
      rcases t with b | (b | k)
      · have g2 := ile_ok (show ile 1 ((s.2.2.2.1 : Int) - (s.2.2.2.2.1 : Int) * b.2) = true from g2)
        have g3 : b.1 ≤ z ∧ z ≤ b.2 := g3
        have g4 : (s.2.2.2.2.1 : Int) * z ≤ (s.2.2.2.2.1 : Int) * b.2 := Int.mul_le_mul_of_nonneg_left g3.2 (Int.natCast_nonneg _)
        exact ⟨z, fun q => (by cases q), aix_lk hm h8, h9, by omega⟩
      · cases g2
      · cases g2
  obtain ⟨zo, hz, hvk, hn, hp⟩ := hzo
  obtain ⟨d, rfl⟩ : ∃ d, D = d + 1 := ⟨D - 1, by omega⟩
  have hn : (s.2.2.2.1 : Int) - (s.2.2.2.2.1 : Int) * zo ≤ (d : Int) + 1 := by omega
  have hI' : ∀ d', d' ≤ d → ∀ nu x s, it[nu]? = some x → s ∈ x.2 → aSp gt cl d' nu s := fun d' hd => hI d' (by omega)
  refine hTb d nu x h1 asz st0 Q (by rw [aTs_cats hm]; exact rx_bl h4) (fun Kz hcl hsf _ => ?_)
  have hseg := aseg_all (st0 := st0) hTb (s := s) rfl hz hn hI' hcl hsf hpi hQ h7
  unfold aen at h6
  obtain ⟨L, F, rho, k1, k2, k3, k4⟩ := asl_ok (Lz := zargs asz 0) h6 (rho := fun _ => 0) (fun k hk => absurd hk (Nat.not_lt_zero k)) (zargs_lk hm)
  obtain ⟨vo, g5, g6⟩ := avo_ok k1 k4 hvk
  have hT0 : aRT gt (afl F) rho [] [] st0 := ⟨fun c i v hv => (by cases hv), fun c b hb => (by cases hb), fun c i _ _ => hG c i⟩
  have hJ : aJs gt s.2.1 st0 (afl F) rho x.1 (sgs.map (fun x => x.1)) (ajc gt sgs (aolx s) vo none) Kz := by
    intro pc L' F' O' A' hpc hj rho' Lz' st' X'
    obtain ⟨sg', vs', e1, e2, e3, -⟩ := ajc_ok hj g6 hz X'
    rw [← e2]
    exact hseg _ sg' Lz' st' vs' e1 e3 rfl
  exact ar_ok hTb (Int.natCast_nonneg _) hn hI' (n + 1) 0 d x.1 x.2.1 x.2.2.2.2 (sgs.map (fun x => x.1)) _ _ Kz Q (afl F) rho rfl g6 hcl hsf (Or.inr hpi) (akc_ok hQ) hJ x.1 L [] F [] [] g5 rho (zargs asz 0) [] st0 ⟨k2, aext.rf _ _, k4, trivial, hT0, fun c i _ _ => rfl⟩
/-- all summaries at once: by the executor, or by hand over those of smaller depth -/
theorem a_all (hall : ∀ nu x s, it[nu]? = some x → s ∈ x.2 → ∀ D : Nat, (∀ d', d' < D → ∀ nu x s, it[nu]? = some x → s ∈ x.2 → aSp gt cl d' nu s) → aSp gt cl D nu s) : ∀ D nu x s, it[nu]? = some x → s ∈ x.2 → aSp gt cl D nu s := by
  intro D
  induction D using Nat.strongRecOn with
  | _ D ih => exact fun nu x s h1 h2 => hall nu x s h1 h2 D ih
end AALL
