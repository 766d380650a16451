/-! steps with the numbers' bounds as obligations instead of wrapping -/
def y2 (f : Int → Int → Int) (K : zG) (rest : List rx_E) (L : zL) (S : List zV) (st : zS) : Prop := match S with
  | .inl y :: .inl x :: S' => zsI (f x y) ∧ K rest L (.inl (f x y) :: S') st
  | _ => False
def y2l (f : Int → Int → Int) (K : zG) (rest : List rx_E) (L : zL) (S : List zV) (st : zS) : Prop := match S with
  | .inr (.inl y) :: .inr (.inl x) :: S' => zsL (f x y) ∧ K rest L (.inr (.inl (f x y)) :: S') st
  | _ => False
noncomputable def yinc (nL : Nat) (K : zG) (rest : List rx_E) (a b : Nat) (L : zL) (S : List zV) (st : zS) : Prop := zget L a (fun v => match v with
  | .inl x => cond (Nat.blt a nL && Nat.blt b 4294967296) (zsI (x + zd b) ∧ K rest ((a, .inl (x + zd b)) :: zfil (zP1 a) L) S st) False
  | _ => False)
def yl2i (K : zG) (rest : List rx_E) (L : zL) (S : List zV) (st : zS) : Prop := match S with
  | .inr (.inl x) :: S' => zsI x ∧ K rest L (.inl x :: S') st
  | _ => False
def y2d (f : Int → Int → Int) (K : zG) (rest : List rx_E) (L : zL) (S : List zV) (st : zS) : Prop := match S with
  | .inl y :: .inl x :: S' => (0 ≤ x ∧ x ≤ 2147483647 ∧ 0 < y) ∧ K rest L (.inl (f x y) :: S') st
  | _ => False
theorem yrem_z {K : zG} {rest : List rx_E} {L : zL} {S : List zV} {st : zS} (h : y2d (fun x y => x % y) K rest L S st) : z2n (fun x y => zw (Int.tmod x y)) K rest L S st := by
  unfold y2d at h
  unfold z2n
  split at h
  · rename_i y x S'
    obtain ⟨⟨h1, h2, h3⟩, h4⟩ := h
    refine ⟨by omega, ?_⟩
    show K rest L (.inl (zw (Int.tmod x y)) :: S') st
    rw [Int.tmod_eq_emod_of_nonneg h1]
    have q1 := Int.emod_nonneg x (show y ≠ 0 by omega)
    have q2 : x % y ≤ x := by
      have e := Int.emod_def x y
      have q := (zdiv_rng (x := x) (d := y) (a := 0) (b := x) h3 (by omega) h1 h1 (by omega)).1
      have q3 := Int.mul_nonneg (show (0 : Int) ≤ y by omega) q
      omega
    rw [zw_id ⟨by omega, by omega⟩]
    exact h4
  · exact h.elim
theorem ydiv_z {K : zG} {rest : List rx_E} {L : zL} {S : List zV} {st : zS} (h : y2d (fun x y => x / y) K rest L S st) : z2n (fun x y => zw (Int.tdiv x y)) K rest L S st := by
  unfold y2d at h
  unfold z2n
  split at h
  · rename_i y x S'
    obtain ⟨⟨h1, h2, h3⟩, h4⟩ := h
    refine ⟨by omega, ?_⟩
    show K rest L (.inl (zw (Int.tdiv x y)) :: S') st
    rw [Int.tdiv_eq_ediv_of_nonneg h1]
    have q := zdiv_rng (x := x) (d := y) (a := 0) (b := x) h3 (by omega) h1 h1 (by omega)
    rw [zw_id ⟨by omega, by omega⟩]
    exact h4
  · exact h.elim
def ylcm (K : zG) (rest : List rx_E) (L : zL) (S : List zV) (st : zS) : Prop := match S with
  | .inr (.inl y) :: .inr (.inl x) :: S' => ∀ c : Int, (x < y ∧ c = -1 ∨ x = y ∧ c = 0 ∨ y < x ∧ c = 1) → K rest L (.inl c :: S') st
  | _ => False
theorem ylcm_z {K : zG} {rest : List rx_E} {L : zL} {S : List zV} {st : zS} (h : ylcm K rest L S st) : zlcm K rest L S st := by
  unfold ylcm at h
  unfold zlcm
  split at h
  · exact ⟨fun c => h _ (Or.inl ⟨c, rfl⟩), fun c => h _ (Or.inr (Or.inl ⟨c, rfl⟩)), fun c => h _ (Or.inr (Or.inr ⟨c, rfl⟩))⟩
  · exact h.elim
theorem y2_z {f : Int → Int → Int} {K : zG} {rest : List rx_E} {L : zL} {S : List zV} {st : zS} (h : y2 f K rest L S st) : z2 (fun x y => zw (f x y)) K rest L S st := by
  unfold y2 at h
  unfold z2
  split at h
  · rename_i y x S'
    show K rest L (.inl (zw (f x y)) :: S') st
    rw [zw_id h.1]; exact h.2
  · exact h.elim
theorem y2l_z {f : Int → Int → Int} {K : zG} {rest : List rx_E} {L : zL} {S : List zV} {st : zS} (h : y2l f K rest L S st) : z2l (fun x y => zx (f x y)) K rest L S st := by
  unfold y2l at h
  unfold z2l
  split at h
  · rename_i y x S'
    show K rest L (.inr (.inl (zx (f x y))) :: S') st
    rw [zx_id h.1]; exact h.2
  · exact h.elim
theorem yinc_z {nL : Nat} {K : zG} {rest : List rx_E} {a b : Nat} {L : zL} {S : List zV} {st : zS} (h : yinc nL K rest a b L S st) : zinc nL K rest a b L S st := by
  refine zget_m h (fun v h => ?_)
  rcases v with x | (x | x)
  · change cond (Nat.blt a nL && Nat.blt b 4294967296) _ False at h
    show cond (Nat.blt a nL && Nat.blt b 4294967296) _ False
    cases c : (Nat.blt a nL && Nat.blt b 4294967296) with
    | true => rw [c] at h; rw [zw_id h.1]; exact h.2
    | false => rw [c] at h; exact h
  · exact h
  · exact h
theorem yl2i_z {K : zG} {rest : List rx_E} {L : zL} {S : List zV} {st : zS} (h : yl2i K rest L S st) : zl2i K rest L S st := by
  unfold yl2i at h
  unfold zl2i
  split at h
  · rename_i x S'
    show K rest L (.inl (zw x) :: S') st
    rw [zw_id h.1]; exact h.2
  · exact h.elim
noncomputable def ystep (wp : List Nat) (Sh : List zC) (cd : List rx_E) (nL q : Nat) (call : zCall) (Rt : zQ) (K : zG) (e : rx_E) (rest : List rx_E) (L : zL) (S : List zV) (st : zS) : Prop := cond (amem e.1 wp) (zstep Sh cd nL q call Rt K e rest L S st) (match e.2.1 with
  | .iadd => y2 (fun x y => x + y) K rest L S st
  | .isub => y2 (fun x y => x - y) K rest L S st
  | .imul => y2 (fun x y => x * y) K rest L S st
  | .ladd => y2l (fun x y => x + y) K rest L S st
  | .lsub => y2l (fun x y => x - y) K rest L S st
  | .lmul => y2l (fun x y => x * y) K rest L S st
  | .iinc _ _ => yinc nL K rest e.2.2.2.1 e.2.2.2.2.1 L S st
  | .l2i => yl2i K rest L S st
  | .lcmp => ylcm K rest L S st
  | .irem => y2d (fun x y => x % y) K rest L S st
  | .idiv => y2d (fun x y => x / y) K rest L S st
  | _ => zstep Sh cd nL q call Rt K e rest L S st)
theorem y_z {wp : List Nat} {Sh : List zC} {cd rest : List rx_E} {nL q : Nat} {call : zCall} {Rt : zQ} {K : zG} {e : rx_E} {L : zL} {S : List zV} {st : zS} (h : ystep wp Sh cd nL q call Rt K e rest L S st) : zstep Sh cd nL q call Rt K e rest L S st := by
  unfold ystep at h
  cases c : amem e.1 wp with
  | true => rw [c] at h; exact h
  | false =>
    rw [c] at h
    obtain ⟨pc, i, len, a, b, k, t⟩ := e
    cases i with
    | iadd => exact y2_z h
    | isub => exact y2_z h
    | imul => exact y2_z h
    | ladd => exact y2l_z h
    | lsub => exact y2l_z h
    | lmul => exact y2l_z h
    | iinc z z2 => exact yinc_z h
    | l2i => exact yl2i_z h
    | lcmp => exact ylcm_z h
    | irem => exact yrem_z h
    | idiv => exact ydiv_z h
    | _ => exact h
noncomputable def yrs (wp : List Nat) (Sh : List zC) (cd : List rx_E) (nL q : Nat) (wc : zCall) (Rt : zQ) (K : zG) (stp : List Nat) (n : Nat) : zG := Nat.rec K (fun _ ih cs L S st => match cs with
  | [] => False
  | e :: rest => cond (amem e.1 stp) (K cs L S st) (ystep wp Sh cd nL q wc Rt ih e rest L S st)) n
noncomputable def yr1 (wp : List Nat) (Sh : List zC) (cd : List rx_E) (nL q : Nat) (wc : zCall) (Rt : zQ) (K : zG) (stp : List Nat) (n : Nat) (cs : List rx_E) (L : zL) (S : List zV) (st : zS) : Prop := match cs with
  | [] => False
  | e :: rest => ystep wp Sh cd nL q wc Rt (yrs wp Sh cd nL q wc Rt K stp n) e rest L S st
section YRS
variable {wp : List Nat} {Sh : List zC} {cd : List rx_E} {nL q : Nat} {call wc : zCall} {Rt : zQ} {K : zG} {stp : List Nat}
theorem yrs_ok (hcm : zmo wc call) (hcl : zcl Sh cd nL q call Rt K) : ∀ (n : Nat) (cs : List rx_E) (L : zL) (S : List zV) (st : zS), yrs wp Sh cd nL q wc Rt K stp n cs L S st → K cs L S st := by
  intro n
  induction n with
  | zero => intro cs L S st h; exact h
  | succ n ih =>
    intro cs L S st h
    cases cs with
    | nil => exact absurd h id
    | cons e rest =>
      change cond (amem e.1 stp) (K (e :: rest) L S st) (ystep wp Sh cd nL q wc Rt (yrs wp Sh cd nL q wc Rt K stp n) e rest L S st) at h
      cases c : amem e.1 stp with
      | true => rw [c] at h; exact h
      | false => rw [c] at h; exact hcl e rest L S st (zstep_m hcm (fun cs L S st h => ih cs L S st h) (y_z h))
theorem yr1_ok (hcm : zmo wc call) (hcl : zcl Sh cd nL q call Rt K) (wp : List Nat) (n : Nat) {cs : List rx_E} {L : zL} {S : List zV} {st : zS} (h : yr1 wp Sh cd nL q wc Rt K stp n cs L S st) : K cs L S st := by
  cases cs with
  | nil => exact absurd h id
  | cons e rest => exact hcl e rest L S st (zstep_m hcm (fun cs L S st h => yrs_ok hcm hcl n cs L S st h) (y_z h))
end YRS
/-- frames compose -/
theorem fr_rf (m : aM) (st : zS) : aFr m st st := fun _ _ _ _ => rfl
theorem fr_tr {m m' : aM} {st s1 s2 : zS} (h : aFr m st s1) (h' : aFr m' s1 s2) (hs : asub m' m = true) : aFr m st s2 := by
  intro c i h1 h2
  have e1 : amf m' c i = false := by
    cases e : amf m' c i with
    | false => rfl
    | true =>
      have h3 : aall (fun q => amf m q.1 q.2) m'.1 = true := (rx_an hs).1
      have h4 : ∀ l : List (Nat × Nat), (c, i) ∈ l → aall (fun q => amf m q.1 q.2) l = true → amf m c i = true := by
        intro l
        induction l with
        | nil => intro q _; cases q
        | cons a t ih =>
          intro q k
          change cond (amf m a.1 a.2) (aall (fun q => amf m q.1 q.2) t) false = true at k
          obtain ⟨k1, k2⟩ := acond k
          rcases List.mem_cons.mp q with q | q
          · rw [← q] at k1; exact k1
          · exact ih q k2
      rw [h4 _ (amf_ok.mp e) h3] at h1
      cases h1
  have e2 : ama m' c = false := by
    cases e : ama m' c with
    | false => rfl
    | true =>
      have h3 : aall (fun q => ama m q) m'.2 = true := (rx_an hs).2
      have h4 : ∀ l : List Nat, c ∈ l → aall (fun q => ama m q) l = true → ama m c = true := by
        intro l
        induction l with
        | nil => intro q _; cases q
        | cons a t ih =>
          intro q k
          change cond (ama m a) (aall (fun q => ama m q) t) false = true at k
          obtain ⟨k1, k2⟩ := acond k
          rcases List.mem_cons.mp q with q | q
          · rw [← q] at k1; exact k1
          · exact ih q k2
      rw [h4 _ (ama_ok.mp e) h3] at h2
      cases h2
  rw [h' c i e1 e2]
  exact h c i h1 h2
theorem fr_f {m : aM} {st s : zS} {o b : Nat} {z : Int} (h : aFr m st s) (hm : amf m o b = true) : aFr m st (zup s o b z) := aFr_put h hm z
theorem fr_a {m : aM} {st s : zS} {o b : Nat} {z : Int} (h : aFr m st s) (hm : ama m o = true) : aFr m st (zup s o b z) := aFr_arr h hm (fun _ _ hc => zup_nc _ _ hc)
/-- no cell of the deep invariant is written -/
noncomputable def jfree (m : aM) : Bool := aall (fun q => !jcell q.1 q.2) m.1 && aall (fun c => !(Nat.beq c 170 || jcell c 0)) m.2
theorem jcell_arr {c i : Nat} (h : ¬ c = 170) : jcell c i = jcell c 0 := by
  unfold jcell
  have : Nat.beq c 170 = false := (rx_bnf c 170).mpr h
  rw [this]
  rfl
theorem aall_o2 {α : Type} {P : α → Bool} : ∀ {l : List α}, aall P l = true → ∀ q ∈ l, P q = true := by
  intro l
  induction l with
  | nil => intro _ q h; cases h
  | cons a t ih =>
    intro h q hq
    change cond (P a) (aall P t) false = true at h
    obtain ⟨k1, k2⟩ := acond h
    rcases List.mem_cons.mp hq with e | e
    · rw [e]; exact k1
    · exact ih k2 q e
theorem jfr {m : aM} {st s : zS} (hm : jfree m = true) (h : aFr m st s) : ∀ c i, jcell c i = true → s c i = st c i := by
  intro c i hj
  obtain ⟨h1, h2⟩ := rx_an hm
  refine h c i ?_ ?_
  · cases e : amf m c i with
    | false => rfl
    | true =>
      have := aall_o2 h1 _ (amf_ok.mp e)
      change (!jcell c i) = true at this
      rw [hj] at this
      cases this
  · cases e : ama m c with
    | false => rfl
    | true =>
      have := aall_o2 h2 _ (ama_ok.mp e)
      change (!(Nat.beq c 170 || jcell c 0)) = true at this
      by_cases e2 : c = 170
      · rw [e2] at this; cases this
      · rw [jcell_arr e2] at hj
        rw [hj] at this
        cases c2 : Nat.beq c 170 with
        | true => rw [c2] at this; cases this
        | false => rw [c2] at this; cases this
theorem zJ_fr {m : aM} {st s : zS} (hm : jfree m = true) (h : aFr m st s) (hJ : zJ st) : zJ s := zJ_of (jfr hm h) hJ
