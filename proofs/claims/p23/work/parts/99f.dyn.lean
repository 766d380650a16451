/-! steps where a field that holds an object is known to hold a certain one: an obligation instead of a symbolic reference -/
noncomputable def dgf (Sh : List zC) (K : zG) (rest : List rx_E) (a b c x : Nat) (L : zL) (S : List zV) (st : zS) : Prop := match S with
  | .inr (.inr (.inl o)) :: S' => cond (Nat.ble c 1) (zat Sh o (fun s => match s with
    | .inl q => cond (Nat.beq q.1 a) (zat q.2 b (fun k => cond (Nat.beq k 4) (st o b = (x : Int) ∧ K rest L (.inr (.inr (.inl x)) :: S') st) False)) False
    | .inr _ => False)) False
  | _ => False
theorem dgf_z {Sh : List zC} {K : zG} {rest : List rx_E} {a b c x : Nat} {L : zL} {S : List zV} {st : zS} (h : dgf Sh K rest a b c x L S st) : zgf Sh K rest a b c L S st := by
  unfold dgf at h
  unfold zgf
  split at h
  · rename_i o S'
    cases c1 : Nat.ble c 1 with
    | false => rw [c1] at h; exact h.elim
    | true =>
      rw [c1] at h
      refine zat_m h (fun s h => ?_)
      cases s with
      | inl q =>
        change cond (Nat.beq q.1 a) (zat q.2 b (fun k => cond (Nat.beq k 4) (st o b = (x : Int) ∧ K rest L (.inr (.inr (.inl x)) :: S') st) False)) False at h
        show cond (Nat.beq q.1 a) (zat q.2 b (fun k => K rest L (zK k (st o b) :: S') st)) False
        cases c2 : Nat.beq q.1 a with
        | false => rw [c2] at h; exact h.elim
        | true =>
          rw [c2] at h
          refine zat_m h (fun k h => ?_)
          cases c3 : Nat.beq k 4 with
          | false => rw [c3] at h; exact h.elim
          | true =>
            rw [c3] at h
            have e : k = 4 := Nat.eq_of_beq_eq_true c3
            subst e
            obtain ⟨h1, h2⟩ := h
            show K rest L (zK 4 (st o b) :: S') st
            rw [h1]
            exact h2
      | inr _ => exact h.elim
  · exact h.elim
noncomputable def dlk (l : List (Nat × Nat)) (n : Nat) : Option Nat := List.rec none (fun q _ ih => cond (Nat.beq q.1 n) (some q.2) ih) l
noncomputable def dstep (oc : List (Nat × Nat)) (wp : List Nat) (Sh : List zC) (cd : List rx_E) (nL q : Nat) (call : zCall) (Rt : zQ) (K : zG) (e : rx_E) (rest : List rx_E) (L : zL) (S : List zV) (st : zS) : Prop := match dlk oc e.1 with
  | some x => (match e.2.1 with
    | .getfield _ => dgf Sh K rest e.2.2.2.1 e.2.2.2.2.1 e.2.2.2.2.2.1 x L S st
    | _ => False)
  | none => ystep wp Sh cd nL q call Rt K e rest L S st
theorem d_z {oc : List (Nat × Nat)} {wp : List Nat} {Sh : List zC} {cd rest : List rx_E} {nL q : Nat} {call : zCall} {Rt : zQ} {K : zG} {e : rx_E} {L : zL} {S : List zV} {st : zS} (h : dstep oc wp Sh cd nL q call Rt K e rest L S st) : zstep Sh cd nL q call Rt K e rest L S st := by
  unfold dstep at h
  cases c : dlk oc e.1 with
  | none => rw [c] at h; exact y_z h
  | some x =>
    rw [c] at h
    obtain ⟨pc, i, len, a, b, k, t⟩ := e
    cases i with
    | getfield z => exact dgf_z h
    | _ => exact h.elim
noncomputable def drs (oc : List (Nat × Nat)) (wp : List Nat) (Sh : List zC) (cd : List rx_E) (nL q : Nat) (wc : zCall) (Rt : zQ) (K : zG) (stp : List Nat) (n : Nat) : zG := Nat.rec K (fun _ ih cs L S st => match cs with
  | [] => False
  | e :: rest => cond (amem e.1 stp) (K cs L S st) (dstep oc wp Sh cd nL q wc Rt ih e rest L S st)) n
noncomputable def dr1 (oc : List (Nat × Nat)) (wp : List Nat) (Sh : List zC) (cd : List rx_E) (nL q : Nat) (wc : zCall) (Rt : zQ) (K : zG) (stp : List Nat) (n : Nat) (cs : List rx_E) (L : zL) (S : List zV) (st : zS) : Prop := match cs with
  | [] => False
  | e :: rest => dstep oc wp Sh cd nL q wc Rt (drs oc wp Sh cd nL q wc Rt K stp n) e rest L S st
section DRS
variable {Sh : List zC} {cd : List rx_E} {nL q : Nat} {call wc : zCall} {Rt : zQ} {K : zG} {stp : List Nat}
theorem drs_ok (hcm : zmo wc call) (hcl : zcl Sh cd nL q call Rt K) (oc : List (Nat × Nat)) (wp : List Nat) : ∀ (n : Nat) (cs : List rx_E) (L : zL) (S : List zV) (st : zS), drs oc wp Sh cd nL q wc Rt K stp n cs L S st → K cs L S st := by
  intro n
  induction n with
  | zero => intro cs L S st h; exact h
  | succ n ih =>
    intro cs L S st h
    cases cs with
    | nil => exact absurd h id
    | cons e rest =>
      change cond (amem e.1 stp) (K (e :: rest) L S st) (dstep oc wp Sh cd nL q wc Rt (drs oc wp Sh cd nL q wc Rt K stp n) e rest L S st) at h
      cases c : amem e.1 stp with
      | true => rw [c] at h; exact h
      | false => rw [c] at h; exact hcl e rest L S st (zstep_m hcm (fun cs L S st h => ih cs L S st h) (d_z h))
theorem dr1_ok (hcm : zmo wc call) (hcl : zcl Sh cd nL q call Rt K) (oc : List (Nat × Nat)) (wp : List Nat) (n : Nat) {cs : List rx_E} {L : zL} {S : List zV} {st : zS} (h : dr1 oc wp Sh cd nL q wc Rt K stp n cs L S st) : K cs L S st := by
  cases cs with
  | nil => exact absurd h id
  | cons e rest => exact hcl e rest L S st (zstep_m hcm (fun cs L S st h => drs_ok hcm hcl oc wp n cs L S st h) (d_z h))
end DRS
