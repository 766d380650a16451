/-! small methods run in place: contracts with inlining -/
theorem zw_idd {z : Int} (h1 : -2147483648 ≤ z) (h2 : z ≤ 2147483647) : zw z = z := zw_id ⟨h1, h2⟩
theorem zx_idd {z : Int} (h1 : -9223372036854775808 ≤ z) (h2 : z ≤ 9223372036854775807) : zx z = z := zx_id ⟨h1, h2⟩
theorem zstep_mR {Sh : List zC} {cd rest : List rx_E} {nL q : Nat} {call : zCall} {Rt Rt' : zQ} {K : zG} {e : rx_E} {L : zL} {S : List zV} {st : zS} (hR : ∀ r st', Rt r st' → Rt' r st') (h : zstep Sh cd nL q call Rt K e rest L S st) : zstep Sh cd nL q call Rt' K e rest L S st := by
  obtain ⟨pc, i, len, a, b, k, t⟩ := e
  cases i with
  | return_ =>
    change zret q Rt S st at h
    show zret q Rt' S st
    unfold zret at h ⊢
    cases c : Nat.beq q 0 with
    | false => rw [c] at h; exact h
    | true =>
      rw [c] at h
      cases S with
      | nil => exact hR _ _ h
      | cons v t => exact h
  | ireturn =>
    change zreti q Rt S st at h
    show zreti q Rt' S st
    unfold zreti at h ⊢
    split at h
    · rename_i z
      cases c : Nat.beq q 1 with
      | true => rw [c] at h; exact hR _ _ h
      | false =>
        rw [c] at h
        change cond (Nat.beq q 2) _ False at h
        show cond (Nat.beq q 2) _ False
        cases c2 : Nat.beq q 2 with
        | true => rw [c2] at h; exact ⟨h.1, hR _ _ h.2⟩
        | false => rw [c2] at h; exact h
    · exact h.elim
  | lreturn =>
    change zretl q Rt S st at h
    show zretl q Rt' S st
    unfold zretl at h ⊢
    split at h
    · rename_i z
      cases c : Nat.beq q 5 with
      | true => rw [c] at h; exact hR _ _ h
      | false => rw [c] at h; exact h
    · exact h.elim
  | _ => exact h
theorem zrs_mR {Sh : List zC} {cd : List rx_E} {nL q : Nat} {wc : zCall} {Rt Rt' : zQ} {K K' : zG} {stp : List Nat} (hw : ∀ nu as st (Q Q' : zQ), (∀ r st', Q r st' → Q' r st') → wc nu as st Q → wc nu as st Q') (hR : ∀ r st', Rt r st' → Rt' r st') (hK : ∀ cs L S st, K cs L S st → K' cs L S st) : ∀ (n : Nat) (cs : List rx_E) (L : zL) (S : List zV) (st : zS), zrs Sh cd nL q wc Rt K stp n cs L S st → zrs Sh cd nL q wc Rt' K' stp n cs L S st := by
  intro n
  induction n with
  | zero => intro cs L S st h; exact hK _ _ _ _ h
  | succ n ih =>
    intro cs L S st h
    cases cs with
    | nil => exact absurd h id
    | cons e rest =>
      change cond (amem e.1 stp) (K (e :: rest) L S st) (zstep Sh cd nL q wc Rt (zrs Sh cd nL q wc Rt K stp n) e rest L S st) at h
      show cond (amem e.1 stp) (K' (e :: rest) L S st) (zstep Sh cd nL q wc Rt' (zrs Sh cd nL q wc Rt' K' stp n) e rest L S st)
      cases c : amem e.1 stp with
      | true => rw [c] at h; exact hK _ _ _ _ h
      | false => rw [c] at h; exact zstep_mR hR (zstep_m hw (fun cs L S st h => ih cs L S st h) h)
theorem zr1_mR {Sh : List zC} {cd : List rx_E} {nL q : Nat} {wc : zCall} {Rt Rt' : zQ} {K K' : zG} {stp : List Nat} (hw : ∀ nu as st (Q Q' : zQ), (∀ r st', Q r st' → Q' r st') → wc nu as st Q → wc nu as st Q') (hR : ∀ r st', Rt r st' → Rt' r st') (hK : ∀ cs L S st, K cs L S st → K' cs L S st) {n : Nat} {cs : List rx_E} {L : zL} {S : List zV} {st : zS} (h : zr1 Sh cd nL q wc Rt K stp n cs L S st) : zr1 Sh cd nL q wc Rt' K' stp n cs L S st := by
  cases cs with
  | nil => exact absurd h id
  | cons e rest => exact zstep_mR hR (zstep_m hw (fun cs L S st h => zrs_mR hw hR hK n cs L S st h) h)
def zKf : zG := fun _ _ _ _ => False
noncomputable def winl (Sh : List zC) (tb : rx_T) (inl : List Nat) (wc : zCall) (n : Nat) : zCall := Nat.rec wc (fun _ ih nu as st Q => cond (amem nu inl) (zat tb nu (fun x => cond (Nat.ble (zcats as) x.2.1) (zr1 Sh x.1 x.2.1 x.2.2.2.2 ih Q zKf [] 300 x.1 (zargs as 0) [] st) False)) (wc nu as st Q)) n
def zmon (wc : zCall) : Prop := ∀ nu as st (Q Q' : zQ), (∀ r st', Q r st' → Q' r st') → wc nu as st Q → wc nu as st Q'
def zmo (wc call : zCall) : Prop := ∀ nu as st (Q Q' : zQ), (∀ r st', Q r st' → Q' r st') → wc nu as st Q → call nu as st Q'
theorem zno_mon : zmon zno := fun _ _ _ _ _ _ h => h.elim
theorem winl_mon {Sh : List zC} {tb : rx_T} {inl : List Nat} {wc : zCall} (hw : zmon wc) : ∀ n, zmon (winl Sh tb inl wc n) := by
  intro n
  induction n with
  | zero => exact hw
  | succ n ih =>
    intro nu as st Q Q' hQ h
    change cond (amem nu inl) _ (wc nu as st Q) at h
    show cond (amem nu inl) _ (wc nu as st Q')
    cases c : amem nu inl with
    | false => rw [c] at h; exact hw _ _ _ _ _ hQ h
    | true =>
      rw [c] at h
      refine zat_m h (fun x h => ?_)
      change cond (Nat.ble (zcats as) x.2.1) _ False at h
      show cond (Nat.ble (zcats as) x.2.1) _ False
      cases c2 : Nat.ble (zcats as) x.2.1 with
      | false => rw [c2] at h; exact h.elim
      | true => rw [c2] at h; exact zr1_mR ih hQ (fun _ _ _ _ h => h) h
theorem winl_m {Sh : List zC} {tb : rx_T} {inl : List Nat} {wc : zCall} {cl : Nat → zCall} (hTb : aTb Sh tb cl) (hw : zmon wc) {d0 : Nat} (hm : ∀ d, d0 ≤ d → zmo wc (cl d)) : ∀ n d, d0 + n ≤ d → zmo (winl Sh tb inl wc n) (cl d) := by
  intro n
  induction n with
  | zero => intro d hd; exact hm d hd
  | succ n ih =>
    intro d hd nu as st Q Q' hQ h
    change cond (amem nu inl) _ (wc nu as st Q) at h
    cases c : amem nu inl with
    | false => rw [c] at h; exact hm d (by omega) _ _ _ _ _ hQ h
    | true =>
      rw [c] at h
      obtain ⟨x, hx, h⟩ := zat_ok h
      change cond (Nat.ble (zcats as) x.2.1) _ False at h
      cases c2 : Nat.ble (zcats as) x.2.1 with
      | false => rw [c2] at h; exact h.elim
      | true =>
        rw [c2] at h
        obtain ⟨e, rfl⟩ : ∃ e, d = e + 1 := ⟨d - 1, by omega⟩
        refine hTb e nu x hx as st Q' (Nat.le_of_ble_eq_true c2) (fun K hcl _ _ => ?_)
        exact zr1_ok (ih e (by omega)) hcl 300 (zr1_mR (winl_mon hw n) hQ (fun _ _ _ _ h => h.elim) h)
noncomputable def wcL (l : List (Nat × zCall)) : zCall := fun nu as st Q => List.rec False (fun q _ ih => cond (Nat.beq nu q.1) (q.2 nu as st Q) ih) l
def wlm (l : List (Nat × zCall)) : Prop := ∀ q ∈ l, zmon q.2
def wmm (l : List (Nat × zCall)) (call : zCall) : Prop := ∀ q ∈ l, ∀ as st (Q Q' : zQ), (∀ r st', Q r st' → Q' r st') → q.2 q.1 as st Q → call q.1 as st Q'
theorem wl_nil : wlm [] := fun _ h => by cases h
theorem wm_nil {call : zCall} : wmm [] call := fun _ h => by cases h
theorem wl_cons {n : Nat} {k : zCall} {l : List (Nat × zCall)} (h : zmon k) (t : wlm l) : wlm ((n, k) :: l) := by
  intro q hq
  rcases List.mem_cons.mp hq with e | e
  · rw [e]; exact h
  · exact t q e
theorem wm_cons {n : Nat} {k : zCall} {l : List (Nat × zCall)} {call : zCall} (h : ∀ as st (Q Q' : zQ), (∀ r st', Q r st' → Q' r st') → k n as st Q → call n as st Q') (t : wmm l call) : wmm ((n, k) :: l) call := by
  intro q hq
  rcases List.mem_cons.mp hq with e | e
  · rw [e]; exact h
  · exact t q e
theorem wcL_mon {l : List (Nat × zCall)} (h : wlm l) : zmon (wcL l) := by
  intro nu as st Q Q' hQ
  induction l with
  | nil => exact id
  | cons q t ih =>
    intro hh
    change cond (Nat.beq nu q.1) (q.2 nu as st Q) (wcL t nu as st Q) at hh
    show cond (Nat.beq nu q.1) (q.2 nu as st Q') (wcL t nu as st Q')
    cases c : Nat.beq nu q.1 with
    | true => rw [c] at hh; exact h q (List.mem_cons_self ..) _ _ _ _ _ hQ hh
    | false => rw [c] at hh; exact ih (fun p hp => h p (List.mem_cons_of_mem _ hp)) hh
theorem wcL_m {l : List (Nat × zCall)} {call : zCall} (h : wmm l call) : zmo (wcL l) call := by
  intro nu as st Q Q' hQ
  induction l with
  | nil => exact fun hh => hh.elim
  | cons q t ih =>
    intro hh
    change cond (Nat.beq nu q.1) (q.2 nu as st Q) (wcL t nu as st Q) at hh
    cases c : Nat.beq nu q.1 with
    | true =>
      rw [c] at hh
      have e := rx_bq c
      subst e
      exact h q (List.mem_cons_self ..) _ _ _ _ hQ hh
    | false => rw [c] at hh; exact ih (fun p hp => h p (List.mem_cons_of_mem _ hp)) hh
