/-! runs of the law; the class's calls as the law sees them -/
noncomputable def lrs (N : Nat) (xs : Nat → Int32) (wc : zCall) (K : zG) (stp : List Nat) (n : Nat) : zG := Nat.rec K (fun _ ih cs L S st => match cs with
  | [] => False
  | e :: rest => cond (amem e.1 stp) (K cs L S st) (lstep N xs wc ih e rest L S st)) n
noncomputable def lr1 (N : Nat) (xs : Nat → Int32) (wc : zCall) (K : zG) (stp : List Nat) (n : Nat) (cs : List rx_E) (L : zL) (S : List zV) (st : zS) : Prop := match cs with
  | [] => False
  | e :: rest => lstep N xs wc (lrs N xs wc K stp n) e rest L S st
section LRS
variable {N : Nat} {xs : Nat → Int32} {call wc : zCall} {K K' : zG} {stp : List Nat} {rest : List rx_E} {L : zL} {S : List zV} {st : zS}
theorem y2_m {f : Int → Int → Int} (hK : ∀ cs L S st, K cs L S st → K' cs L S st) (h : y2 f K rest L S st) : y2 f K' rest L S st := by
  unfold y2 at h ⊢
  split at h
  · exact ⟨h.1, hK _ _ _ _ h.2⟩
  · exact h.elim
theorem yinc_m {nL a b : Nat} (hK : ∀ cs L S st, K cs L S st → K' cs L S st) (h : yinc nL K rest a b L S st) : yinc nL K' rest a b L S st := by
  refine zget_m h (fun v h => ?_)
  rcases v with x | (x | x)
  · change cond (Nat.blt a nL && Nat.blt b 4294967296) _ False at h
    show cond (Nat.blt a nL && Nat.blt b 4294967296) _ False
    cases c : (Nat.blt a nL && Nat.blt b 4294967296) with
    | true => rw [c] at h; exact ⟨h.1, hK _ _ _ _ h.2⟩
    | false => rw [c] at h; exact h
  · exact h
  · exact h
theorem lal_m (hK : ∀ cs L S st, K cs L S st → K' cs L S st) (h : lal N xs K rest L S st) : lal N xs K' rest L S st := by
  unfold lal at h ⊢
  split at h
  · exact ⟨h.1, h.2.1, hK _ _ _ _ h.2.2⟩
  · exact h.elim
theorem lln_m (hK : ∀ cs L S st, K cs L S st → K' cs L S st) (h : lln N K rest L S st) : lln N K' rest L S st := by
  unfold lln at h ⊢
  split at h
  · exact ⟨h.1, hK _ _ _ _ h.2⟩
  · exact h.elim
theorem lstep_m {e : rx_E} (hcm : zmo wc call) (hK : ∀ cs L S st, K cs L S st → K' cs L S st) (h : lstep N xs wc K e rest L S st) : lstep N xs call K' e rest L S st := by
  obtain ⟨pc, i, t⟩ := e
  cases i with
  | iaload => exact lal_m hK h
  | arraylength => exact lln_m hK h
  | ireturn => exact h
  | iinc z z2 => exact yinc_m hK h
  | iadd => exact y2_m hK h
  | isub => exact y2_m hK h
  | iconst z => exact zstep_m (Sh := zSh) (cd := rx_mL) (nL := 4) (q := 2) (Rt := fun _ _ => False) (e := (pc, .iconst z, t)) hcm hK h
  | bipush z => exact zstep_m (Sh := zSh) (cd := rx_mL) (nL := 4) (q := 2) (Rt := fun _ _ => False) (e := (pc, .bipush z, t)) hcm hK h
  | iload z => exact zstep_m (Sh := zSh) (cd := rx_mL) (nL := 4) (q := 2) (Rt := fun _ _ => False) (e := (pc, .iload z, t)) hcm hK h
  | iload_n z => exact zstep_m (Sh := zSh) (cd := rx_mL) (nL := 4) (q := 2) (Rt := fun _ _ => False) (e := (pc, .iload_n z, t)) hcm hK h
  | aload z => exact zstep_m (Sh := zSh) (cd := rx_mL) (nL := 4) (q := 2) (Rt := fun _ _ => False) (e := (pc, .aload z, t)) hcm hK h
  | aload_n z => exact zstep_m (Sh := zSh) (cd := rx_mL) (nL := 4) (q := 2) (Rt := fun _ _ => False) (e := (pc, .aload_n z, t)) hcm hK h
  | iand => exact zstep_m (Sh := zSh) (cd := rx_mL) (nL := 4) (q := 2) (Rt := fun _ _ => False) (e := (pc, .iand, t)) hcm hK h
  | pop => exact zstep_m (Sh := zSh) (cd := rx_mL) (nL := 4) (q := 2) (Rt := fun _ _ => False) (e := (pc, .pop, t)) hcm hK h
  | if_icmp z z2 => exact zstep_m (Sh := zSh) (cd := rx_mL) (nL := 4) (q := 2) (Rt := fun _ _ => False) (e := (pc, .if_icmp z z2, t)) hcm hK h
  | ifCond z z2 => exact zstep_m (Sh := zSh) (cd := rx_mL) (nL := 4) (q := 2) (Rt := fun _ _ => False) (e := (pc, .ifCond z z2, t)) hcm hK h
  | goto z => exact hK _ _ _ _ h
  | tableswitch z z2 z3 z4 => exact zstep_m (Sh := zSh) (cd := rx_mL) (nL := 4) (q := 2) (Rt := fun _ _ => False) (rest := rest) (e := (pc, .tableswitch z z2 z3 z4, t)) hcm hK h
  | invokevirtual z => exact zstep_m (Sh := zSh) (cd := rx_mL) (nL := 4) (q := 2) (Rt := fun _ _ => False) (e := (pc, .invokevirtual z, t)) hcm hK h
  | _ => exact absurd h id
def lcl (N : Nat) (xs : Nat → Int32) (call : zCall) (K : zG) : Prop := ∀ (e : rx_E) (rest : List rx_E) (L : zL) (S : List zV) (st : zS), lstep N xs call K e rest L S st → K (e :: rest) L S st
theorem lrs_ok (hcm : zmo wc call) (hcl : lcl N xs call K) : ∀ (n : Nat) (cs : List rx_E) (L : zL) (S : List zV) (st : zS), lrs N xs wc K stp n cs L S st → K cs L S st := by
  intro n
  induction n with
  | zero => intro cs L S st h; exact h
  | succ n ih =>
    intro cs L S st h
    cases cs with
    | nil => exact absurd h id
    | cons e rest =>
      change cond (amem e.1 stp) (K (e :: rest) L S st) (lstep N xs wc (lrs N xs wc K stp n) e rest L S st) at h
      cases c : amem e.1 stp with
      | true => rw [c] at h; exact h
      | false => rw [c] at h; exact hcl e rest L S st (lstep_m hcm (fun cs L S st h => ih cs L S st h) h)
theorem lr1_ok (hcm : zmo wc call) (hcl : lcl N xs call K) (n : Nat) {cs : List rx_E} (h : lr1 N xs wc K stp n cs L S st) : K cs L S st := by
  cases cs with
  | nil => exact absurd h id
  | cons e rest => exact hcl e rest L S st (lstep_m hcm (fun cs L S st h => lrs_ok hcm hcl n cs L S st h) h)
end LRS
def kX (s : aS) : zCall := fun _ as st Q => aTs s.1 as ∧ zI st ∧ ∀ (r : Int) (s1 : zS), zI s1 → Q (some (.inl r)) s1
theorem kX_m {cl : Nat → zCall} {D nu : Nat} {s : aS} (hS : aSp zgt cl D nu s) (hn : s.2.2.2.2.1 = 0) (hd : s.2.2.2.1 ≤ D) (hj : jfree s.2.1 = true) {b : aB} (hr : s.2.2.1 = some (.inl b)) : ∀ as st (Q Q' : zQ), (∀ r st', Q r st' → Q' r st') → kX s nu as st Q → cl D nu as st Q' := by
  intro as st Q Q' hQ h
  obtain ⟨h1, h2, h3⟩ := h
  refine hS as st h1 h2.1 ⟨fun _ => by omega, fun q => absurd hn q⟩ Q' (fun rz st' g f r => ?_)
  rw [hr] at r
  rcases rz with _ | (z | (z | z))
  · exact absurd r id
  · exact hQ _ _ (h3 z st' ⟨g, zJ_fr hj f h2.2⟩)
  · exact absurd r id
  · exact absurd r id
/-- seed: what it answers hangs on its argument's sign -/
def zs_n : aS := ([.inr (.inr 0), .inl (.negSucc 2147483647, .negSucc 0)], ([(0, 12)], [121]), (some (.inl (.ofNat 0, .ofNat 0))), (2, 0, 0))
def zs_p : aS := ([.inr (.inr 0), .inl (.ofNat 0, .ofNat 2147483647)], ([(0, 12)], [121]), (some (.inl (.ofNat 1, .ofNat 1))), (2, 0, 0))
set_option maxRecDepth 100000 in
theorem zs_n_ok : ains zSh zgt zit rx_tb 3000 121 zs_n [] = true := by decide +kernel
set_option maxRecDepth 100000 in
theorem zs_p_ok : ains zSh zgt zit rx_tb 3000 121 zs_p [] = true := by decide +kernel
def kXs : zCall := fun _ as st Q => match as with
  | [.inr (.inr (.inl o)), .inl x] => (o = 0 ∧ -2147483648 ≤ x ∧ x ≤ 2147483647) ∧ zI st ∧ ∀ (r : Int) (s1 : zS), zI s1 ∧ ((0 ≤ x → r = 1) ∧ (x < 0 → r = 0)) → Q (some (.inl r)) s1
  | _ => False
theorem kXs_m {cl : Nat → zCall} {D : Nat} (hTb : aTb zSh rx_tb cl) (hd : 2 ≤ D) : ∀ as st (Q Q' : zQ), (∀ r st', Q r st' → Q' r st') → kXs 121 as st Q → cl D 121 as st Q' := by
  intro as st Q Q' hQ h
  unfold kXs at h
  split at h
  · rename_i o x
    obtain ⟨⟨rfl, hx⟩, h2, h3⟩ := h
    by_cases e : x < 0
    · refine ains_ok hTb zs_n_ok D (fun d' _ => z_all hTb d') [.inr (.inr (.inl 0)), .inl x] st ⟨rfl, ⟨hx.1, show x ≤ -1 by omega⟩, True.intro⟩ h2.1 ⟨fun _ => by show (2 : Int) ≤ (D : Int); omega, fun q => absurd rfl q⟩ Q' (fun rz st' g f r => ?_)
      rcases rz with _ | (z | (z | z))
      · exact absurd r id
      · exact hQ _ _ (h3 z st' ⟨⟨g, zJ_fr rfl f h2.2⟩, fun q => by omega, fun _ => by have r : (0 : Int) ≤ z ∧ z ≤ 0 := r; omega⟩)
      · exact absurd r id
      · exact absurd r id
    · refine ains_ok hTb zs_p_ok D (fun d' _ => z_all hTb d') [.inr (.inr (.inl 0)), .inl x] st ⟨rfl, ⟨show 0 ≤ x by omega, hx.2⟩, True.intro⟩ h2.1 ⟨fun _ => by show (2 : Int) ≤ (D : Int); omega, fun q => absurd rfl q⟩ Q' (fun rz st' g f r => ?_)
      rcases rz with _ | (z | (z | z))
      · exact absurd r id
      · exact hQ _ _ (h3 z st' ⟨⟨g, zJ_fr rfl f h2.2⟩, fun _ => by have r : (1 : Int) ≤ z ∧ z ≤ 1 := r; omega, fun q => by omega⟩)
      · exact absurd r id
      · exact absurd r id
  · exact h.elim
