/-! by hand: an image that is taken on: what isImage looks at -/
def zu_yi : aS := ([.inr (.inr 1)], ([], []), (some (.inl (.negSucc 2147483647, .ofNat 2147483647))), (4, 0, 0))
def zu_cb : aS := ([.inr (.inr 1), .inl (.ofNat 0, .ofNat 1600)], ([], []), (some (.inl (.negSucc 2147483647, .ofNat 2147483647))), (4, 0, 0))
def zu_sb1 : aS := ([.inr (.inr 122), .inl (.negSucc 2147483647, .ofNat 2147483647), .inl (.negSucc 2147483647, .ofNat 2147483647)], ([], []), (some (.inl (.negSucc 2147483647, .ofNat 2147483647))), (4, 0, 0))
def zu_sb2 : aS := ([.inr (.inr 135), .inl (.negSucc 2147483647, .ofNat 2147483647), .inl (.negSucc 2147483647, .ofNat 2147483647)], ([], []), (some (.inl (.negSucc 2147483647, .ofNat 2147483647))), (4, 0, 0))
def zu_cbg : List aSg := [(6, [(0, .inr (.inr 1)), (1, .inl (.ofNat 0, .ofNat 1600)), (2, .inl (.negSucc 2147483647, .ofNat 2147483647)), (3, .inl (.ofNat 0, .ofNat 1600))], [], [.inl 1, .inr (.inl 3, true, .ofNat 1600)])]
set_option maxRecDepth 100000 in
theorem zu_yi_ok : ains zSh zgt zit rx_tb 3000 269 zu_yi [] = true := by decide +kernel
set_option maxRecDepth 100000 in
theorem zu_cb_ok : ains zSh zgt zit rx_tb 3000 172 zu_cb zu_cbg = true := by decide +kernel
set_option maxRecDepth 100000 in
theorem zu_sb1_ok : ains zSh zgt zit rx_tb 3000 286 zu_sb1 [] = true := by decide +kernel
set_option maxRecDepth 100000 in
theorem zu_sb2_ok : ains zSh zgt zit rx_tb 3000 286 zu_sb2 [] = true := by decide +kernel
def zat1 (st : zS) (k : Int) : Int := if 0 ≤ k ∧ k < st 1 1 then zat8 st k else -1
theorem zat1_in {st : zS} {k : Int} (h1 : 0 ≤ k) (h2 : k < st 1 1) : zat1 st k = zat8 st k := if_pos ⟨h1, h2⟩
theorem zat1_out {st : zS} {k : Int} (h : ¬ (0 ≤ k ∧ k < st 1 1)) : zat1 st k = -1 := if_neg h
theorem zat1_ok (st : zS) (k : Int) : -1 ≤ zat1 st k ∧ zat1 st k ≤ 255 := by
  unfold zat1
  have := zat8_ok st k
  split <;> omega
/-- all summaries hold -/
def zAll (cl : Nat → zCall) : Prop := ∀ D nu x s, zit[nu]? = some x → s ∈ x.2 → aSp zgt cl D nu s
theorem aFr_no {st st' : zS} (h : aFr ([], []) st st') : st' = st := by
  funext c i
  exact h c i rfl rfl
section ON
variable {cl : Nat → zCall}
theorem c_pure (hTb : aTb zSh rx_tb cl) (hA : zAll cl) {nu : Nat} {s : aS} {sgs : List aSg} (hok : ains zSh zgt zit rx_tb 3000 nu s sgs = true) (h1 : s.2.1 = ([], [])) (h2 : s.2.2.1 = some (.inl (.negSucc 2147483647, .ofNat 2147483647))) (h3 : s.2.2.2 = (4, 0, 0)) (d : Nat) {as : List zV} {st : zS} {Q : zQ} (hm : aTs s.1 as) (hG : gInv zgt st) (hQ : ∀ z, zsI z → Q (some (.inl z)) st) : cl (d + 4) nu as st Q := by
  have hsp := ains_ok (cl := cl) hTb hok (d + 4) (fun d' _ nu x s h1 h2 => hA d' nu x s h1 h2)
  refine hsp as st hm hG ⟨fun _ => by rw [h3]; show ((4 : Nat) : Int) ≤ _; omega, fun q => absurd (by rw [h3]) q⟩ Q (fun rz st' _ g2 g3 => ?_)
  rw [h1] at g2
  rw [h2] at g3
  have e := aFr_no g2
  subst e
  cases rz with
  | none => exact absurd g3 id
  | some u =>
    rcases u with z | (z | (o | j))
    · exact hQ z g3
    · exact absurd g3 id
    · exact absurd g3 id
    · exact absurd g3 id
/-- each step of a route lies in a place -/
def zars (t : Nat) (st : zS) (f n : Int) : Prop := ∀ k : Int, 0 ≤ k → k < n → zat1 st (f + 2 * k) < st t 1
def wcS : zCall := fun nu as st Q => cond (Nat.beq nu 72) (match as with
  | [.inr (.inr (.inl c)), .inl k] => (c = 1 ∧ st 1 1 ≤ 1600 ∧ Q (some (.inl (zat1 st k))) st)
  | _ => False) (cond (Nat.beq nu 269) (match as with
  | [.inr (.inr (.inl c))] => c = 1 ∧ (gInv zgt st ∧ ∀ z : Int, zsI z → Q (some (.inl z)) st)
  | _ => False) (cond (Nat.beq nu 172) (match as with
  | [.inr (.inr (.inl c)), .inl k] => c = 1 ∧ ((0 ≤ k ∧ k ≤ 1600) ∧ (gInv zgt st ∧ ∀ z : Int, zsI z → Q (some (.inl z)) st))
  | _ => False) (cond (Nat.beq nu 286) (match as with
  | [.inr (.inr (.inl c)), .inl a, .inl b] => ((c = 122 ∨ c = 135) ∧ zsI a ∧ zsI b) ∧ (gInv zgt st ∧ ∀ z : Int, zsI z → Q (some (.inl z)) st)
  | _ => False) False)))
theorem wcS_m (hTb : aTb zSh rx_tb cl) (hA : zAll cl) (d : Nat) : ∀ nu as st (Q Q' : zQ), (∀ r st', Q r st' → Q' r st') → wcS nu as st Q → cl (d + 4) nu as st Q' := by
  intro nu as st Q Q' hQ h
  unfold wcS at h
  cases c1 : Nat.beq nu 72 with
  | true =>
    rw [c1] at h
    have c := rx_bq c1
    subst c
    dsimp only [cond_true] at h
    split at h
    · obtain ⟨rfl, h1, h2⟩ := h
      exact c_at hTb (d + 3) h1 (fun a b => by rw [zat1_in a b] at h2; exact hQ _ _ h2) (fun a => by rw [zat1_out a] at h2; exact hQ _ _ h2)
    · exact h.elim
  | false =>
    rw [c1] at h
    dsimp only [cond_false] at h
    cases c2 : Nat.beq nu 269 with
    | true =>
      rw [c2] at h
      have c := rx_bq c2
      subst c
      dsimp only [cond_true] at h
      split at h
      · obtain ⟨rfl, h1, h2⟩ := h
        exact c_pure hTb hA zu_yi_ok rfl rfl rfl d ⟨rfl, trivial⟩ h1 (fun z hz => hQ _ _ (h2 z hz))
      · exact h.elim
    | false =>
      rw [c2] at h
      dsimp only [cond_false] at h
      cases c3 : Nat.beq nu 172 with
      | true =>
        rw [c3] at h
        have c := rx_bq c3
        subst c
        dsimp only [cond_true] at h
        split at h
        · obtain ⟨rfl, hk, h1, h2⟩ := h
          exact c_pure hTb hA zu_cb_ok rfl rfl rfl d ⟨rfl, hk, trivial⟩ h1 (fun z hz => hQ _ _ (h2 z hz))
        · exact h.elim
      | false =>
        rw [c3] at h
        dsimp only [cond_false] at h
        cases c4 : Nat.beq nu 286 with
        | true =>
          rw [c4] at h
          have c := rx_bq c4
          subst c
          dsimp only [cond_true] at h
          split at h
          · obtain ⟨⟨rfl | rfl, ha, hb⟩, h1, h2⟩ := h
            · exact c_pure hTb hA zu_sb1_ok rfl rfl rfl d ⟨rfl, ha, hb, trivial⟩ h1 (fun z hz => hQ _ _ (h2 z hz))
            · exact c_pure hTb hA zu_sb2_ok rfl rfl rfl d ⟨rfl, ha, hb, trivial⟩ h1 (fun z hz => hQ _ _ (h2 z hz))
          · exact h.elim
        | false => rw [c4] at h; exact h.elim
end ON
