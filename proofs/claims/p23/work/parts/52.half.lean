/-! by hand: what half is told -/
def zat8 (st : zS) (k : Int) : Int := zd (Nat.land (zi (st 2 k.toNat)) (zi 255))
theorem zat8_ok (st : zS) (k : Int) : 0 ≤ zat8 st k ∧ zat8 st k ≤ 255 := by
  unfold zat8
  have h1 : Nat.land (zi (st 2 k.toNat)) (zi 255) ≤ zi 255 := Nat.and_le_right
  have h2 : zi 255 = 255 := rfl
  rw [h2] at h1 ⊢
  unfold zd
  rw [zblt, decide_eq_true (by omega)]
  simp only [cond_true]
  omega
/-- calls of Bytes.at and of Math.min -/
def wcA : zCall := fun nu as st Q => cond (Nat.beq nu 72) (match as with
  | [.inr (.inr (.inl c)), .inl k] => (c = 1 ∧ st 1 1 ≤ 1600 ∧ ((0 ≤ k ∧ k < st 1 1) → Q (some (.inl (zat8 st k))) st) ∧ (¬ (0 ≤ k ∧ k < st 1 1) → Q (some (.inl (-1))) st))
  | _ => False) (cond (Nat.beq nu 16) (match as with
  | [.inl a, .inl b] => ((a ≤ b → Q (some (.inl a)) st) ∧ (¬ (a ≤ b) → Q (some (.inl b)) st))
  | _ => False) False)
section HALF
variable {cl : Nat → zCall}
theorem c_at (hTb : aTb zSh rx_tb cl) (d : Nat) {k : Int} {st : zS} {Q : zQ} (hs : st 1 1 ≤ 1600) (h1 : 0 ≤ k → k < st 1 1 → Q (some (.inl (zat8 st k))) st) (h2 : ¬ (0 ≤ k ∧ k < st 1 1) → Q (some (.inl (-1))) st) : cl (d + 1) 72 [.inr (.inr (.inl 1)), .inl k] st Q := by
  refine hTb d 72 (rx_m72, 2, 0, 0, 1) rfl _ _ _ (Nat.le_of_ble_eq_true rfl) (fun K hcl hsf hsl => ?_)
  refine zr1_ok (Rt := Q) (wc := zno) (stp := []) zno_m hcl 40 ?_
  show ((k < 0 → Q (some (.inl (-1))) st) ∧ (¬ (k < 0) → ((st 1 1 ≤ k → Q (some (.inl (-1))) st) ∧ (¬ (st 1 1 ≤ k) → ((0 ≤ k ∧ k < 1600) ∧ Q (some (.inl (zd (Nat.land (zi (st 2 (k).toNat)) (zi 255))))) st)))))
  exact ⟨fun c => h2 (by omega), fun c => ⟨fun c2 => h2 (by omega), fun c2 => ⟨by omega, h1 (by omega) (by omega)⟩⟩⟩
theorem c_min (hTb : aTb zSh rx_tb cl) (d : Nat) {a b : Int} {st : zS} {Q : zQ} (h1 : a ≤ b → Q (some (.inl a)) st) (h2 : ¬ a ≤ b → Q (some (.inl b)) st) : cl (d + 1) 16 [.inl a, .inl b] st Q := by
  refine hTb d 16 (rx_m16, 2, 0, 0, 1) rfl _ _ _ (Nat.le_of_ble_eq_true rfl) (fun K hcl hsf hsl => ?_)
  refine zr1_ok (Rt := Q) (wc := zno) (stp := []) zno_m hcl 40 ?_
  show ((b < a → Q (some (.inl b)) st) ∧ (¬ (b < a) → Q (some (.inl a)) st))
  exact ⟨fun c => h2 (by omega), fun c => h1 (by omega)⟩
theorem wcA_m (hTb : aTb zSh rx_tb cl) (d : Nat) : ∀ nu as st (Q Q' : zQ), (∀ r st', Q r st' → Q' r st') → wcA nu as st Q → cl (d + 1) nu as st Q' := by
  intro nu as st Q Q' hQ h
  unfold wcA at h
  cases c : Nat.beq nu 72 with
  | true =>
    rw [c] at h
    have c := rx_bq c
    subst c
    dsimp only [cond_true] at h
    split at h
    · rename_i o k
      obtain ⟨rfl, h1, h2, h3⟩ := h
      exact c_at hTb d h1 (fun a b => hQ _ _ (h2 ⟨a, b⟩)) (fun a => hQ _ _ (h3 a))
    · exact h.elim
  | false =>
    rw [c] at h
    dsimp only [cond_false] at h
    cases c2 : Nat.beq nu 16 with
    | true =>
      rw [c2] at h
      have c2 := rx_bq c2
      subst c2
      dsimp only [cond_true] at h
      split at h
      · exact c_min hTb d (fun a => hQ _ _ (h.1 a)) (fun a => hQ _ _ (h.2 a))
      · exact h.elim
    | false => rw [c2] at h; exact h.elim
theorem c_cut0 (hTb : aTb zSh rx_tb cl) (d : Nat) {st : zS} {Q : zQ} (h0 : 0 ≤ st 1 1) (h1 : Q none (zup st 1 1 0)) : cl (d + 1) 89 [.inr (.inr (.inl 1)), .inl 0] st Q := by
  refine hTb d 89 (rx_m89, 2, 0, 0, 0) rfl _ _ _ (Nat.le_of_ble_eq_true rfl) (fun K hcl hsf hsl => ?_)
  refine zr1_ok (Rt := Q) (wc := zno) (stp := []) zno_m hcl 40 ?_
  have e : st 1 1 = 0 → zup st 1 1 0 = st := fun e => by
    have := zup_self st 1 1
    rw [e] at this
    exact this
  show (((0 : Int) < 0 → Q none st) ∧ (¬ ((0 : Int) < 0) → ((st 1 1 ≤ 0 → Q none st) ∧ (¬ (st 1 1 ≤ 0) → Q none (zup st 1 1 0)))))
  exact ⟨fun c => by omega, fun c => ⟨fun c2 => by have e2 := e (by omega); rw [e2] at h1; exact h1, fun c2 => h1⟩⟩
theorem c_refuse (hTb : aTb zSh rx_tb cl) (d : Nat) {k : Int} {st : zS} {Q : zQ} (h0 : 0 ≤ k ∧ k < 6) (h1 : Q (some (.inl (-1))) (zup st 121 k.toNat (zw (st 121 k.toNat + 1)))) : cl (d + 1) 163 [.inr (.inr (.inl 0)), .inl k] st Q := by
  refine hTb d 163 (rx_m163, 2, 0, 0, 1) rfl _ _ _ (Nat.le_of_ble_eq_true rfl) (fun K hcl hsf hsl => ?_)
  refine zr1_ok (Rt := Q) (wc := zno) (stp := []) zno_m hcl 40 ?_
  show ((0 ≤ k ∧ k < 6) ∧ ((0 ≤ k ∧ k < 6) ∧ Q (some (.inl (-1))) (zup st 121 (k).toNat (zw ((st 121 (k).toNat) + 1)))))
  exact ⟨h0, h0, h1⟩
/-- rows of a number below 20 each -/
def zfit (st : zS) : Prop := 2 ≤ st 1 1 ∧ st 1 1 ≤ 40 ∧ st 1 1 % 2 = 0 ∧ ∀ j : Int, 0 ≤ j → 2 * j < st 1 1 → zat8 st (2 * j) < 20
set_option maxRecDepth 100000 in
theorem c_fits (hTb : aTb zSh rx_tb cl) (d : Nat) {p : Int} {st : zS} {Q : zQ} (hs : 0 ≤ st 1 1 ∧ st 1 1 ≤ 1600) (h1 : zfit st → Q (some (.inl 1)) st) (h0 : Q (some (.inl 0)) st) : cl (d + 2) 162 [.inr (.inr (.inl 115)), .inr (.inr (.inl 1)), .inl p] st Q := by
  refine hTb (d + 1) 162 (rx_m162, 4, 0, 0, 2) rfl _ _ _ (Nat.le_of_ble_eq_true rfl) (fun K hcl hsf hsl => ?_)
  have z0 : ((0 : Int) = 0 ∨ (0 : Int) = 1) ∧ Q (some (.inl 0)) st := ⟨Or.inl rfl, h0⟩
  have k30 : ∀ (u : Nat) (i : Int), 2 ≤ st 1 1 → st 1 1 ≤ 40 → st 1 1 % 2 = 0 → 0 ≤ i → i ≤ st 1 1 → i % 2 = 0 → (∀ j : Int, 0 ≤ j → 2 * j < i → zat8 st (2 * j) < 20) → (st 1 1 - i).toNat = u → K (rx_find rx_m162 30) [(0, .inr (.inr (.inl 115))), (1, .inr (.inr (.inl 1))), (2, .inl p), (3, .inl i)] [] st := by
    intro u
    induction u using Nat.strongRecOn with
    | _ u ih =>
      intro i s2 s40 se i0 i1 ie hj hu
      refine zr1_ok (Rt := Q) (wc := wcA) (stp := [30]) (wcA_m hTb d) hcl 60 ?_
      show ((st 1 1 ≤ i → ((1 = (0 : Int) ∨ 1 = (1 : Int)) ∧ Q (some (.inl 1)) st)) ∧ (¬ (st 1 1 ≤ i) → (1 = 1 ∧ st 1 1 ≤ 1600 ∧ ((0 ≤ i ∧ i < st 1 1) → ((20 ≤ zat8 st i → ((0 = (0 : Int) ∨ 0 = (1 : Int)) ∧ Q (some (.inl 0)) st)) ∧ (¬ (20 ≤ zat8 st i) → (1 = 1 ∧ st 1 1 ≤ 1600 ∧ ((0 ≤ zw (i + 1) ∧ zw (i + 1) < st 1 1) → ((zat8 st (zw (i + 1)) < p → K (rx_find rx_m162 30) [(3, .inl (zw (i + 2))), (0, .inr (.inr (.inl 115))), (1, .inr (.inr (.inl 1))), (2, .inl p)] [] st) ∧ (¬ (zat8 st (zw (i + 1)) < p) → ((0 = (0 : Int) ∨ 0 = (1 : Int)) ∧ Q (some (.inl 0)) st)))) ∧ (¬ (0 ≤ zw (i + 1) ∧ zw (i + 1) < st 1 1) → ((((-1) : Int) < p → K (rx_find rx_m162 30) [(3, .inl (zw (i + 2))), (0, .inr (.inr (.inl 115))), (1, .inr (.inr (.inl 1))), (2, .inl p)] [] st) ∧ (¬ (((-1) : Int) < p) → ((0 = (0 : Int) ∨ 0 = (1 : Int)) ∧ Q (some (.inl 0)) st)))))))) ∧ (¬ (0 ≤ i ∧ i < st 1 1) → ((20 ≤ ((-1) : Int) → ((0 = (0 : Int) ∨ 0 = (1 : Int)) ∧ Q (some (.inl 0)) st)) ∧ (¬ (20 ≤ ((-1) : Int)) → (1 = 1 ∧ st 1 1 ≤ 1600 ∧ ((0 ≤ zw (i + 1) ∧ zw (i + 1) < st 1 1) → ((zat8 st (zw (i + 1)) < p → K (rx_find rx_m162 30) [(3, .inl (zw (i + 2))), (0, .inr (.inr (.inl 115))), (1, .inr (.inr (.inl 1))), (2, .inl p)] [] st) ∧ (¬ (zat8 st (zw (i + 1)) < p) → ((0 = (0 : Int) ∨ 0 = (1 : Int)) ∧ Q (some (.inl 0)) st)))) ∧ (¬ (0 ≤ zw (i + 1) ∧ zw (i + 1) < st 1 1) → ((((-1) : Int) < p → K (rx_find rx_m162 30) [(3, .inl (zw (i + 2))), (0, .inr (.inr (.inl 115))), (1, .inr (.inr (.inl 1))), (2, .inl p)] [] st) ∧ (¬ (((-1) : Int) < p) → ((0 = (0 : Int) ∨ 0 = (1 : Int)) ∧ Q (some (.inl 0)) st)))))))))))
      have e1 : zw (i + 2) = i + 2 := zw_id (by unfold zsI; omega)
      have e2 : zw (i + 1) = i + 1 := zw_id (by unfold zsI; omega)
      rw [e1, e2]
      refine ⟨fun c => ⟨Or.inr rfl, h1 ⟨s2, s40, se, fun j g1 g2 => hj j g1 (by omega)⟩⟩, fun c => ⟨rfl, hs.2, fun _ => ⟨fun _ => z0, fun c2 => ⟨rfl, hs.2, fun _ => ⟨fun _ => ?_, fun _ => z0⟩, fun q => absurd ⟨by omega, by omega⟩ q⟩⟩, fun q => absurd ⟨by omega, by omega⟩ q⟩⟩
      refine hsl _ _ _ _ _ (by simp) (ih (st 1 1 - (i + 2)).toNat (by omega) (i + 2) s2 s40 se (by omega) (by omega) (by omega) (fun j g1 g2 => ?_) rfl)
      rcases Int.lt_or_le (2 * j) i with g3 | g3
      · exact hj j g1 g3
      · have : 2 * j = i := by omega
        rw [this]
        omega
  refine zr1_ok (Rt := Q) (wc := wcA) (stp := [30]) (wcA_m hTb d) hcl 60 ?_
  show ((st 1 1 < 2 → ((0 = (0 : Int) ∨ 0 = (1 : Int)) ∧ Q (some (.inl 0)) st)) ∧ (¬ (st 1 1 < 2) → ((40 < st 1 1 → ((0 = (0 : Int) ∨ 0 = (1 : Int)) ∧ Q (some (.inl 0)) st)) ∧ (¬ (40 < st 1 1) → (¬ 2 = 0 ∧ ((zw (Int.tmod (st 1 1) 2) = 0 → K (rx_find rx_m162 30) [(3, .inl 0), (0, .inr (.inr (.inl 115))), (1, .inr (.inr (.inl 1))), (2, .inl p)] [] st) ∧ (¬ (zw (Int.tmod (st 1 1) 2) = 0) → ((0 = (0 : Int) ∨ 0 = (1 : Int)) ∧ Q (some (.inl 0)) st))))))))
  have e3 : st 1 1 ≤ 40 → 2 ≤ st 1 1 → zw (Int.tmod (st 1 1) 2) = st 1 1 % 2 := fun a b => by
    rw [Int.tmod_eq_emod_of_nonneg hs.1]
    exact zw_id (by unfold zsI; omega)
  refine ⟨fun _ => z0, fun c => ⟨fun _ => z0, fun c2 => ⟨by decide, fun c3 => ?_, fun _ => z0⟩⟩⟩
  rw [e3 (by omega) (by omega)] at c3
  exact hsl _ _ _ _ _ (by simp) (k30 _ 0 (by omega) (by omega) c3 (by omega) (by omega) (by omega) (fun j g1 g2 => by omega) rfl)
set_option maxRecDepth 100000 in
theorem c_take (hTb : aTb zSh rx_tb cl) (d : Nat) {st : zS} {Q : zQ} (hf : zfit st) (hn : ∀ i, 0 ≤ st 116 i ∧ st 116 i ≤ 19) (hp : ∀ i, zsI (st 117 i)) (h1 : ∀ s : zS, (0 ≤ s 115 5 ∧ s 115 5 ≤ 20) → (∀ i, 0 ≤ s 116 i ∧ s 116 i ≤ 19) → (∀ i, zsI (s 117 i)) → (∀ c i, ¬ (c = 115 ∧ i = 5) → ¬ c = 116 → ¬ c = 117 → s c i = st c i) → Q none s) : cl (d + 2) 224 [.inr (.inr (.inl 115)), .inr (.inr (.inl 1))] st Q := by
  refine hTb (d + 1) 224 (rx_m224, 3, 0, 0, 0) rfl _ _ _ (Nat.le_of_ble_eq_true rfl) (fun K hcl hsf hsl => ?_)
  obtain ⟨s2, s40, se, hj⟩ := hf
  have k17 : ∀ (u : Nat) (i : Int) (s : zS), 0 ≤ i → i ≤ s 115 5 → s 115 5 ≤ 20 → 2 * s 115 5 ≤ st 1 1 → (∀ i, 0 ≤ s 116 i ∧ s 116 i ≤ 19) → (∀ i, zsI (s 117 i)) → (∀ c i, ¬ (c = 115 ∧ i = 5) → ¬ c = 116 → ¬ c = 117 → s c i = st c i) → (20 - i).toNat = u → K (rx_find rx_m224 17) [(0, .inr (.inr (.inl 115))), (1, .inr (.inr (.inl 1))), (2, .inl i)] [] s := by
    intro u
    induction u using Nat.strongRecOn with
    | _ u ih =>
      intro i s i0 i1 c20 c2 g1 g2 g3 hu
      have e11 : s 1 1 = st 1 1 := g3 1 1 (by omega) (by omega) (by omega)
      have e8 : ∀ j, zat8 s j = zat8 st j := fun j => by unfold zat8; rw [g3 2 j.toNat (by omega) (by omega) (by omega)]
      refine zr1_ok (Rt := Q) (wc := wcA) (stp := [17]) (wcA_m hTb d) hcl 60 ?_
      show ((s 115 5 ≤ i → Q none s) ∧ (¬ (s 115 5 ≤ i) → (1 = 1 ∧ s 1 1 ≤ 1600 ∧ ((0 ≤ zw (2 * i) ∧ zw (2 * i) < s 1 1) → ((0 ≤ i ∧ i < 20) ∧ (1 = 1 ∧ s 1 1 ≤ 1600 ∧ ((0 ≤ zw ((zw (2 * i)) + 1) ∧ zw ((zw (2 * i)) + 1) < s 1 1) → ((0 ≤ i ∧ i < 20) ∧ K (rx_find rx_m224 17) [(2, .inl (zw (i + 1))), (0, .inr (.inr (.inl 115))), (1, .inr (.inr (.inl 1)))] [] (zup (zup s 116 (i).toNat (zat8 s (zw (2 * i)))) 117 (i).toNat (zat8 (zup s 116 (i).toNat (zat8 s (zw (2 * i)))) (zw ((zw (2 * i)) + 1)))))) ∧ (¬ (0 ≤ zw ((zw (2 * i)) + 1) ∧ zw ((zw (2 * i)) + 1) < s 1 1) → ((0 ≤ i ∧ i < 20) ∧ K (rx_find rx_m224 17) [(2, .inl (zw (i + 1))), (0, .inr (.inr (.inl 115))), (1, .inr (.inr (.inl 1)))] [] (zup (zup s 116 (i).toNat (zat8 s (zw (2 * i)))) 117 (i).toNat (-1))))))) ∧ (¬ (0 ≤ zw (2 * i) ∧ zw (2 * i) < s 1 1) → ((0 ≤ i ∧ i < 20) ∧ (1 = 1 ∧ s 1 1 ≤ 1600 ∧ ((0 ≤ zw ((zw (2 * i)) + 1) ∧ zw ((zw (2 * i)) + 1) < s 1 1) → ((0 ≤ i ∧ i < 20) ∧ K (rx_find rx_m224 17) [(2, .inl (zw (i + 1))), (0, .inr (.inr (.inl 115))), (1, .inr (.inr (.inl 1)))] [] (zup (zup s 116 (i).toNat (-1)) 117 (i).toNat (zat8 (zup s 116 (i).toNat (-1)) (zw ((zw (2 * i)) + 1)))))) ∧ (¬ (0 ≤ zw ((zw (2 * i)) + 1) ∧ zw ((zw (2 * i)) + 1) < s 1 1) → ((0 ≤ i ∧ i < 20) ∧ K (rx_find rx_m224 17) [(2, .inl (zw (i + 1))), (0, .inr (.inr (.inl 115))), (1, .inr (.inr (.inl 1)))] [] (zup (zup s 116 (i).toNat (-1)) 117 (i).toNat (-1))))))))))
      have e1 : i < s 115 5 → zw (i + 1) = i + 1 := fun _ => zw_id (by unfold zsI; omega)
      have e2 : i < s 115 5 → zw (2 * i) = 2 * i := fun _ => zw_id (by unfold zsI; omega)
      have e3 : i < s 115 5 → zw (2 * i + 1) = 2 * i + 1 := fun _ => zw_id (by unfold zsI; omega)
      refine ⟨fun c => h1 s ⟨by omega, c20⟩ g1 g2 g3, fun c => ?_⟩
      rw [e2 (by omega), e3 (by omega), e1 (by omega)]
      refine ⟨rfl, by omega, fun _ => ⟨by omega, rfl, by show s 1 1 ≤ 1600; omega, fun _ => ⟨by omega, ?_⟩, fun q => absurd ⟨by omega, by show 2 * i + 1 < s 1 1; omega⟩ q⟩, fun q => absurd ⟨by omega, by omega⟩ q⟩
      refine hsl _ _ _ _ _ (by simp) (ih (20 - (i + 1)).toNat (by omega) (i + 1) _ (by omega) (by show i + 1 ≤ s 115 5; omega) c20 c2 (fun j => ?_) (fun j => ?_) (fun c j q1 q2 q3 => ?_) rfl)
      · rw [zup_nc _ _ (show ¬ (116 : Nat) = 117 by decide), zup_if]
        split
        · have q1 := zat8_ok s (2 * i)
          have q2 := hj i i0 (by omega)
          rw [← e8] at q2
          exact ⟨q1.1, by omega⟩
        · exact g1 j
      · rw [zup_if]
        split
        · have q1 := zat8_ok (zup s 116 i.toNat (zat8 s (2 * i))) (2 * i + 1)
          exact ⟨by omega, by omega⟩
        · rw [zup_nc _ _ (show ¬ (117 : Nat) = 116 by decide)]
          exact g2 j
      · rw [zup_nc _ _ q3, zup_nc _ _ q2]
        exact g3 c j q1 q2 q3
  refine zr1_ok (Rt := Q) (wc := wcA) (stp := [17]) (wcA_m hTb d) hcl 60 ?_
  show (¬ 2 = 0 ∧ ((20 ≤ zw (Int.tdiv (st 1 1) 2) → K (rx_find rx_m224 17) [(2, .inl 0), (0, .inr (.inr (.inl 115))), (1, .inr (.inr (.inl 1)))] [] (zup st 115 5 20)) ∧ (¬ (20 ≤ zw (Int.tdiv (st 1 1) 2)) → K (rx_find rx_m224 17) [(2, .inl 0), (0, .inr (.inr (.inl 115))), (1, .inr (.inr (.inl 1)))] [] (zup st 115 5 (zw (Int.tdiv (st 1 1) 2))))))
  have e3 : zw (Int.tdiv (st 1 1) 2) = st 1 1 / 2 := by
    rw [Int.tdiv_eq_ediv_of_nonneg (by omega)]
    exact zw_id (by unfold zsI; omega)
  rw [e3]
  have fin : ∀ v : Int, 0 ≤ v → v ≤ 20 → 2 * v ≤ st 1 1 → K (rx_find rx_m224 17) [(2, .inl 0), (0, .inr (.inr (.inl 115))), (1, .inr (.inr (.inl 1)))] [] (zup st 115 5 v) := fun v v0 v1 v2 => hsl _ _ _ _ _ (by simp) (k17 _ 0 _ (by omega) (by show 0 ≤ v; exact v0) (by show v ≤ 20; exact v1) (by show 2 * v ≤ st 1 1; exact v2) (fun i => hn i) (fun i => hp i) (fun c i q1 _ _ => zup_ne _ _ q1) rfl)
  exact ⟨by decide, fun c => fin _ (by omega) (by omega) (by omega), fun c => fin _ (by omega) (by omega) (by omega)⟩
end HALF
