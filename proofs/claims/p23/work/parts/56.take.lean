/-! by hand: an image taken on -/
def wcT : zCall := fun nu as st Q => cond (Nat.beq nu 263) (match as with
  | [.inr (.inr (.inl a)), .inl p, .inl q] => a = 7 ∧ ((0 ≤ st 7 2 ∧ st 7 2 < 30) ∧ Q (some (.inl 1)) (zup (zup (zup st 8 (st 7 2).toNat p) 9 (st 7 2).toNat q) 7 2 (zw (st 7 2 + 1))))
  | _ => False) (cond (Nat.beq nu 70) (match as with
  | [.inr (.inr (.inl a)), .inl k] => (a = 7 ∧ k = 0) ∧ (0 ≤ st 7 2 ∧ Q none (zup st 7 2 0))
  | _ => False) (wcS nu as st Q))
section ON3
variable {cl : Nat → zCall}
theorem c_append (hTb : aTb zSh rx_tb cl) (d : Nat) {p q : Int} {st : zS} {Q : zQ} (h : 0 ≤ st 7 2 ∧ st 7 2 < 30) (h1 : Q (some (.inl 1)) (zup (zup (zup st 8 (st 7 2).toNat p) 9 (st 7 2).toNat q) 7 2 (zw (st 7 2 + 1)))) : cl (d + 1) 263 [.inr (.inr (.inl 7)), .inl p, .inl q] st Q := by
  refine hTb d 263 (rx_m263, 3, 0, 0, 2) rfl _ _ _ (Nat.le_of_ble_eq_true rfl) (fun K hcl hsf hsl => ?_)
  refine zr1_ok (Rt := Q) (wc := zno) (stp := []) zno_m hcl 60 ?_
  show ((st 7 2 < 30 → ((0 ≤ st 7 2 ∧ st 7 2 < 30) ∧ ((0 ≤ st 7 2 ∧ st 7 2 < 30) ∧ ((1 = (0 : Int) ∨ 1 = (1 : Int)) ∧ Q (some (.inl 1)) (zup (zup (zup st 8 (st 7 2).toNat p) 9 (st 7 2).toNat q) 7 2 (zw ((st 7 2) + 1))))))) ∧ (¬ (st 7 2 < 30) → ((0 = (0 : Int) ∨ 0 = (1 : Int)) ∧ Q (some (.inl 0)) st)))
  exact ⟨fun _ => ⟨h, h, Or.inr rfl, h1⟩, fun c => by omega⟩
theorem c_cutTo (hTb : aTb zSh rx_tb cl) (d : Nat) {st : zS} {Q : zQ} (h0 : 0 ≤ st 7 2) (h1 : Q none (zup st 7 2 0)) : cl (d + 1) 70 [.inr (.inr (.inl 7)), .inl 0] st Q := by
  refine hTb d 70 (rx_m70, 2, 0, 0, 0) rfl _ _ _ (Nat.le_of_ble_eq_true rfl) (fun K hcl hsf hsl => ?_)
  refine zr1_ok (Rt := Q) (wc := zno) (stp := []) zno_m hcl 40 ?_
  have e : st 7 2 = 0 → zup st 7 2 0 = st := fun e => by
    have := zup_self st 7 2
    rw [e] at this
    exact this
  show (((0 : Int) < 0 → Q none st) ∧ (¬ ((0 : Int) < 0) → ((st 7 2 ≤ (0 : Int) → Q none st) ∧ (¬ (st 7 2 ≤ (0 : Int)) → Q none (zup st 7 2 0)))))
  exact ⟨fun c => by omega, fun c => ⟨fun c2 => by have e2 := e (by omega); rw [e2] at h1; exact h1, fun c2 => h1⟩⟩
theorem wcT_m (hTb : aTb zSh rx_tb cl) (hA : zAll cl) (d : Nat) : ∀ nu as st (Q Q' : zQ), (∀ r st', Q r st' → Q' r st') → wcT nu as st Q → cl (d + 4) nu as st Q' := by
  intro nu as st Q Q' hQ h
  unfold wcT at h
  cases c1 : Nat.beq nu 263 with
  | true =>
    rw [c1] at h
    have c := rx_bq c1
    subst c
    dsimp only [cond_true] at h
    split at h
    · obtain ⟨rfl, h1, h2⟩ := h
      exact c_append hTb (d + 3) h1 (hQ _ _ h2)
    · exact h.elim
  | false =>
    rw [c1] at h
    dsimp only [cond_false] at h
    cases c2 : Nat.beq nu 70 with
    | true =>
      rw [c2] at h
      have c := rx_bq c2
      subst c
      dsimp only [cond_true] at h
      split at h
      · obtain ⟨⟨rfl, rfl⟩, h1, h2⟩ := h
        exact c_cutTo hTb (d + 3) h1 (hQ _ _ h2)
      · exact h.elim
    | false =>
      rw [c2] at h
      exact wcS_m hTb hA d nu as st Q Q' hQ h
def zfr (st s : zS) : Prop := ∀ c i, ¬ (c = 5 ∧ (i = 0 ∨ i = 1 ∨ i = 4)) → ¬ c = 6 → ¬ (c = 7 ∧ i = 2) → ¬ c = 8 → ¬ c = 9 → s c i = st c i
def zsv (s : zS) : Prop := (zsI (s 5 0) ∧ zsI (s 5 1) ∧ zsI (s 5 4)) ∧ (∀ i, 0 ≤ s 6 i ∧ s 6 i ≤ 7) ∧ (0 ≤ s 7 2 ∧ s 7 2 ≤ 30) ∧ (∀ i, 0 ≤ s 8 i ∧ s 8 i ≤ 7) ∧ (∀ i, zsI (s 9 i))
theorem zfr_at {st s : zS} (h : zfr st s) (k : Int) : zat1 s k = zat1 st k := by
  unfold zat1 zat8
  rw [h 1 1 (by omega) (by omega) (by omega) (by omega) (by omega), h 2 k.toNat (by omega) (by omega) (by omega) (by omega) (by omega)]
theorem zfr_up {st s : zS} (h : zfr st s) {c i : Nat} (z : Int) (hc : (c = 5 ∧ (i = 0 ∨ i = 1 ∨ i = 4)) ∨ c = 6 ∨ (c = 7 ∧ i = 2) ∨ c = 8 ∨ c = 9) : zfr st (zup s c i z) := by
  intro c' i' h1 h2 h3 h4 h5
  rw [zup_ne _ _ (fun q => by
    obtain ⟨rfl, rfl⟩ := q
    rcases hc with hc | hc | hc | hc | hc
    · exact h1 hc
    · exact h2 hc
    · exact h3 hc
    · exact h4 hc
    · exact h5 hc)]
  exact h c' i' h1 h2 h3 h4 h5
set_option maxRecDepth 100000 in
theorem c_tk1 (hTb : aTb zSh rx_tb cl) (hA : zAll cl) (d : Nat) {st : zS} {Q : zQ} (hG : gInv zgt st) (hv : zsv st) (hi : zimg 122 st) (h1 : ∀ s, zsv s → zfr st s → Q none s) : cl (d + 5) 271 [.inr (.inr (.inl 5)), .inr (.inr (.inl 1)), .inr (.inr (.inl 122))] st Q := by
  refine hTb (d + 4) 271 (rx_m271, 7, 0, 0, 0) rfl _ _ _ (Nat.le_of_ble_eq_true rfl) (fun K hcl hsf hsl => ?_)
  have s16 := (gtape hG).2
  have g1 := gp1 hG
  have g3 := gs1 hG
  have g8 := gh1 hG
  obtain ⟨i1, i2, i3, i4, i5⟩ := hi
  have m0 : 0 ≤ zat1 st (2 + st 122 3 + st 122 8) := by
    have := zat1_ok st (2 + st 122 3 + st 122 8)
    omega
  have nn : ∀ k : Int, 0 ≤ k → k < st 1 1 → 0 ≤ zat1 st k := fun k a b => by
    rw [zat1_in a b]
    exact (zat8_ok st k).1
  have f11 : ∀ s, zfr st s → s 1 1 = st 1 1 := fun s hf => hf 1 1 (by omega) (by omega) (by omega) (by omega) (by omega)
  have f3 : ∀ s, zfr st s → s 122 3 = st 122 3 := fun s hf => hf 122 3 (by omega) (by omega) (by omega) (by omega) (by omega)
  have f8 : ∀ s, zfr st s → s 122 8 = st 122 8 := fun s hf => hf 122 8 (by omega) (by omega) (by omega) (by omega) (by omega)
  have k118 : ∀ (u : Nat) (i g e m : Int) (s : zS), g = 2 + st 122 3 → e = g + st 122 8 → m = zat1 st e → 0 ≤ i → i ≤ m → s 7 2 = i → zsv s → zfr st s → (m - i).toNat = u → K (rx_find rx_m271 118) [(0, .inr (.inr (.inl 5))), (1, .inr (.inr (.inl 1))), (2, .inr (.inr (.inl 122))), (3, .inl g), (4, .inl e), (5, .inl m), (6, .inl i)] [] s := by
    intro u
    induction u using Nat.strongRecOn with
    | _ u ih =>
      intro i g e m s eg ee em j0 j1 jc hsv hf hu
      refine zr1_ok (Rt := Q) (wc := wcT) (stp := [39, 77, 118]) (wcT_m hTb hA d) hcl 80 ?_
      show ((m ≤ i → Q none (zup s 5 4 0)) ∧ (¬ (m ≤ i) → (1 = 1 ∧ s 1 1 ≤ 1600 ∧ (1 = 1 ∧ s 1 1 ≤ 1600 ∧ (7 = 7 ∧ ((0 ≤ s 7 2 ∧ s 7 2 < 30) ∧ K (rx_find rx_m271 118) [(6, .inl (zw (i + 1))), (0, .inr (.inr (.inl 5))), (1, .inr (.inr (.inl 1))), (2, .inr (.inr (.inl 122))), (3, .inl g), (4, .inl e), (5, .inl m)] [] (zup (zup (zup s 8 (s 7 2).toNat (zat1 s (zw ((zw (e + 1)) + (zw (2 * i)))))) 9 (s 7 2).toNat (zat1 s (zw ((zw (e + 2)) + (zw (2 * i)))))) 7 2 (zw (s 7 2 + 1)))))))))
      subst eg
      subst ee
      subst em
      rw [f11 s hf]
      refine ⟨fun c => h1 _ ?_ (zfr_up hf 0 (Or.inl ⟨rfl, Or.inr (Or.inr rfl)⟩)), fun c => ?_⟩
      · obtain ⟨⟨v1, v2, v3⟩, v4, v5, v6, v7⟩ := hsv
        exact ⟨⟨v1, v2, by show zsI 0; unfold zsI; omega⟩, v4, v5, v6, v7⟩
      · rw [show zw (i + 1) = i + 1 from zw_id (by unfold zsI; omega), show zw (2 + st 122 3 + st 122 8 + 1) = 2 + st 122 3 + st 122 8 + 1 from zw_id (by unfold zsI; omega), show zw (2 * i) = 2 * i from zw_id (by unfold zsI; omega), show zw (2 + st 122 3 + st 122 8 + 1 + 2 * i) = 2 + st 122 3 + st 122 8 + 1 + 2 * i from zw_id (by unfold zsI; omega), show zw (2 + st 122 3 + st 122 8 + 2) = 2 + st 122 3 + st 122 8 + 2 from zw_id (by unfold zsI; omega), show zw (2 + st 122 3 + st 122 8 + 2 + 2 * i) = 2 + st 122 3 + st 122 8 + 2 + 2 * i from zw_id (by unfold zsI; omega), show zw (s 7 2 + 1) = s 7 2 + 1 from zw_id (by unfold zsI; omega), zfr_at hf, zfr_at hf]
        have p1 := i5 i j0 (by omega)
        have p0 := nn (2 + st 122 3 + st 122 8 + 1 + 2 * i) (by omega) (by omega)
        refine ⟨rfl, s16, rfl, s16, rfl, ⟨by omega, by omega⟩, hsl _ _ _ _ _ (by simp) (ih _ (by omega) (i + 1) _ _ _ _ rfl rfl rfl (by omega) (by omega) ?_ ?_ (zfr_up (zfr_up (zfr_up hf _ (Or.inr (Or.inr (Or.inr (Or.inl rfl))))) _ (Or.inr (Or.inr (Or.inr (Or.inr rfl))))) _ (Or.inr (Or.inr (Or.inl ⟨rfl, rfl⟩)))) rfl)⟩
        · rw [zup_eq]
          omega
        · obtain ⟨⟨v1, v2, v3⟩, v4, v5, v6, v7⟩ := hsv
          refine ⟨⟨v1, v2, v3⟩, v4, ?_, fun j => ?_, fun j => ?_⟩
          · rw [zup_eq]
            omega
          · rw [zup_nc _ _ (show ¬ (8 : Nat) = 7 by decide), zup_nc _ _ (show ¬ (8 : Nat) = 9 by decide), zup_if]
            split
            · exact ⟨p0, by omega⟩
            · exact v6 j
          · rw [zup_nc _ _ (show ¬ (9 : Nat) = 7 by decide), zup_if]
            split
            · exact zz1 _ _
            · rw [zup_nc _ _ (show ¬ (9 : Nat) = 8 by decide)]
              exact v7 j
  have k77 : ∀ (u : Nat) (i g e m : Int) (s : zS), g = 2 + st 122 3 → e = g + st 122 8 → m = zat1 st e → 0 ≤ i → i ≤ st 122 8 → zsv s → zfr st s → (st 122 8 - i).toNat = u → K (rx_find rx_m271 77) [(0, .inr (.inr (.inl 5))), (1, .inr (.inr (.inl 1))), (2, .inr (.inr (.inl 122))), (3, .inl g), (4, .inl e), (5, .inl m), (6, .inl i)] [] s := by
    intro u
    induction u using Nat.strongRecOn with
    | _ u ih =>
      intro i g e m s eg ee em j0 j1 hsv hf hu
      refine zr1_ok (Rt := Q) (wc := wcT) (stp := [39, 77, 118]) (wcT_m hTb hA d) hcl 80 ?_
      show ((s 122 8 ≤ i → ((7 = 7 ∧ (0 : Int) = 0) ∧ (0 ≤ s 7 2 ∧ K (rx_find rx_m271 118) [(6, .inl 0), (0, .inr (.inr (.inl 5))), (1, .inr (.inr (.inl 1))), (2, .inr (.inr (.inl 122))), (3, .inl g), (4, .inl e), (5, .inl m)] [] (zup s 7 2 0)))) ∧ (¬ (s 122 8 ≤ i) → (1 = 1 ∧ s 1 1 ≤ 1600 ∧ ((0 ≤ i ∧ i < 8) ∧ K (rx_find rx_m271 77) [(6, .inl (zw (i + 1))), (0, .inr (.inr (.inl 5))), (1, .inr (.inr (.inl 1))), (2, .inr (.inr (.inl 122))), (3, .inl g), (4, .inl e), (5, .inl m)] [] (zup s 6 (i).toNat (zat1 s (zw (g + i))))))))
      subst eg
      subst ee
      subst em
      rw [f11 s hf, f8 s hf]
      refine ⟨fun c => ⟨⟨rfl, rfl⟩, hsv.2.2.1.1, hsl _ _ _ _ _ (by simp) (k118 _ 0 _ _ _ _ rfl rfl rfl (by omega) m0 (by rw [zup_eq]) ?_ (zfr_up hf 0 (Or.inr (Or.inr (Or.inl ⟨rfl, rfl⟩)))) rfl)⟩, fun c => ?_⟩
      · obtain ⟨⟨v1, v2, v3⟩, v4, v5, v6, v7⟩ := hsv
        exact ⟨⟨v1, v2, v3⟩, v4, by rw [zup_eq]; omega, v6, v7⟩
      · rw [show zw (i + 1) = i + 1 from zw_id (by unfold zsI; omega), show zw (2 + st 122 3 + i) = 2 + st 122 3 + i from zw_id (by unfold zsI; omega), zfr_at hf]
        have p1 := i4 (2 + st 122 3 + i) (by omega) (by omega)
        have p0 := nn (2 + st 122 3 + i) (by omega) (by omega)
        refine ⟨rfl, s16, ⟨by omega, by omega⟩, hsl _ _ _ _ _ (by simp) (ih _ (by omega) (i + 1) _ _ _ _ rfl rfl rfl (by omega) (by omega) ?_ (zfr_up hf _ (Or.inr (Or.inl rfl))) rfl)⟩
        obtain ⟨⟨v1, v2, v3⟩, v4, v5, v6, v7⟩ := hsv
        refine ⟨⟨v1, v2, v3⟩, fun j => ?_, v5, v6, v7⟩
        rw [zup_if]
        split
        · exact ⟨p0, by omega⟩
        · exact v4 j
  have k39 : ∀ (u : Nat) (i g e m : Int) (s : zS), g = 2 + st 122 3 → e = g + st 122 8 → m = zat1 st e → 0 ≤ i → i ≤ st 122 3 → zsv s → zfr st s → (st 122 3 - i).toNat = u → K (rx_find rx_m271 39) [(0, .inr (.inr (.inl 5))), (1, .inr (.inr (.inl 1))), (2, .inr (.inr (.inl 122))), (3, .inl g), (4, .inl e), (5, .inl m), (6, .inl i)] [] s := by
    intro u
    induction u using Nat.strongRecOn with
    | _ u ih =>
      intro i g e m s eg ee em j0 j1 hsv hf hu
      refine zr1_ok (Rt := Q) (wc := wcT) (stp := [39, 77, 118]) (wcT_m hTb hA d) hcl 80 ?_
      show ((s 122 3 ≤ i → K (rx_find rx_m271 77) [(6, .inl 0), (0, .inr (.inr (.inl 5))), (1, .inr (.inr (.inl 1))), (2, .inr (.inr (.inl 122))), (3, .inl g), (4, .inl e), (5, .inl m)] [] s) ∧ (¬ (s 122 3 ≤ i) → (1 = 1 ∧ s 1 1 ≤ 1600 ∧ K (rx_find rx_m271 39) [(6, .inl (zw (i + 1))), (0, .inr (.inr (.inl 5))), (1, .inr (.inr (.inl 1))), (2, .inr (.inr (.inl 122))), (3, .inl g), (4, .inl e), (5, .inl m)] [] (zup s 5 1 (zd (Nat.lor (zi (s 5 1)) (zi (zd ((zi (zat1 s (zw (2 + i))) * 2 ^ (zi i % 32)) % 4294967296)))))))))
      rw [f11 s hf, f3 s hf]
      refine ⟨fun c => hsl _ _ _ _ _ (by simp) (k77 _ 0 g e m s eg ee em (by omega) g8.1 hsv hf rfl), fun c => ?_⟩
      rw [show zw (i + 1) = i + 1 from zw_id (by unfold zsI; omega)]
      refine ⟨rfl, s16, hsl _ _ _ _ _ (by simp) (ih _ (by omega) (i + 1) g e m _ eg ee em (by omega) (by omega) ?_ (zfr_up hf _ (Or.inl ⟨rfl, Or.inr (Or.inl rfl)⟩)) rfl)⟩
      obtain ⟨⟨v1, v2, v3⟩, v4, v5, v6, v7⟩ := hsv
      exact ⟨⟨v1, by rw [zup_eq]; exact zd_ok (zlor _ _), v3⟩, v4, v5, v6, v7⟩
  refine zr1_ok (Rt := Q) (wc := wcT) (stp := [39, 77, 118]) (wcT_m hTb hA d) hcl 80 ?_
  show (1 = 1 ∧ st 1 1 ≤ 1600 ∧ (1 = 1 ∧ (gInv zgt st ∧ ∀ z1 : Int, zsI z1 → K (rx_find rx_m271 39) [(6, .inl 0), (5, .inl (zat1 st (zw ((zw (2 + (st 122 3))) + (st 122 8))))), (4, .inl (zw ((zw (2 + (st 122 3))) + (st 122 8)))), (3, .inl (zw (2 + (st 122 3)))), (0, .inr (.inr (.inl 5))), (1, .inr (.inr (.inl 1))), (2, .inr (.inr (.inl 122)))] [] (zup (zup st 5 0 z1) 5 1 0))))
  rw [show zw (2 + st 122 3) = 2 + st 122 3 from zw_id (by unfold zsI; omega), show zw (2 + st 122 3 + st 122 8) = 2 + st 122 3 + st 122 8 from zw_id (by unfold zsI; omega)]
  refine ⟨rfl, s16, rfl, hG, fun z1 hz => hsl _ _ _ _ _ (by simp) (k39 _ 0 _ _ _ _ rfl rfl rfl (by omega) g3.1 ?_ (zfr_up (zfr_up (fun _ _ _ _ _ _ _ => rfl) _ (Or.inl ⟨rfl, Or.inl rfl⟩)) _ (Or.inl ⟨rfl, Or.inr (Or.inl rfl)⟩)) rfl)⟩
  obtain ⟨⟨v1, v2, v3⟩, v4, v5, v6, v7⟩ := hv
  exact ⟨⟨hz, by show zsI 0; unfold zsI; omega, v3⟩, v4, v5, v6, v7⟩
set_option maxRecDepth 100000 in
theorem c_tk2 (hTb : aTb zSh rx_tb cl) (hA : zAll cl) (d : Nat) {st : zS} {Q : zQ} (hG : gInv zgt st) (hv : zsv st) (hi : zimg 135 st) (h1 : ∀ s, zsv s → zfr st s → Q none s) : cl (d + 5) 271 [.inr (.inr (.inl 5)), .inr (.inr (.inl 1)), .inr (.inr (.inl 135))] st Q := by
  refine hTb (d + 4) 271 (rx_m271, 7, 0, 0, 0) rfl _ _ _ (Nat.le_of_ble_eq_true rfl) (fun K hcl hsf hsl => ?_)
  have s16 := (gtape hG).2
  have g1 := gp2 hG
  have g3 := gs2 hG
  have g8 := gh2 hG
  obtain ⟨i1, i2, i3, i4, i5⟩ := hi
  have m0 : 0 ≤ zat1 st (2 + st 135 3 + st 135 8) := by
    have := zat1_ok st (2 + st 135 3 + st 135 8)
    omega
  have nn : ∀ k : Int, 0 ≤ k → k < st 1 1 → 0 ≤ zat1 st k := fun k a b => by
    rw [zat1_in a b]
    exact (zat8_ok st k).1
  have f11 : ∀ s, zfr st s → s 1 1 = st 1 1 := fun s hf => hf 1 1 (by omega) (by omega) (by omega) (by omega) (by omega)
  have f3 : ∀ s, zfr st s → s 135 3 = st 135 3 := fun s hf => hf 135 3 (by omega) (by omega) (by omega) (by omega) (by omega)
  have f8 : ∀ s, zfr st s → s 135 8 = st 135 8 := fun s hf => hf 135 8 (by omega) (by omega) (by omega) (by omega) (by omega)
  have k118 : ∀ (u : Nat) (i g e m : Int) (s : zS), g = 2 + st 135 3 → e = g + st 135 8 → m = zat1 st e → 0 ≤ i → i ≤ m → s 7 2 = i → zsv s → zfr st s → (m - i).toNat = u → K (rx_find rx_m271 118) [(0, .inr (.inr (.inl 5))), (1, .inr (.inr (.inl 1))), (2, .inr (.inr (.inl 135))), (3, .inl g), (4, .inl e), (5, .inl m), (6, .inl i)] [] s := by
    intro u
    induction u using Nat.strongRecOn with
    | _ u ih =>
      intro i g e m s eg ee em j0 j1 jc hsv hf hu
      refine zr1_ok (Rt := Q) (wc := wcT) (stp := [39, 77, 118]) (wcT_m hTb hA d) hcl 80 ?_
      show ((m ≤ i → Q none (zup s 5 4 0)) ∧ (¬ (m ≤ i) → (1 = 1 ∧ s 1 1 ≤ 1600 ∧ (1 = 1 ∧ s 1 1 ≤ 1600 ∧ (7 = 7 ∧ ((0 ≤ s 7 2 ∧ s 7 2 < 30) ∧ K (rx_find rx_m271 118) [(6, .inl (zw (i + 1))), (0, .inr (.inr (.inl 5))), (1, .inr (.inr (.inl 1))), (2, .inr (.inr (.inl 135))), (3, .inl g), (4, .inl e), (5, .inl m)] [] (zup (zup (zup s 8 (s 7 2).toNat (zat1 s (zw ((zw (e + 1)) + (zw (2 * i)))))) 9 (s 7 2).toNat (zat1 s (zw ((zw (e + 2)) + (zw (2 * i)))))) 7 2 (zw (s 7 2 + 1)))))))))
      subst eg
      subst ee
      subst em
      rw [f11 s hf]
      refine ⟨fun c => h1 _ ?_ (zfr_up hf 0 (Or.inl ⟨rfl, Or.inr (Or.inr rfl)⟩)), fun c => ?_⟩
      · obtain ⟨⟨v1, v2, v3⟩, v4, v5, v6, v7⟩ := hsv
        exact ⟨⟨v1, v2, by show zsI 0; unfold zsI; omega⟩, v4, v5, v6, v7⟩
      · rw [show zw (i + 1) = i + 1 from zw_id (by unfold zsI; omega), show zw (2 + st 135 3 + st 135 8 + 1) = 2 + st 135 3 + st 135 8 + 1 from zw_id (by unfold zsI; omega), show zw (2 * i) = 2 * i from zw_id (by unfold zsI; omega), show zw (2 + st 135 3 + st 135 8 + 1 + 2 * i) = 2 + st 135 3 + st 135 8 + 1 + 2 * i from zw_id (by unfold zsI; omega), show zw (2 + st 135 3 + st 135 8 + 2) = 2 + st 135 3 + st 135 8 + 2 from zw_id (by unfold zsI; omega), show zw (2 + st 135 3 + st 135 8 + 2 + 2 * i) = 2 + st 135 3 + st 135 8 + 2 + 2 * i from zw_id (by unfold zsI; omega), show zw (s 7 2 + 1) = s 7 2 + 1 from zw_id (by unfold zsI; omega), zfr_at hf, zfr_at hf]
        have p1 := i5 i j0 (by omega)
        have p0 := nn (2 + st 135 3 + st 135 8 + 1 + 2 * i) (by omega) (by omega)
        refine ⟨rfl, s16, rfl, s16, rfl, ⟨by omega, by omega⟩, hsl _ _ _ _ _ (by simp) (ih _ (by omega) (i + 1) _ _ _ _ rfl rfl rfl (by omega) (by omega) ?_ ?_ (zfr_up (zfr_up (zfr_up hf _ (Or.inr (Or.inr (Or.inr (Or.inl rfl))))) _ (Or.inr (Or.inr (Or.inr (Or.inr rfl))))) _ (Or.inr (Or.inr (Or.inl ⟨rfl, rfl⟩)))) rfl)⟩
        · rw [zup_eq]
          omega
        · obtain ⟨⟨v1, v2, v3⟩, v4, v5, v6, v7⟩ := hsv
          refine ⟨⟨v1, v2, v3⟩, v4, ?_, fun j => ?_, fun j => ?_⟩
          · rw [zup_eq]
            omega
          · rw [zup_nc _ _ (show ¬ (8 : Nat) = 7 by decide), zup_nc _ _ (show ¬ (8 : Nat) = 9 by decide), zup_if]
            split
            · exact ⟨p0, by omega⟩
            · exact v6 j
          · rw [zup_nc _ _ (show ¬ (9 : Nat) = 7 by decide), zup_if]
            split
            · exact zz1 _ _
            · rw [zup_nc _ _ (show ¬ (9 : Nat) = 8 by decide)]
              exact v7 j
  have k77 : ∀ (u : Nat) (i g e m : Int) (s : zS), g = 2 + st 135 3 → e = g + st 135 8 → m = zat1 st e → 0 ≤ i → i ≤ st 135 8 → zsv s → zfr st s → (st 135 8 - i).toNat = u → K (rx_find rx_m271 77) [(0, .inr (.inr (.inl 5))), (1, .inr (.inr (.inl 1))), (2, .inr (.inr (.inl 135))), (3, .inl g), (4, .inl e), (5, .inl m), (6, .inl i)] [] s := by
    intro u
    induction u using Nat.strongRecOn with
    | _ u ih =>
      intro i g e m s eg ee em j0 j1 hsv hf hu
      refine zr1_ok (Rt := Q) (wc := wcT) (stp := [39, 77, 118]) (wcT_m hTb hA d) hcl 80 ?_
      show ((s 135 8 ≤ i → ((7 = 7 ∧ (0 : Int) = 0) ∧ (0 ≤ s 7 2 ∧ K (rx_find rx_m271 118) [(6, .inl 0), (0, .inr (.inr (.inl 5))), (1, .inr (.inr (.inl 1))), (2, .inr (.inr (.inl 135))), (3, .inl g), (4, .inl e), (5, .inl m)] [] (zup s 7 2 0)))) ∧ (¬ (s 135 8 ≤ i) → (1 = 1 ∧ s 1 1 ≤ 1600 ∧ ((0 ≤ i ∧ i < 8) ∧ K (rx_find rx_m271 77) [(6, .inl (zw (i + 1))), (0, .inr (.inr (.inl 5))), (1, .inr (.inr (.inl 1))), (2, .inr (.inr (.inl 135))), (3, .inl g), (4, .inl e), (5, .inl m)] [] (zup s 6 (i).toNat (zat1 s (zw (g + i))))))))
      subst eg
      subst ee
      subst em
      rw [f11 s hf, f8 s hf]
      refine ⟨fun c => ⟨⟨rfl, rfl⟩, hsv.2.2.1.1, hsl _ _ _ _ _ (by simp) (k118 _ 0 _ _ _ _ rfl rfl rfl (by omega) m0 (by rw [zup_eq]) ?_ (zfr_up hf 0 (Or.inr (Or.inr (Or.inl ⟨rfl, rfl⟩)))) rfl)⟩, fun c => ?_⟩
      · obtain ⟨⟨v1, v2, v3⟩, v4, v5, v6, v7⟩ := hsv
        exact ⟨⟨v1, v2, v3⟩, v4, by rw [zup_eq]; omega, v6, v7⟩
      · rw [show zw (i + 1) = i + 1 from zw_id (by unfold zsI; omega), show zw (2 + st 135 3 + i) = 2 + st 135 3 + i from zw_id (by unfold zsI; omega), zfr_at hf]
        have p1 := i4 (2 + st 135 3 + i) (by omega) (by omega)
        have p0 := nn (2 + st 135 3 + i) (by omega) (by omega)
        refine ⟨rfl, s16, ⟨by omega, by omega⟩, hsl _ _ _ _ _ (by simp) (ih _ (by omega) (i + 1) _ _ _ _ rfl rfl rfl (by omega) (by omega) ?_ (zfr_up hf _ (Or.inr (Or.inl rfl))) rfl)⟩
        obtain ⟨⟨v1, v2, v3⟩, v4, v5, v6, v7⟩ := hsv
        refine ⟨⟨v1, v2, v3⟩, fun j => ?_, v5, v6, v7⟩
        rw [zup_if]
        split
        · exact ⟨p0, by omega⟩
        · exact v4 j
  have k39 : ∀ (u : Nat) (i g e m : Int) (s : zS), g = 2 + st 135 3 → e = g + st 135 8 → m = zat1 st e → 0 ≤ i → i ≤ st 135 3 → zsv s → zfr st s → (st 135 3 - i).toNat = u → K (rx_find rx_m271 39) [(0, .inr (.inr (.inl 5))), (1, .inr (.inr (.inl 1))), (2, .inr (.inr (.inl 135))), (3, .inl g), (4, .inl e), (5, .inl m), (6, .inl i)] [] s := by
    intro u
    induction u using Nat.strongRecOn with
    | _ u ih =>
      intro i g e m s eg ee em j0 j1 hsv hf hu
      refine zr1_ok (Rt := Q) (wc := wcT) (stp := [39, 77, 118]) (wcT_m hTb hA d) hcl 80 ?_
      show ((s 135 3 ≤ i → K (rx_find rx_m271 77) [(6, .inl 0), (0, .inr (.inr (.inl 5))), (1, .inr (.inr (.inl 1))), (2, .inr (.inr (.inl 135))), (3, .inl g), (4, .inl e), (5, .inl m)] [] s) ∧ (¬ (s 135 3 ≤ i) → (1 = 1 ∧ s 1 1 ≤ 1600 ∧ K (rx_find rx_m271 39) [(6, .inl (zw (i + 1))), (0, .inr (.inr (.inl 5))), (1, .inr (.inr (.inl 1))), (2, .inr (.inr (.inl 135))), (3, .inl g), (4, .inl e), (5, .inl m)] [] (zup s 5 1 (zd (Nat.lor (zi (s 5 1)) (zi (zd ((zi (zat1 s (zw (2 + i))) * 2 ^ (zi i % 32)) % 4294967296)))))))))
      rw [f11 s hf, f3 s hf]
      refine ⟨fun c => hsl _ _ _ _ _ (by simp) (k77 _ 0 g e m s eg ee em (by omega) g8.1 hsv hf rfl), fun c => ?_⟩
      rw [show zw (i + 1) = i + 1 from zw_id (by unfold zsI; omega)]
      refine ⟨rfl, s16, hsl _ _ _ _ _ (by simp) (ih _ (by omega) (i + 1) g e m _ eg ee em (by omega) (by omega) ?_ (zfr_up hf _ (Or.inl ⟨rfl, Or.inr (Or.inl rfl)⟩)) rfl)⟩
      obtain ⟨⟨v1, v2, v3⟩, v4, v5, v6, v7⟩ := hsv
      exact ⟨⟨v1, by rw [zup_eq]; exact zd_ok (zlor _ _), v3⟩, v4, v5, v6, v7⟩
  refine zr1_ok (Rt := Q) (wc := wcT) (stp := [39, 77, 118]) (wcT_m hTb hA d) hcl 80 ?_
  show (1 = 1 ∧ st 1 1 ≤ 1600 ∧ (1 = 1 ∧ (gInv zgt st ∧ ∀ z1 : Int, zsI z1 → K (rx_find rx_m271 39) [(6, .inl 0), (5, .inl (zat1 st (zw ((zw (2 + (st 135 3))) + (st 135 8))))), (4, .inl (zw ((zw (2 + (st 135 3))) + (st 135 8)))), (3, .inl (zw (2 + (st 135 3)))), (0, .inr (.inr (.inl 5))), (1, .inr (.inr (.inl 1))), (2, .inr (.inr (.inl 135)))] [] (zup (zup st 5 0 z1) 5 1 0))))
  rw [show zw (2 + st 135 3) = 2 + st 135 3 from zw_id (by unfold zsI; omega), show zw (2 + st 135 3 + st 135 8) = 2 + st 135 3 + st 135 8 from zw_id (by unfold zsI; omega)]
  refine ⟨rfl, s16, rfl, hG, fun z1 hz => hsl _ _ _ _ _ (by simp) (k39 _ 0 _ _ _ _ rfl rfl rfl (by omega) g3.1 ?_ (zfr_up (zfr_up (fun _ _ _ _ _ _ _ => rfl) _ (Or.inl ⟨rfl, Or.inl rfl⟩)) _ (Or.inl ⟨rfl, Or.inr (Or.inl rfl)⟩)) rfl)⟩
  obtain ⟨⟨v1, v2, v3⟩, v4, v5, v6, v7⟩ := hv
  exact ⟨⟨hz, by show zsI 0; unfold zsI; omega, v3⟩, v4, v5, v6, v7⟩
end ON3
