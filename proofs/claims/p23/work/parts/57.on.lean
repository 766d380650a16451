/-! by hand: on -/
def wcO : zCall := fun nu as st Q => cond (Nat.beq nu 175) (match as with
  | [.inr (.inr (.inl a)), .inr (.inr (.inl b))] => (a = 1 ∧ (b = 122 ∨ b = 135)) ∧ (gInv zgt st ∧ (zimg b st → Q (some (.inl 1)) st) ∧ Q (some (.inl 0)) st)
  | _ => False) (cond (Nat.beq nu 271) (match as with
  | [.inr (.inr (.inl a)), .inr (.inr (.inl b)), .inr (.inr (.inl c))] => (a = 5 ∧ b = 1 ∧ (c = 122 ∨ c = 135)) ∧ ((gInv zgt st ∧ zsv st ∧ zimg c st) ∧ ∀ s1 : zS, zsv s1 → zfr st s1 → Q none s1)
  | _ => False) (cond (Nat.beq nu 146) (match as with
  | [.inr (.inr (.inl a))] => a = 10 ∧ Q none (zup st 10 5 0)
  | _ => False) (cond (Nat.beq nu 89) (match as with
  | [.inr (.inr (.inl a)), .inl k] => (a = 1 ∧ k = 0) ∧ (0 ≤ st 1 1 ∧ Q none (zup st 1 1 0))
  | _ => False) (cond (Nat.beq nu 61) (match as with
  | [.inr (.inr (.inl a)), .inl k] => a = 0 ∧ ((0 ≤ k ∧ k < 6) ∧ Q (some (.inl 0)) (zup st 121 k.toNat (zw (st 121 k.toNat + 1))))
  | _ => False) False))))
section ON4
variable {cl : Nat → zCall}
theorem c_fa (hTb : aTb zSh rx_tb cl) (d : Nat) {st : zS} {Q : zQ} (h1 : Q none (zup st 10 5 0)) : cl (d + 1) 146 [.inr (.inr (.inl 10))] st Q := by
  refine hTb d 146 (rx_m146, 1, 0, 0, 0) rfl _ _ _ (Nat.le_of_ble_eq_true rfl) (fun K hcl hsf hsl => ?_)
  refine zr1_ok (Rt := Q) (wc := zno) (stp := []) zno_m hcl 40 ?_
  show Q none (zup st 10 5 0)
  exact h1
theorem c_deny (hTb : aTb zSh rx_tb cl) (d : Nat) {k : Int} {st : zS} {Q : zQ} (h0 : 0 ≤ k ∧ k < 6) (h1 : Q (some (.inl 0)) (zup st 121 k.toNat (zw (st 121 k.toNat + 1)))) : cl (d + 1) 61 [.inr (.inr (.inl 0)), .inl k] st Q := by
  refine hTb d 61 (rx_m61, 2, 0, 0, 2) rfl _ _ _ (Nat.le_of_ble_eq_true rfl) (fun K hcl hsf hsl => ?_)
  refine zr1_ok (Rt := Q) (wc := zno) (stp := []) zno_m hcl 40 ?_
  show ((0 ≤ k ∧ k < 6) ∧ ((0 ≤ k ∧ k < 6) ∧ ((0 = (0 : Int) ∨ 0 = (1 : Int)) ∧ Q (some (.inl 0)) (zup st 121 (k).toNat (zw ((st 121 (k).toNat) + 1))))))
  exact ⟨h0, h0, Or.inl rfl, h1⟩
theorem wcO_m (hTb : aTb zSh rx_tb cl) (hA : zAll cl) (d : Nat) : ∀ nu as st (Q Q' : zQ), (∀ r st', Q r st' → Q' r st') → wcO nu as st Q → cl (d + 6) nu as st Q' := by
  intro nu as st Q Q' hQ h
  unfold wcO at h
  cases c1 : Nat.beq nu 175 with
  | true =>
    rw [c1] at h
    have c := rx_bq c1
    subst c
    dsimp only [cond_true] at h
    split at h
    · obtain ⟨⟨rfl, rfl | rfl⟩, h1, h2, h3⟩ := h
      · exact c_img1 hTb hA d h1 (fun a => hQ _ _ (h2 a)) (hQ _ _ h3)
      · exact c_img2 hTb hA d h1 (fun a => hQ _ _ (h2 a)) (hQ _ _ h3)
    · exact h.elim
  | false =>
  rw [c1] at h
  dsimp only [cond_false] at h
  cases c2 : Nat.beq nu 271 with
  | true =>
    rw [c2] at h
    have c := rx_bq c2
    subst c
    dsimp only [cond_true] at h
    split at h
    · obtain ⟨⟨rfl, rfl, rfl | rfl⟩, ⟨h1, h2, h3⟩, h4⟩ := h
      · exact c_tk1 hTb hA (d + 1) h1 h2 h3 (fun s a b => hQ _ _ (h4 s a b))
      · exact c_tk2 hTb hA (d + 1) h1 h2 h3 (fun s a b => hQ _ _ (h4 s a b))
    · exact h.elim
  | false =>
  rw [c2] at h
  dsimp only [cond_false] at h
  cases c3 : Nat.beq nu 146 with
  | true =>
    rw [c3] at h
    have c := rx_bq c3
    subst c
    dsimp only [cond_true] at h
    split at h
    · obtain ⟨rfl, h1⟩ := h
      exact c_fa hTb (d + 5) (hQ _ _ h1)
    · exact h.elim
  | false =>
  rw [c3] at h
  dsimp only [cond_false] at h
  cases c4 : Nat.beq nu 89 with
  | true =>
    rw [c4] at h
    have c := rx_bq c4
    subst c
    dsimp only [cond_true] at h
    split at h
    · obtain ⟨⟨rfl, rfl⟩, h1, h2⟩ := h
      exact c_cut0 hTb (d + 5) h1 (hQ _ _ h2)
    · exact h.elim
  | false =>
  rw [c4] at h
  dsimp only [cond_false] at h
  cases c5 : Nat.beq nu 61 with
  | true =>
    rw [c5] at h
    have c := rx_bq c5
    subst c
    dsimp only [cond_true] at h
    split at h
    · obtain ⟨rfl, h1, h2⟩ := h
      exact c_deny hTb (d + 5) h1 (hQ _ _ h2)
    · exact h.elim
  | false => rw [c5] at h; exact h.elim
theorem gr7 {st : zS} (hG : gInv zgt st) : 0 ≤ st 7 2 ∧ st 7 2 ≤ 30 := by
  obtain ⟨b, hb, hz⟩ := (show ∃ b ∈ ([(Int.ofNat 0, Int.ofNat 30)] : List aB), b.1 ≤ st 7 2 ∧ st 7 2 ≤ b.2 from hG 7 2)
  rcases List.mem_singleton.mp hb with rfl
  exact hz
theorem gI1 {st : zS} {c f : Nat} (h : ∃ b ∈ ([(.negSucc 2147483647, .ofNat 2147483647)] : List aB), b.1 ≤ st c f ∧ st c f ≤ b.2) : zsI (st c f) := by
  obtain ⟨b, hb, hz⟩ := h
  rcases List.mem_singleton.mp hb with rfl
  exact hz
theorem gsv {st : zS} (hG : gInv zgt st) : zsv st := ⟨⟨gI1 (hG 5 0), gI1 (hG 5 1), gI1 (hG 5 4)⟩, fun i => hG 6 i, gr7 hG, fun i => hG 8 i, fun i => hG 9 i⟩
theorem gsv_inv {st s : zS} (hG : gInv zgt st) (hv : zsv s) (hf : zfr st s) : gInv zgt s := by
  obtain ⟨⟨v1, v2, v3⟩, v4, v5, v6, v7⟩ := hv
  intro c i
  by_cases c1 : c = 5 ∧ (i = 0 ∨ i = 1 ∨ i = 4)
  · obtain ⟨rfl, rfl | rfl | rfl⟩ := c1
    · exact ⟨_, List.mem_singleton.mpr rfl, v1.1, v1.2⟩
    · exact ⟨_, List.mem_singleton.mpr rfl, v2.1, v2.2⟩
    · exact ⟨_, List.mem_singleton.mpr rfl, v3.1, v3.2⟩
  · by_cases c2 : c = 6
    · subst c2; exact v4 i
    · by_cases c3 : c = 7 ∧ i = 2
      · obtain ⟨rfl, rfl⟩ := c3
        exact ⟨_, List.mem_singleton.mpr rfl, v5.1, v5.2⟩
      · by_cases c4 : c = 8
        · subst c4; exact v6 i
        · by_cases c5 : c = 9
          · subst c5; exact v7 i
          · rw [hf c i c1 c2 c3 c4 c5]
            exact hG c i
def zu_on : aS := ([.inr (.inr 0)], ([(1, 1), (5, 0), (5, 1), (5, 4), (7, 2), (10, 5)], [6, 8, 9, 121]), some (.inl (0, 1)), (8, 0, 0))
set_option maxRecDepth 100000 in
theorem s_on2 (hTb : aTb zSh rx_tb cl) (hA : zAll cl) (D : Nat) : aSz zgt cl D 174 zu_on := by
  intro asz st hm hG hnd Q hQ
  have hD : (8 : Int) ≤ (D : Int) := hnd.1 rfl
  obtain ⟨d, rfl⟩ : ∃ d, D = d + 7 := ⟨D - 7, by omega⟩
  cases asz with
  | nil => exact absurd hm id
  | cons u t =>
    cases t with
    | cons u2 t2 => exact absurd hm.2 id
    | nil =>
      rcases u with z | (z | (o | j))
      · exact absurd hm.1 id
      · exact absurd hm.1 id
      · have e0 : 0 = o := hm.1
        subst e0
        refine hTb (d + 6) 174 (rx_m174, 2, 0, 0, 2) rfl _ _ _ (Nat.le_of_ble_eq_true rfl) (fun K hcl hsf hsl => ?_)
        have t1 := gtape hG
        have g8 : st 0 8 = 122 ∨ st 0 8 = 135 := by
          obtain ⟨b, hb, hz⟩ := (show ∃ b ∈ ([(Int.ofNat 122, Int.ofNat 122), (Int.ofNat 135, Int.ofNat 135)] : List aB), b.1 ≤ st 0 8 ∧ st 0 8 ≤ b.2 from hG 0 8)
          rcases List.mem_cons.mp hb with rfl | hb
          · exact Or.inl (by have h1 : (122 : Int) ≤ st 0 8 := hz.1; have h2 : st 0 8 ≤ (122 : Int) := hz.2; omega)
          · rcases List.mem_singleton.mp hb with rfl
            exact Or.inr (by have h1 : (135 : Int) ≤ st 0 8 := hz.1; have h2 : st 0 8 ≤ (135 : Int) := hz.2; omega)
        have b16 : gok zgt 1 1 0 := ⟨(Int.ofNat 0, Int.ofNat 1600), List.mem_singleton.mpr rfl, by decide, by decide⟩
        have fin0 : Q (some (.inl 0)) (zup (zup st 1 1 0) 121 (5 : Int).toNat (zw (st 121 (5 : Int).toNat + 1))) := by
          refine hQ _ _ (gInv_up (gInv_up hG b16) (zw_ok _)) (aFr_arr (o := 121) (aFr_put (fun _ _ _ _ => rfl) (o := 1) (b := 1) rfl 0) rfl (fun c i hc => zup_nc _ _ hc)) ?_ rfl
          exact ⟨by decide, by decide⟩
        have fin1 : ∀ s : zS, zsv s → zfr st s → Q (some (.inl 1)) (zup (zup s 10 5 0) 1 1 0) := by
          intro s q1 q2
          refine hQ _ _ (gInv_up (gInv_up (gsv_inv hG q1 q2) ⟨(Int.ofNat 0, Int.ofNat 20), List.mem_singleton.mpr rfl, by decide, by decide⟩) b16) ?_ ⟨by decide, by decide⟩ rfl
          intro c i h1 h2
          have e1 : ¬ (c = 1 ∧ i = 1) := fun q => by rw [q.1, q.2] at h1; cases h1
          have e2 : ¬ (c = 10 ∧ i = 5) := fun q => by rw [q.1, q.2] at h1; cases h1
          rw [zup_ne _ _ e1, zup_ne _ _ e2]
          refine q2 c i (fun q => ?_) (fun q => by rw [q] at h2; cases h2) (fun q => by rw [q.1, q.2] at h1; cases h1) (fun q => by rw [q] at h2; cases h2) (fun q => by rw [q] at h2; cases h2)
          obtain ⟨rfl, rfl | rfl | rfl⟩ := q <;> cases h1
        have s11 : ∀ s : zS, zfr st s → s 1 1 = st 1 1 := fun s q => q 1 1 (by omega) (by omega) (by omega) (by omega) (by omega)
        refine zr1_ok (Rt := Q) (wc := zno) (stp := [8]) zno_m hcl 20 ?_
        show K (rx_find rx_m174 8) [(0, .inr (.inr (.inl 0)))] [.inr (.inr (.inl (st 0 8).toNat)), .inr (.inr (.inl 1))] st
        rcases g8 with g8 | g8
        · rw [g8]
          refine zr1_ok (Rt := Q) (wc := wcO) (stp := [28]) (wcO_m hTb hA d) hcl 60 ?_
          show ((1 = 1 ∧ (122 = 122 ∨ 122 = 135)) ∧ (gInv zgt st ∧ (zimg 122 st → (((1 : Int) = 0 → ((1 = 1 ∧ (0 : Int) = 0) ∧ (0 ≤ st 1 1 ∧ ((¬ (1 : Int) = 0 → ((1 = (0 : Int) ∨ 1 = (1 : Int)) ∧ Q (some (.inl 1)) (zup st 1 1 0))) ∧ (¬ (¬ (1 : Int) = 0) → (0 = 0 ∧ ((0 ≤ (5 : Int) ∧ (5 : Int) < 6) ∧ (((0 : Int) = 0 → ((0 = (0 : Int) ∨ 0 = (1 : Int)) ∧ Q (some (.inl 0)) (zup (zup st 1 1 0) 121 (5 : Int).toNat (zw (st 121 (5 : Int).toNat + 1))))) ∧ (¬ ((0 : Int) = 0) → ((1 = (0 : Int) ∨ 1 = (1 : Int)) ∧ Q (some (.inl 1)) (zup (zup st 1 1 0) 121 (5 : Int).toNat (zw (st 121 (5 : Int).toNat + 1))))))))))))) ∧ (¬ ((1 : Int) = 0) → K (rx_find rx_m174 28) [(1, .inl 1), (0, .inr (.inr (.inl 0)))] [.inr (.inr (.inl (st 0 8).toNat)), .inr (.inr (.inl 1)), .inr (.inr (.inl 5))] st))) ∧ (((0 : Int) = 0 → ((1 = 1 ∧ (0 : Int) = 0) ∧ (0 ≤ st 1 1 ∧ ((¬ (0 : Int) = 0 → ((1 = (0 : Int) ∨ 1 = (1 : Int)) ∧ Q (some (.inl 1)) (zup st 1 1 0))) ∧ (¬ (¬ (0 : Int) = 0) → (0 = 0 ∧ ((0 ≤ (5 : Int) ∧ (5 : Int) < 6) ∧ (((0 : Int) = 0 → ((0 = (0 : Int) ∨ 0 = (1 : Int)) ∧ Q (some (.inl 0)) (zup (zup st 1 1 0) 121 (5 : Int).toNat (zw (st 121 (5 : Int).toNat + 1))))) ∧ (¬ ((0 : Int) = 0) → ((1 = (0 : Int) ∨ 1 = (1 : Int)) ∧ Q (some (.inl 1)) (zup (zup st 1 1 0) 121 (5 : Int).toNat (zw (st 121 (5 : Int).toNat + 1))))))))))))) ∧ (¬ ((0 : Int) = 0) → K (rx_find rx_m174 28) [(1, .inl 0), (0, .inr (.inr (.inl 0)))] [.inr (.inr (.inl (st 0 8).toNat)), .inr (.inr (.inl 1)), .inr (.inr (.inl 5))] st))))
          refine ⟨⟨rfl, Or.inl rfl⟩, hG, fun hi => ⟨fun q => absurd q (by decide), fun _ => ?_⟩, fun _ => ⟨⟨rfl, rfl⟩, t1.1, fun q => absurd rfl q, fun _ => ⟨rfl, (by decide), fun _ => ⟨Or.inl rfl, fin0⟩, fun q => absurd rfl q⟩⟩, fun q => absurd rfl q⟩
          rw [g8]
          refine zr1_ok (Rt := Q) (wc := wcO) (stp := []) (wcO_m hTb hA d) hcl 60 ?_
          show ((5 = 5 ∧ 1 = 1 ∧ (122 = 122 ∨ 122 = 135)) ∧ ((gInv zgt st ∧ zsv st ∧ zimg 122 st) ∧ ∀ s1 : zS, zsv s1 → zfr st s1 → (10 = 10 ∧ ((1 = 1 ∧ (0 : Int) = 0) ∧ (0 ≤ s1 1 1 ∧ ((¬ (1 : Int) = 0 → ((1 = (0 : Int) ∨ 1 = (1 : Int)) ∧ Q (some (.inl 1)) (zup (zup s1 10 5 0) 1 1 0))) ∧ (¬ (¬ (1 : Int) = 0) → (0 = 0 ∧ ((0 ≤ (5 : Int) ∧ (5 : Int) < 6) ∧ (((0 : Int) = 0 → ((0 = (0 : Int) ∨ 0 = (1 : Int)) ∧ Q (some (.inl 0)) (zup (zup (zup s1 10 5 0) 1 1 0) 121 (5 : Int).toNat (zw (s1 121 (5 : Int).toNat + 1))))) ∧ (¬ ((0 : Int) = 0) → ((1 = (0 : Int) ∨ 1 = (1 : Int)) ∧ Q (some (.inl 1)) (zup (zup (zup s1 10 5 0) 1 1 0) 121 (5 : Int).toNat (zw (s1 121 (5 : Int).toNat + 1)))))))))))))))
          exact ⟨⟨rfl, rfl, Or.inl rfl⟩, ⟨hG, gsv hG, hi⟩, fun s1 q1 q2 => ⟨rfl, ⟨rfl, rfl⟩, (by rw [s11 s1 q2]; exact t1.1), fun _ => ⟨Or.inr rfl, fin1 s1 q1 q2⟩, fun q => absurd (by decide) q⟩⟩
        · rw [g8]
          refine zr1_ok (Rt := Q) (wc := wcO) (stp := [28]) (wcO_m hTb hA d) hcl 60 ?_
          show ((1 = 1 ∧ (135 = 122 ∨ 135 = 135)) ∧ (gInv zgt st ∧ (zimg 135 st → (((1 : Int) = 0 → ((1 = 1 ∧ (0 : Int) = 0) ∧ (0 ≤ st 1 1 ∧ ((¬ (1 : Int) = 0 → ((1 = (0 : Int) ∨ 1 = (1 : Int)) ∧ Q (some (.inl 1)) (zup st 1 1 0))) ∧ (¬ (¬ (1 : Int) = 0) → (0 = 0 ∧ ((0 ≤ (5 : Int) ∧ (5 : Int) < 6) ∧ (((0 : Int) = 0 → ((0 = (0 : Int) ∨ 0 = (1 : Int)) ∧ Q (some (.inl 0)) (zup (zup st 1 1 0) 121 (5 : Int).toNat (zw (st 121 (5 : Int).toNat + 1))))) ∧ (¬ ((0 : Int) = 0) → ((1 = (0 : Int) ∨ 1 = (1 : Int)) ∧ Q (some (.inl 1)) (zup (zup st 1 1 0) 121 (5 : Int).toNat (zw (st 121 (5 : Int).toNat + 1))))))))))))) ∧ (¬ ((1 : Int) = 0) → K (rx_find rx_m174 28) [(1, .inl 1), (0, .inr (.inr (.inl 0)))] [.inr (.inr (.inl (st 0 8).toNat)), .inr (.inr (.inl 1)), .inr (.inr (.inl 5))] st))) ∧ (((0 : Int) = 0 → ((1 = 1 ∧ (0 : Int) = 0) ∧ (0 ≤ st 1 1 ∧ ((¬ (0 : Int) = 0 → ((1 = (0 : Int) ∨ 1 = (1 : Int)) ∧ Q (some (.inl 1)) (zup st 1 1 0))) ∧ (¬ (¬ (0 : Int) = 0) → (0 = 0 ∧ ((0 ≤ (5 : Int) ∧ (5 : Int) < 6) ∧ (((0 : Int) = 0 → ((0 = (0 : Int) ∨ 0 = (1 : Int)) ∧ Q (some (.inl 0)) (zup (zup st 1 1 0) 121 (5 : Int).toNat (zw (st 121 (5 : Int).toNat + 1))))) ∧ (¬ ((0 : Int) = 0) → ((1 = (0 : Int) ∨ 1 = (1 : Int)) ∧ Q (some (.inl 1)) (zup (zup st 1 1 0) 121 (5 : Int).toNat (zw (st 121 (5 : Int).toNat + 1))))))))))))) ∧ (¬ ((0 : Int) = 0) → K (rx_find rx_m174 28) [(1, .inl 0), (0, .inr (.inr (.inl 0)))] [.inr (.inr (.inl (st 0 8).toNat)), .inr (.inr (.inl 1)), .inr (.inr (.inl 5))] st))))
          refine ⟨⟨rfl, Or.inr rfl⟩, hG, fun hi => ⟨fun q => absurd q (by decide), fun _ => ?_⟩, fun _ => ⟨⟨rfl, rfl⟩, t1.1, fun q => absurd rfl q, fun _ => ⟨rfl, (by decide), fun _ => ⟨Or.inl rfl, fin0⟩, fun q => absurd rfl q⟩⟩, fun q => absurd rfl q⟩
          rw [g8]
          refine zr1_ok (Rt := Q) (wc := wcO) (stp := []) (wcO_m hTb hA d) hcl 60 ?_
          show ((5 = 5 ∧ 1 = 1 ∧ (135 = 122 ∨ 135 = 135)) ∧ ((gInv zgt st ∧ zsv st ∧ zimg 135 st) ∧ ∀ s1 : zS, zsv s1 → zfr st s1 → (10 = 10 ∧ ((1 = 1 ∧ (0 : Int) = 0) ∧ (0 ≤ s1 1 1 ∧ ((¬ (1 : Int) = 0 → ((1 = (0 : Int) ∨ 1 = (1 : Int)) ∧ Q (some (.inl 1)) (zup (zup s1 10 5 0) 1 1 0))) ∧ (¬ (¬ (1 : Int) = 0) → (0 = 0 ∧ ((0 ≤ (5 : Int) ∧ (5 : Int) < 6) ∧ (((0 : Int) = 0 → ((0 = (0 : Int) ∨ 0 = (1 : Int)) ∧ Q (some (.inl 0)) (zup (zup (zup s1 10 5 0) 1 1 0) 121 (5 : Int).toNat (zw (s1 121 (5 : Int).toNat + 1))))) ∧ (¬ ((0 : Int) = 0) → ((1 = (0 : Int) ∨ 1 = (1 : Int)) ∧ Q (some (.inl 1)) (zup (zup (zup s1 10 5 0) 1 1 0) 121 (5 : Int).toNat (zw (s1 121 (5 : Int).toNat + 1)))))))))))))))
          exact ⟨⟨rfl, rfl, Or.inr rfl⟩, ⟨hG, gsv hG, hi⟩, fun s1 q1 q2 => ⟨rfl, ⟨rfl, rfl⟩, (by rw [s11 s1 q2]; exact t1.1), fun _ => ⟨Or.inr rfl, fin1 s1 q1 q2⟩, fun q => absurd (by decide) q⟩⟩
      · exact absurd hm.1 id
theorem s_on (hTb : aTb zSh rx_tb cl) (hA : zAll cl) (D : Nat) : aSp zgt cl D 174 zu_on := fun asz st h1 h2 h3 Q hQ => s_on2 hTb hA D asz st h1 h2 h3 Q (fun rz st' a b c _ => hQ rz st' a b c)
end ON4
