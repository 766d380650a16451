/-! by hand: half -/
theorem gInv_up {gt : aG} {st : zS} {c i : Nat} {z : Int} (h : gInv gt st) (hz : gok gt c i z) : gInv gt (zup st c i z) := by
  intro c' i'
  rw [zup_if]
  split
  · rename_i e
    rw [e.1, e.2]
    exact hz
  · exact h c' i'
def ztk (st : zS) : Prop := zfit st ∧ (∀ i, 0 ≤ st 116 i ∧ st 116 i ≤ 19) ∧ (∀ i, zsI (st 117 i))
def ztq (st s : zS) : Prop := (0 ≤ s 115 5 ∧ s 115 5 ≤ 20) ∧ (∀ i, 0 ≤ s 116 i ∧ s 116 i ≤ 19) ∧ (∀ i, zsI (s 117 i)) ∧ (∀ c i, ¬ (c = 115 ∧ i = 5) → ¬ c = 116 → ¬ c = 117 → s c i = st c i)
def wcH : zCall := fun nu as st Q => cond (Nat.beq nu 162) (match as with
  | [.inr (.inr (.inl a)), .inr (.inr (.inl b)), .inl _] => (a = 115 ∧ b = 1) ∧ ((0 ≤ st 1 1 ∧ st 1 1 ≤ 1600) ∧ (zfit st → Q (some (.inl 1)) st) ∧ Q (some (.inl 0)) st)
  | _ => False) (cond (Nat.beq nu 224) (match as with
  | [.inr (.inr (.inl a)), .inr (.inr (.inl b))] => (a = 115 ∧ b = 1) ∧ (ztk st ∧ ∀ s : zS, ztq st s → Q none s)
  | _ => False) (cond (Nat.beq nu 89) (match as with
  | [.inr (.inr (.inl a)), .inl k] => (a = 1 ∧ k = 0) ∧ (0 ≤ st 1 1 ∧ Q none (zup st 1 1 0))
  | _ => False) (cond (Nat.beq nu 163) (match as with
  | [.inr (.inr (.inl a)), .inl k] => a = 0 ∧ ((0 ≤ k ∧ k < 6) ∧ Q (some (.inl (-1))) (zup st 121 k.toNat (zw (st 121 k.toNat + 1))))
  | _ => False) False)))
section HALF2
variable {cl : Nat → zCall}
theorem wcH_m (hTb : aTb zSh rx_tb cl) (d : Nat) : ∀ nu as st (Q Q' : zQ), (∀ r st', Q r st' → Q' r st') → wcH nu as st Q → cl (d + 2) nu as st Q' := by
  intro nu as st Q Q' hQ h
  unfold wcH at h
  cases c1 : Nat.beq nu 162 with
  | true =>
    rw [c1] at h
    have c := rx_bq c1
    subst c
    dsimp only [cond_true] at h
    split at h
    · obtain ⟨⟨rfl, rfl⟩, h1, h2, h3⟩ := h
      exact c_fits hTb d h1 (fun a => hQ _ _ (h2 a)) (hQ _ _ h3)
    · exact h.elim
  | false =>
    rw [c1] at h
    dsimp only [cond_false] at h
    cases c2 : Nat.beq nu 224 with
    | true =>
      rw [c2] at h
      have c := rx_bq c2
      subst c
      dsimp only [cond_true] at h
      split at h
      · obtain ⟨⟨rfl, rfl⟩, ⟨h1, h2, h3⟩, h4⟩ := h
        exact c_take hTb d h1 h2 h3 (fun s a b c e => hQ _ _ (h4 s ⟨a, b, c, e⟩))
      · exact h.elim
    | false =>
      rw [c2] at h
      dsimp only [cond_false] at h
      cases c3 : Nat.beq nu 89 with
      | true =>
        rw [c3] at h
        have c := rx_bq c3
        subst c
        dsimp only [cond_true] at h
        split at h
        · obtain ⟨⟨rfl, rfl⟩, h1, h2⟩ := h
          exact c_cut0 hTb (d + 1) h1 (hQ _ _ h2)
        · exact h.elim
      | false =>
        rw [c3] at h
        dsimp only [cond_false] at h
        cases c4 : Nat.beq nu 163 with
        | true =>
          rw [c4] at h
          have c := rx_bq c4
          subst c
          dsimp only [cond_true] at h
          split at h
          · obtain ⟨rfl, h1, h2⟩ := h
            exact c_refuse hTb (d + 1) h1 (hQ _ _ h2)
          · exact h.elim
        | false => rw [c4] at h; exact h.elim
/-- as aSp, and the tape is empty behind it -/
def aSz (gt : aG) (cl : Nat → zCall) (d nu : Nat) (s : aS) : Prop := ∀ (asz : List zV) (st : zS), aTs s.1 asz → gInv gt st → aNd s asz (d : Int) → ∀ Q : zQ, (∀ rz st', gInv gt st' → aFr s.2.1 st st' → aRz s.2.2.1 rz → st' 1 1 = 0 → Q rz st') → cl d nu asz st Q
def zu_half : aS := ([.inr (.inr 0)], ([(1, 1), (115, 5)], [116, 117, 121]), some (.inl (-1, 20)), (4, 0, 0))
set_option maxRecDepth 100000 in
theorem s_half2 (hTb : aTb zSh rx_tb cl) (D : Nat) : aSz zgt cl D 161 zu_half := by
  intro asz st hm hG hnd Q hQ
  have hD : (4 : Int) ≤ (D : Int) := hnd.1 rfl
  obtain ⟨d, rfl⟩ : ∃ d, D = d + 3 := ⟨D - 3, by omega⟩
  cases asz with
  | nil => exact absurd hm id
  | cons u t =>
    cases t with
    | cons u2 t2 => exact absurd hm.2 id
    | nil =>
      rcases u with z | (z | (o | j))
      · exact absurd hm.1 id
      · exact absurd hm.1 id
      · have e0 : 0 = o := hm.1
        subst e0
        refine hTb (d + 2) 161 (rx_m161, 2, 0, 0, 1) rfl _ _ _ (Nat.le_of_ble_eq_true rfl) (fun K hcl hsf hsl => ?_)
        have g11 : 0 ≤ st 1 1 ∧ st 1 1 ≤ 1600 := by
          obtain ⟨b, hb, hz⟩ := (show ∃ b ∈ ([(Int.ofNat 0, Int.ofNat 1600)] : List aB), b.1 ≤ st 1 1 ∧ st 1 1 ≤ b.2 from hG 1 1)
          rcases List.mem_singleton.mp hb with rfl
          exact hz
        have g116 : ∀ i, 0 ≤ st 116 i ∧ st 116 i ≤ 19 := fun i => hG 116 i
        have g117 : ∀ i, zsI (st 117 i) := fun i => hG 117 i
        have g8 : st 0 8 = 122 ∨ st 0 8 = 135 := by
          obtain ⟨b, hb, hz⟩ := (show ∃ b ∈ ([(Int.ofNat 122, Int.ofNat 122), (Int.ofNat 135, Int.ofNat 135)] : List aB), b.1 ≤ st 0 8 ∧ st 0 8 ≤ b.2 from hG 0 8)
          rcases List.mem_cons.mp hb with rfl | hb
          · exact Or.inl (by have h1 : (122 : Int) ≤ st 0 8 := hz.1; have h2 : st 0 8 ≤ (122 : Int) := hz.2; omega)
          · rcases List.mem_singleton.mp hb with rfl
            exact Or.inr (by have h1 : (135 : Int) ≤ st 0 8 := hz.1; have h2 : st 0 8 ≤ (135 : Int) := hz.2; omega)
        have fin0 : Q (some (.inl (-1))) (zup (zup st 1 1 0) 121 (5 : Int).toNat (zw (st 121 (5 : Int).toNat + 1))) := by
          refine hQ _ _ (gInv_up (gInv_up hG ?_) (zw_ok _)) (aFr_arr (o := 121) (aFr_put (fun _ _ _ _ => rfl) (o := 1) (b := 1) rfl 0) rfl (fun c i hc => zup_nc _ _ hc)) ?_ rfl
          · exact ⟨(Int.ofNat 0, Int.ofNat 1600), List.mem_singleton.mpr rfl, by decide, by decide⟩
          · exact ⟨by decide, by decide⟩
        have fin1 : ∀ s : zS, ztq st s → Q (some (.inl (s 115 5))) (zup s 1 1 0) := by
          intro s ⟨q1, q2, q3, q4⟩
          have hs : gInv zgt s := by
            intro c i
            by_cases c1 : c = 115 ∧ i = 5
            · obtain ⟨rfl, rfl⟩ := c1
              exact ⟨(Int.ofNat 0, Int.ofNat 20), List.mem_singleton.mpr rfl, q1.1, q1.2⟩
            · by_cases c2 : c = 116
              · subst c2
                exact q2 i
              · by_cases c3 : c = 117
                · subst c3
                  exact q3 i
                · rw [q4 c i c1 c2 c3]
                  exact hG c i
          refine hQ _ _ (gInv_up hs ⟨(Int.ofNat 0, Int.ofNat 1600), List.mem_singleton.mpr rfl, by decide, by decide⟩) ?_ ⟨by show (-1 : Int) ≤ s 115 5; omega, q1.2⟩ rfl
          intro c i h1 h2
          have e1 : ¬ (c = 1 ∧ i = 1) := fun q => by rw [q.1, q.2] at h1; cases h1
          have e2 : ¬ (c = 115 ∧ i = 5) := fun q => by rw [q.1, q.2] at h1; cases h1
          have e3 : ¬ c = 116 := fun q => by rw [q] at h2; cases h2
          have e4 : ¬ c = 117 := fun q => by rw [q] at h2; cases h2
          rw [zup_ne _ _ e1]
          exact q4 c i e2 e3 e4
        have s11 : ∀ s : zS, ztq st s → s 1 1 = st 1 1 := fun s q => q.2.2.2 1 1 (by omega) (by omega) (by omega)
        refine zr1_ok (Rt := Q) (wc := zno) (stp := [12]) zno_m hcl 20 ?_
        show K (rx_find rx_m161 12) [(0, .inr (.inr (.inl 0)))] [.inr (.inr (.inl (st 0 8).toNat)), .inr (.inr (.inl 1)), .inr (.inr (.inl 115))] st
        rcases g8 with g8 | g8
        · rw [g8]
          refine zr1_ok (Rt := Q) (wc := wcH) (stp := []) (wcH_m hTb d) hcl 60 ?_
          show ((115 = 115 ∧ 1 = 1) ∧ ((0 ≤ st 1 1 ∧ st 1 1 ≤ 1600) ∧ (zfit st → (((1 : Int) = 0 → ((1 = 1 ∧ (0 : Int) = 0) ∧ (0 ≤ st 1 1 ∧ (((1 : Int) = 0 → (0 = 0 ∧ ((0 ≤ (5 : Int) ∧ (5 : Int) < 6) ∧ Q (some (.inl (-1))) (zup (zup st 1 1 0) 121 (5 : Int).toNat (zw (st 121 (5 : Int).toNat + 1)))))) ∧ (¬ ((1 : Int) = 0) → Q (some (.inl (st 115 5))) (zup st 1 1 0)))))) ∧ (¬ ((1 : Int) = 0) → ((115 = 115 ∧ 1 = 1) ∧ (ztk st ∧ ∀ s1 : zS, ztq st s1 → ((1 = 1 ∧ (0 : Int) = 0) ∧ (0 ≤ s1 1 1 ∧ (((1 : Int) = 0 → (0 = 0 ∧ ((0 ≤ (5 : Int) ∧ (5 : Int) < 6) ∧ Q (some (.inl (-1))) (zup (zup s1 1 1 0) 121 (5 : Int).toNat (zw (s1 121 (5 : Int).toNat + 1)))))) ∧ (¬ ((1 : Int) = 0) → Q (some (.inl (s1 115 5))) (zup s1 1 1 0)))))))))) ∧ (((0 : Int) = 0 → ((1 = 1 ∧ (0 : Int) = 0) ∧ (0 ≤ st 1 1 ∧ (((0 : Int) = 0 → (0 = 0 ∧ ((0 ≤ (5 : Int) ∧ (5 : Int) < 6) ∧ Q (some (.inl (-1))) (zup (zup st 1 1 0) 121 (5 : Int).toNat (zw (st 121 (5 : Int).toNat + 1)))))) ∧ (¬ ((0 : Int) = 0) → Q (some (.inl (st 115 5))) (zup st 1 1 0)))))) ∧ (¬ ((0 : Int) = 0) → ((115 = 115 ∧ 1 = 1) ∧ (ztk st ∧ ∀ s2 : zS, ztq st s2 → ((1 = 1 ∧ (0 : Int) = 0) ∧ (0 ≤ s2 1 1 ∧ (((0 : Int) = 0 → (0 = 0 ∧ ((0 ≤ (5 : Int) ∧ (5 : Int) < 6) ∧ Q (some (.inl (-1))) (zup (zup s2 1 1 0) 121 (5 : Int).toNat (zw (s2 121 (5 : Int).toNat + 1)))))) ∧ (¬ ((0 : Int) = 0) → Q (some (.inl (s2 115 5))) (zup s2 1 1 0)))))))))))
          exact ⟨⟨rfl, rfl⟩, g11, fun hf => ⟨fun q => absurd q (by decide), fun _ => ⟨⟨rfl, rfl⟩, ⟨hf, g116, g117⟩, fun s1 hq => ⟨⟨rfl, rfl⟩, (by rw [s11 s1 hq]; exact g11.1), fun q => absurd q (by decide), fun _ => fin1 s1 hq⟩⟩⟩, fun _ => ⟨⟨rfl, rfl⟩, g11.1, fun _ => ⟨rfl, (by decide), fin0⟩, fun q => absurd rfl q⟩, fun q => absurd rfl q⟩
        · rw [g8]
          refine zr1_ok (Rt := Q) (wc := wcH) (stp := []) (wcH_m hTb d) hcl 60 ?_
          show ((115 = 115 ∧ 1 = 1) ∧ ((0 ≤ st 1 1 ∧ st 1 1 ≤ 1600) ∧ (zfit st → (((1 : Int) = 0 → ((1 = 1 ∧ (0 : Int) = 0) ∧ (0 ≤ st 1 1 ∧ (((1 : Int) = 0 → (0 = 0 ∧ ((0 ≤ (5 : Int) ∧ (5 : Int) < 6) ∧ Q (some (.inl (-1))) (zup (zup st 1 1 0) 121 (5 : Int).toNat (zw (st 121 (5 : Int).toNat + 1)))))) ∧ (¬ ((1 : Int) = 0) → Q (some (.inl (st 115 5))) (zup st 1 1 0)))))) ∧ (¬ ((1 : Int) = 0) → ((115 = 115 ∧ 1 = 1) ∧ (ztk st ∧ ∀ s1 : zS, ztq st s1 → ((1 = 1 ∧ (0 : Int) = 0) ∧ (0 ≤ s1 1 1 ∧ (((1 : Int) = 0 → (0 = 0 ∧ ((0 ≤ (5 : Int) ∧ (5 : Int) < 6) ∧ Q (some (.inl (-1))) (zup (zup s1 1 1 0) 121 (5 : Int).toNat (zw (s1 121 (5 : Int).toNat + 1)))))) ∧ (¬ ((1 : Int) = 0) → Q (some (.inl (s1 115 5))) (zup s1 1 1 0)))))))))) ∧ (((0 : Int) = 0 → ((1 = 1 ∧ (0 : Int) = 0) ∧ (0 ≤ st 1 1 ∧ (((0 : Int) = 0 → (0 = 0 ∧ ((0 ≤ (5 : Int) ∧ (5 : Int) < 6) ∧ Q (some (.inl (-1))) (zup (zup st 1 1 0) 121 (5 : Int).toNat (zw (st 121 (5 : Int).toNat + 1)))))) ∧ (¬ ((0 : Int) = 0) → Q (some (.inl (st 115 5))) (zup st 1 1 0)))))) ∧ (¬ ((0 : Int) = 0) → ((115 = 115 ∧ 1 = 1) ∧ (ztk st ∧ ∀ s2 : zS, ztq st s2 → ((1 = 1 ∧ (0 : Int) = 0) ∧ (0 ≤ s2 1 1 ∧ (((0 : Int) = 0 → (0 = 0 ∧ ((0 ≤ (5 : Int) ∧ (5 : Int) < 6) ∧ Q (some (.inl (-1))) (zup (zup s2 1 1 0) 121 (5 : Int).toNat (zw (s2 121 (5 : Int).toNat + 1)))))) ∧ (¬ ((0 : Int) = 0) → Q (some (.inl (s2 115 5))) (zup s2 1 1 0)))))))))))
          exact ⟨⟨rfl, rfl⟩, g11, fun hf => ⟨fun q => absurd q (by decide), fun _ => ⟨⟨rfl, rfl⟩, ⟨hf, g116, g117⟩, fun s1 hq => ⟨⟨rfl, rfl⟩, (by rw [s11 s1 hq]; exact g11.1), fun q => absurd q (by decide), fun _ => fin1 s1 hq⟩⟩⟩, fun _ => ⟨⟨rfl, rfl⟩, g11.1, fun _ => ⟨rfl, (by decide), fin0⟩, fun q => absurd rfl q⟩, fun q => absurd rfl q⟩
      · exact absurd hm.1 id
theorem s_half (hTb : aTb zSh rx_tb cl) (D : Nat) : aSp zgt cl D 161 zu_half := fun asz st h1 h2 h3 Q hQ => s_half2 hTb D asz st h1 h2 h3 Q (fun rz st' a b c _ => hQ rz st' a b c)
end HALF2
