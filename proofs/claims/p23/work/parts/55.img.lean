/-! by hand: isImage -/
theorem zz1 (st : zS) (k : Int) : zsI (zat1 st k) := by
  have := zat1_ok st k
  unfold zsI
  omega
theorem gtape {st : zS} (hG : gInv zgt st) : 0 ≤ st 1 1 ∧ st 1 1 ≤ 1600 := by
  obtain ⟨b, hb, hz⟩ := (show ∃ b ∈ ([(Int.ofNat 0, Int.ofNat 1600)] : List aB), b.1 ≤ st 1 1 ∧ st 1 1 ≤ b.2 from hG 1 1)
  rcases List.mem_singleton.mp hb with rfl
  exact hz
theorem gp1 {st : zS} (hG : gInv zgt st) : 0 ≤ st 122 1 ∧ st 122 1 ≤ 8 := by
  obtain ⟨b, hb, hz⟩ := (show ∃ b ∈ ([(Int.ofNat 0, Int.ofNat 8)] : List aB), b.1 ≤ st 122 1 ∧ st 122 1 ≤ b.2 from hG 122 1)
  rcases List.mem_singleton.mp hb with rfl
  exact hz
theorem gs1 {st : zS} (hG : gInv zgt st) : 0 ≤ st 122 3 ∧ st 122 3 ≤ 14 := by
  obtain ⟨b, hb, hz⟩ := (show ∃ b ∈ ([(Int.ofNat 0, Int.ofNat 14)] : List aB), b.1 ≤ st 122 3 ∧ st 122 3 ≤ b.2 from hG 122 3)
  rcases List.mem_singleton.mp hb with rfl
  exact hz
theorem gh1 {st : zS} (hG : gInv zgt st) : 0 ≤ st 122 8 ∧ st 122 8 ≤ 8 := by
  obtain ⟨b, hb, hz⟩ := (show ∃ b ∈ ([(Int.ofNat 0, Int.ofNat 8)] : List aB), b.1 ≤ st 122 8 ∧ st 122 8 ≤ b.2 from hG 122 8)
  rcases List.mem_singleton.mp hb with rfl
  exact hz
theorem gp2 {st : zS} (hG : gInv zgt st) : 0 ≤ st 135 1 ∧ st 135 1 ≤ 8 := by
  obtain ⟨b, hb, hz⟩ := (show ∃ b ∈ ([(Int.ofNat 0, Int.ofNat 8)] : List aB), b.1 ≤ st 135 1 ∧ st 135 1 ≤ b.2 from hG 135 1)
  rcases List.mem_singleton.mp hb with rfl
  exact hz
theorem gs2 {st : zS} (hG : gInv zgt st) : 0 ≤ st 135 3 ∧ st 135 3 ≤ 14 := by
  obtain ⟨b, hb, hz⟩ := (show ∃ b ∈ ([(Int.ofNat 0, Int.ofNat 14)] : List aB), b.1 ≤ st 135 3 ∧ st 135 3 ≤ b.2 from hG 135 3)
  rcases List.mem_singleton.mp hb with rfl
  exact hz
theorem gh2 {st : zS} (hG : gInv zgt st) : 0 ≤ st 135 8 ∧ st 135 8 ≤ 8 := by
  obtain ⟨b, hb, hz⟩ := (show ∃ b ∈ ([(Int.ofNat 0, Int.ofNat 8)] : List aB), b.1 ≤ st 135 8 ∧ st 135 8 ≤ b.2 from hG 135 8)
  rcases List.mem_singleton.mp hb with rfl
  exact hz
section ON2
variable {cl : Nat → zCall}
set_option maxRecDepth 100000 in
theorem c_are1 (hTb : aTb zSh rx_tb cl) (hA : zAll cl) (d : Nat) {f n : Int} {st : zS} {Q : zQ} (hG : gInv zgt st) (hf : 0 ≤ f ∧ f ≤ 100) (hn : 0 ≤ n ∧ n ≤ 30) (h1 : zars 122 st f n → Q (some (.inl 1)) st) (h0 : Q (some (.inl 0)) st) : cl (d + 5) 270 [.inr (.inr (.inl 1)), .inr (.inr (.inl 122)), .inl f, .inl n] st Q := by
  refine hTb (d + 4) 270 (rx_m270, 6, 0, 0, 2) rfl _ _ _ (Nat.le_of_ble_eq_true rfl) (fun K hcl hsf hsl => ?_)
  have s16 := (gtape hG).2
  have z0 : ((0 : Int) = 0 ∨ (0 : Int) = 1) ∧ Q (some (.inl 0)) st := ⟨Or.inl rfl, h0⟩
  have k3 : ∀ (u : Nat) (i : Int), 0 ≤ i → i ≤ n → (∀ k : Int, 0 ≤ k → k < i → zat1 st (f + 2 * k) < st 122 1) → (n - i).toNat = u → K (rx_find rx_m270 3) [(0, .inr (.inr (.inl 1))), (1, .inr (.inr (.inl 122))), (2, .inl f), (3, .inl n), (4, .inl i)] [] st := by
    intro u
    induction u using Nat.strongRecOn with
    | _ u ih =>
      intro i i0 i1 hk hu
      refine zr1_ok (Rt := Q) (wc := wcS) (stp := [3]) (wcS_m hTb hA d) hcl 80 ?_
      show ((n ≤ i → ((1 = (0 : Int) ∨ 1 = (1 : Int)) ∧ Q (some (.inl 1)) st)) ∧ (¬ (n ≤ i) → (1 = 1 ∧ st 1 1 ≤ 1600 ∧ ((st 122 1 ≤ zat1 st (zw (f + (zw (2 * i)))) → ((0 = (0 : Int) ∨ 0 = (1 : Int)) ∧ Q (some (.inl 0)) st)) ∧ (¬ (st 122 1 ≤ zat1 st (zw (f + (zw (2 * i))))) → (1 = 1 ∧ st 1 1 ≤ 1600 ∧ ((zat1 st (zw ((zw (f + (zw (2 * i)))) + 1)) ≤ 30 → ((i ≤ 0 → K (rx_find rx_m270 3) [(4, .inl (zw (i + 1))), (5, .inl (zw (f + (zw (2 * i))))), (0, .inr (.inr (.inl 1))), (1, .inr (.inr (.inl 122))), (2, .inl f), (3, .inl n)] [] st) ∧ (¬ (i ≤ 0) → (1 = 1 ∧ st 1 1 ≤ 1600 ∧ (1 = 1 ∧ st 1 1 ≤ 1600 ∧ (((122 = 122 ∨ 122 = 135) ∧ zsI (zat1 st (zw ((zw (f + (zw (2 * i)))) - 2))) ∧ zsI (zat1 st (zw (f + (zw (2 * i)))))) ∧ (gInv zgt st ∧ ∀ z1 : Int, zsI z1 → ((¬ z1 = (-1) → K (rx_find rx_m270 3) [(4, .inl (zw (i + 1))), (5, .inl (zw (f + (zw (2 * i))))), (0, .inr (.inr (.inl 1))), (1, .inr (.inr (.inl 122))), (2, .inl f), (3, .inl n)] [] st) ∧ (¬ (¬ z1 = (-1)) → ((0 = (0 : Int) ∨ 0 = (1 : Int)) ∧ Q (some (.inl 0)) st)))))))))) ∧ (¬ (zat1 st (zw ((zw (f + (zw (2 * i)))) + 1)) ≤ 30) → ((0 = (0 : Int) ∨ 0 = (1 : Int)) ∧ Q (some (.inl 0)) st)))))))))
      rw [show zw (2 * i) = 2 * i from zw_id (by unfold zsI; omega), show zw (f + 2 * i) = f + 2 * i from zw_id (by unfold zsI; omega), show zw (i + 1) = i + 1 from zw_id (by unfold zsI; omega)]
      have nx : ¬ n ≤ i → ¬ st 122 1 ≤ zat1 st (f + 2 * i) → K (rx_find rx_m270 3) [(4, .inl (i + 1)), (5, .inl (f + 2 * i)), (0, .inr (.inr (.inl 1))), (1, .inr (.inr (.inl 122))), (2, .inl f), (3, .inl n)] [] st := fun c c2 => hsl _ _ _ _ _ (by simp) (ih (n - (i + 1)).toNat (by omega) (i + 1) (by omega) (by omega) (fun k g1 g2 => by
        rcases Int.lt_or_le k i with g3 | g3
        · exact hk k g1 g3
        · have : k = i := by omega
          rw [this]
          omega) rfl)
      exact ⟨fun c => ⟨Or.inr rfl, h1 (fun k g1 g2 => hk k g1 (by omega))⟩, fun c => ⟨rfl, s16, fun _ => z0, fun c2 => ⟨rfl, s16, fun _ => ⟨fun _ => nx c c2, fun _ => ⟨rfl, s16, rfl, s16, ⟨Or.inl rfl, zz1 _ _, zz1 _ _⟩, hG, fun z1 _ => ⟨fun _ => nx c c2, fun _ => z0⟩⟩⟩, fun _ => z0⟩⟩⟩
  refine zr1_ok (Rt := Q) (wc := wcS) (stp := [3]) (wcS_m hTb hA d) hcl 80 ?_
  show K (rx_find rx_m270 3) [(4, .inl 0), (0, .inr (.inr (.inl 1))), (1, .inr (.inr (.inl 122))), (2, .inl f), (3, .inl n)] [] st
  exact hsl _ _ _ _ _ (by simp) (k3 _ 0 (by omega) hn.1 (fun k g1 g2 => by omega) rfl)
set_option maxRecDepth 100000 in
theorem c_are2 (hTb : aTb zSh rx_tb cl) (hA : zAll cl) (d : Nat) {f n : Int} {st : zS} {Q : zQ} (hG : gInv zgt st) (hf : 0 ≤ f ∧ f ≤ 100) (hn : 0 ≤ n ∧ n ≤ 30) (h1 : zars 135 st f n → Q (some (.inl 1)) st) (h0 : Q (some (.inl 0)) st) : cl (d + 5) 270 [.inr (.inr (.inl 1)), .inr (.inr (.inl 135)), .inl f, .inl n] st Q := by
  refine hTb (d + 4) 270 (rx_m270, 6, 0, 0, 2) rfl _ _ _ (Nat.le_of_ble_eq_true rfl) (fun K hcl hsf hsl => ?_)
  have s16 := (gtape hG).2
  have z0 : ((0 : Int) = 0 ∨ (0 : Int) = 1) ∧ Q (some (.inl 0)) st := ⟨Or.inl rfl, h0⟩
  have k3 : ∀ (u : Nat) (i : Int), 0 ≤ i → i ≤ n → (∀ k : Int, 0 ≤ k → k < i → zat1 st (f + 2 * k) < st 135 1) → (n - i).toNat = u → K (rx_find rx_m270 3) [(0, .inr (.inr (.inl 1))), (1, .inr (.inr (.inl 135))), (2, .inl f), (3, .inl n), (4, .inl i)] [] st := by
    intro u
    induction u using Nat.strongRecOn with
    | _ u ih =>
      intro i i0 i1 hk hu
      refine zr1_ok (Rt := Q) (wc := wcS) (stp := [3]) (wcS_m hTb hA d) hcl 80 ?_
      show ((n ≤ i → ((1 = (0 : Int) ∨ 1 = (1 : Int)) ∧ Q (some (.inl 1)) st)) ∧ (¬ (n ≤ i) → (1 = 1 ∧ st 1 1 ≤ 1600 ∧ ((st 135 1 ≤ zat1 st (zw (f + (zw (2 * i)))) → ((0 = (0 : Int) ∨ 0 = (1 : Int)) ∧ Q (some (.inl 0)) st)) ∧ (¬ (st 135 1 ≤ zat1 st (zw (f + (zw (2 * i))))) → (1 = 1 ∧ st 1 1 ≤ 1600 ∧ ((zat1 st (zw ((zw (f + (zw (2 * i)))) + 1)) ≤ 30 → ((i ≤ 0 → K (rx_find rx_m270 3) [(4, .inl (zw (i + 1))), (5, .inl (zw (f + (zw (2 * i))))), (0, .inr (.inr (.inl 1))), (1, .inr (.inr (.inl 135))), (2, .inl f), (3, .inl n)] [] st) ∧ (¬ (i ≤ 0) → (1 = 1 ∧ st 1 1 ≤ 1600 ∧ (1 = 1 ∧ st 1 1 ≤ 1600 ∧ (((135 = 122 ∨ 135 = 135) ∧ zsI (zat1 st (zw ((zw (f + (zw (2 * i)))) - 2))) ∧ zsI (zat1 st (zw (f + (zw (2 * i)))))) ∧ (gInv zgt st ∧ ∀ z1 : Int, zsI z1 → ((¬ z1 = (-1) → K (rx_find rx_m270 3) [(4, .inl (zw (i + 1))), (5, .inl (zw (f + (zw (2 * i))))), (0, .inr (.inr (.inl 1))), (1, .inr (.inr (.inl 135))), (2, .inl f), (3, .inl n)] [] st) ∧ (¬ (¬ z1 = (-1)) → ((0 = (0 : Int) ∨ 0 = (1 : Int)) ∧ Q (some (.inl 0)) st)))))))))) ∧ (¬ (zat1 st (zw ((zw (f + (zw (2 * i)))) + 1)) ≤ 30) → ((0 = (0 : Int) ∨ 0 = (1 : Int)) ∧ Q (some (.inl 0)) st)))))))))
      rw [show zw (2 * i) = 2 * i from zw_id (by unfold zsI; omega), show zw (f + 2 * i) = f + 2 * i from zw_id (by unfold zsI; omega), show zw (i + 1) = i + 1 from zw_id (by unfold zsI; omega)]
      have nx : ¬ n ≤ i → ¬ st 135 1 ≤ zat1 st (f + 2 * i) → K (rx_find rx_m270 3) [(4, .inl (i + 1)), (5, .inl (f + 2 * i)), (0, .inr (.inr (.inl 1))), (1, .inr (.inr (.inl 135))), (2, .inl f), (3, .inl n)] [] st := fun c c2 => hsl _ _ _ _ _ (by simp) (ih (n - (i + 1)).toNat (by omega) (i + 1) (by omega) (by omega) (fun k g1 g2 => by
        rcases Int.lt_or_le k i with g3 | g3
        · exact hk k g1 g3
        · have : k = i := by omega
          rw [this]
          omega) rfl)
      exact ⟨fun c => ⟨Or.inr rfl, h1 (fun k g1 g2 => hk k g1 (by omega))⟩, fun c => ⟨rfl, s16, fun _ => z0, fun c2 => ⟨rfl, s16, fun _ => ⟨fun _ => nx c c2, fun _ => ⟨rfl, s16, rfl, s16, ⟨Or.inr rfl, zz1 _ _, zz1 _ _⟩, hG, fun z1 _ => ⟨fun _ => nx c c2, fun _ => z0⟩⟩⟩, fun _ => z0⟩⟩⟩
  refine zr1_ok (Rt := Q) (wc := wcS) (stp := [3]) (wcS_m hTb hA d) hcl 80 ?_
  show K (rx_find rx_m270 3) [(4, .inl 0), (0, .inr (.inr (.inl 1))), (1, .inr (.inr (.inl 135))), (2, .inl f), (3, .inl n)] [] st
  exact hsl _ _ _ _ _ (by simp) (k3 _ 0 (by omega) hn.1 (fun k g1 g2 => by omega) rfl)
def wcI : zCall := fun nu as st Q => cond (Nat.beq nu 270) (match as with
  | [.inr (.inr (.inl a)), .inr (.inr (.inl b)), .inl f, .inl n] => (a = 1 ∧ (b = 122 ∨ b = 135)) ∧ (((0 ≤ f ∧ f ≤ 100) ∧ (0 ≤ n ∧ n ≤ 30)) ∧ gInv zgt st ∧ (zars b st f n → Q (some (.inl 1)) st) ∧ Q (some (.inl 0)) st)
  | _ => False) (wcS nu as st Q)
theorem wcI_m (hTb : aTb zSh rx_tb cl) (hA : zAll cl) (d : Nat) : ∀ nu as st (Q Q' : zQ), (∀ r st', Q r st' → Q' r st') → wcI nu as st Q → cl (d + 5) nu as st Q' := by
  intro nu as st Q Q' hQ h
  unfold wcI at h
  cases c1 : Nat.beq nu 270 with
  | true =>
    rw [c1] at h
    have c := rx_bq c1
    subst c
    dsimp only [cond_true] at h
    split at h
    · obtain ⟨⟨rfl, rfl | rfl⟩, ⟨h1, h2⟩, h3, h4, h5⟩ := h
      · exact c_are1 hTb hA d h3 h1 h2 (fun a => hQ _ _ (h4 a)) (hQ _ _ h5)
      · exact c_are2 hTb hA d h3 h1 h2 (fun a => hQ _ _ (h4 a)) (hQ _ _ h5)
    · exact h.elim
  | false =>
    rw [c1] at h
    exact wcS_m hTb hA (d + 1) nu as st Q Q' hQ h
/-- what an image is -/
def zimg (t : Nat) (st : zS) : Prop := ¬ zat1 st (2 + st t 3 + st t 8) = -1 ∧ zat1 st (2 + st t 3 + st t 8) ≤ 30 ∧ st 1 1 = 2 + st t 3 + st t 8 + 2 + 2 * zat1 st (2 + st t 3 + st t 8) ∧ (∀ j : Int, 2 + st t 3 ≤ j → j < 2 + st t 3 + st t 8 → zat1 st j < st t 1) ∧ zars t st (2 + st t 3 + st t 8 + 1) (zat1 st (2 + st t 3 + st t 8))
set_option maxRecDepth 100000 in
theorem c_img1 (hTb : aTb zSh rx_tb cl) (hA : zAll cl) (d : Nat) {st : zS} {Q : zQ} (hG : gInv zgt st) (h1 : zimg 122 st → Q (some (.inl 1)) st) (h0 : Q (some (.inl 0)) st) : cl (d + 6) 175 [.inr (.inr (.inl 1)), .inr (.inr (.inl 122))] st Q := by
  refine hTb (d + 5) 175 (rx_m175, 6, 0, 0, 2) rfl _ _ _ (Nat.le_of_ble_eq_true rfl) (fun K hcl hsf hsl => ?_)
  have s16 := (gtape hG).2
  have g1 := gp1 hG
  have g3 := gs1 hG
  have g8 := gh1 hG
  have z0 : ((0 : Int) = 0 ∨ (0 : Int) = 1) ∧ Q (some (.inl 0)) st := ⟨Or.inl rfl, h0⟩
  have k116 : ∀ (u : Nat) (i g e m : Int), g = 2 + st 122 3 → e = g + st 122 8 → m = zat1 st e → ¬ m = -1 → m ≤ 30 → st 1 1 = e + 2 + 2 * m → g ≤ i → i ≤ e → (∀ j : Int, g ≤ j → j < i → zat1 st j < st 122 1) → (e - i).toNat = u → K (rx_find rx_m175 116) [(0, .inr (.inr (.inl 1))), (1, .inr (.inr (.inl 122))), (2, .inl g), (3, .inl e), (4, .inl m), (5, .inl i)] [] st := by
    intro u
    induction u using Nat.strongRecOn with
    | _ u ih =>
      intro i g e m eg ee em m1 m30 hs i0 i1 hj hu
      have hm := zat1_ok st e
      refine zr1_ok (Rt := Q) (wc := wcI) (stp := [89, 116]) (wcI_m hTb hA d) hcl 80 ?_
      show ((e ≤ i → ((1 = 1 ∧ (122 = 122 ∨ 122 = 135)) ∧ (((0 ≤ zw (e + 1) ∧ zw (e + 1) ≤ 100) ∧ (0 ≤ m ∧ m ≤ 30)) ∧ gInv zgt st ∧ (zars 122 st (zw (e + 1)) m → ((1 = (0 : Int) ∨ 1 = (1 : Int)) ∧ Q (some (.inl 1)) st)) ∧ ((0 = (0 : Int) ∨ 0 = (1 : Int)) ∧ Q (some (.inl 0)) st)))) ∧ (¬ (e ≤ i) → (1 = 1 ∧ st 1 1 ≤ 1600 ∧ ((zat1 st i < st 122 1 → K (rx_find rx_m175 116) [(5, .inl (zw (i + 1))), (0, .inr (.inr (.inl 1))), (1, .inr (.inr (.inl 122))), (2, .inl g), (3, .inl e), (4, .inl m)] [] st) ∧ (¬ (zat1 st i < st 122 1) → ((0 = (0 : Int) ∨ 0 = (1 : Int)) ∧ Q (some (.inl 0)) st))))))
      rw [show zw (i + 1) = i + 1 from zw_id (by unfold zsI; omega), show zw (e + 1) = e + 1 from zw_id (by unfold zsI; omega)]
      refine ⟨fun c => ⟨⟨rfl, Or.inl rfl⟩, ⟨⟨by omega, by omega⟩, by omega, by omega⟩, hG, fun ha => ⟨Or.inr rfl, h1 ?_⟩, z0⟩, fun c => ⟨rfl, s16, fun c2 => ?_, fun _ => z0⟩⟩
      · unfold zimg
        rw [← eg, ← ee, ← em]
        exact ⟨m1, m30, by omega, fun j q1 q2 => hj j q1 (by omega), ha⟩
      · refine hsl _ _ _ _ _ (by simp) (ih (e - (i + 1)).toNat (by omega) (i + 1) g e m eg ee em m1 m30 hs (by omega) (by omega) (fun j q1 q2 => ?_) rfl)
        rcases Int.lt_or_le j i with q3 | q3
        · exact hj j q1 q3
        · have : j = i := by omega
          rw [this]
          exact c2
  have k89 : ∀ (u : Nat) (i g e m : Int), g = 2 + st 122 3 → e = g + st 122 8 → m = zat1 st e → ¬ m = -1 → m ≤ 30 → st 1 1 = e + 2 + 2 * m → 2 ≤ i → i ≤ g → (g - i).toNat = u → K (rx_find rx_m175 89) [(0, .inr (.inr (.inl 1))), (1, .inr (.inr (.inl 122))), (2, .inl g), (3, .inl e), (4, .inl m), (5, .inl i)] [] st := by
    intro u
    induction u using Nat.strongRecOn with
    | _ u ih =>
      intro i g e m eg ee em m1 m30 hs i0 i1 hu
      refine zr1_ok (Rt := Q) (wc := wcI) (stp := [89, 116]) (wcI_m hTb hA d) hcl 80 ?_
      show ((g ≤ i → K (rx_find rx_m175 116) [(5, .inl g), (0, .inr (.inr (.inl 1))), (1, .inr (.inr (.inl 122))), (2, .inl g), (3, .inl e), (4, .inl m)] [] st) ∧ (¬ (g ≤ i) → (1 = 1 ∧ st 1 1 ≤ 1600 ∧ ((zat1 st i ≤ 1 → K (rx_find rx_m175 89) [(5, .inl (zw (i + 1))), (0, .inr (.inr (.inl 1))), (1, .inr (.inr (.inl 122))), (2, .inl g), (3, .inl e), (4, .inl m)] [] st) ∧ (¬ (zat1 st i ≤ 1) → ((0 = (0 : Int) ∨ 0 = (1 : Int)) ∧ Q (some (.inl 0)) st))))))
      rw [show zw (i + 1) = i + 1 from zw_id (by unfold zsI; omega)]
      exact ⟨fun c => hsl _ _ _ _ _ (by simp) (k116 _ g g e m eg ee em m1 m30 hs (by omega) (by omega) (fun j q1 q2 => by omega) rfl), fun c => ⟨rfl, s16, fun _ => hsl _ _ _ _ _ (by simp) (ih (g - (i + 1)).toNat (by omega) (i + 1) g e m eg ee em m1 m30 hs (by omega) (by omega) rfl), fun _ => z0⟩⟩
  refine zr1_ok (Rt := Q) (wc := wcI) (stp := [89, 116]) (wcI_m hTb hA d) hcl 80 ?_
  show (1 = 1 ∧ st 1 1 ≤ 1600 ∧ ((zat1 st (zw ((zw (2 + (st 122 3))) + (st 122 8))) = (-1) → ((0 = (0 : Int) ∨ 0 = (1 : Int)) ∧ Q (some (.inl 0)) st)) ∧ (¬ (zat1 st (zw ((zw (2 + (st 122 3))) + (st 122 8))) = (-1)) → ((30 < zat1 st (zw ((zw (2 + (st 122 3))) + (st 122 8))) → ((0 = (0 : Int) ∨ 0 = (1 : Int)) ∧ Q (some (.inl 0)) st)) ∧ (¬ (30 < zat1 st (zw ((zw (2 + (st 122 3))) + (st 122 8)))) → ((st 1 1 = zw ((zw ((zw ((zw (2 + (st 122 3))) + (st 122 8))) + 2)) + (zw (2 * (zat1 st (zw ((zw (2 + (st 122 3))) + (st 122 8))))))) → (1 = 1 ∧ (gInv zgt st ∧ ∀ z1 : Int, zsI z1 → ((999 < z1 → ((0 = (0 : Int) ∨ 0 = (1 : Int)) ∧ Q (some (.inl 0)) st)) ∧ (¬ (999 < z1) → (1 = 1 ∧ st 1 1 ≤ 1600 ∧ (1 = 1 ∧ ((0 ≤ zw ((st 1 1) - 1) ∧ zw ((st 1 1) - 1) ≤ 1600) ∧ (gInv zgt st ∧ ∀ z2 : Int, zsI z2 → ((zat1 st (zw ((st 1 1) - 1)) = z2 → K (rx_find rx_m175 89) [(5, .inl 2), (4, .inl (zat1 st (zw ((zw (2 + (st 122 3))) + (st 122 8))))), (3, .inl (zw ((zw (2 + (st 122 3))) + (st 122 8)))), (2, .inl (zw (2 + (st 122 3)))), (0, .inr (.inr (.inl 1))), (1, .inr (.inr (.inl 122)))] [] st) ∧ (¬ (zat1 st (zw ((st 1 1) - 1)) = z2) → ((0 = (0 : Int) ∨ 0 = (1 : Int)) ∧ Q (some (.inl 0)) st)))))))))))) ∧ (¬ (st 1 1 = zw ((zw ((zw ((zw (2 + (st 122 3))) + (st 122 8))) + 2)) + (zw (2 * (zat1 st (zw ((zw (2 + (st 122 3))) + (st 122 8)))))))) → ((0 = (0 : Int) ∨ 0 = (1 : Int)) ∧ Q (some (.inl 0)) st))))))))
  have e1 : zw (2 + st 122 3) = 2 + st 122 3 := zw_id (by unfold zsI; omega)
  have e2 : zw (2 + st 122 3 + st 122 8) = 2 + st 122 3 + st 122 8 := zw_id (by unfold zsI; omega)
  rw [e1, e2]
  generalize hm' : zat1 st (2 + st 122 3 + st 122 8) = m
  have hm := zat1_ok st (2 + st 122 3 + st 122 8)
  rw [hm'] at hm
  have t1 := (gtape hG).1
  rw [show zw (2 + st 122 3 + st 122 8 + 2) = 2 + st 122 3 + st 122 8 + 2 from zw_id (by unfold zsI; omega), show zw (2 * m) = 2 * m from zw_id (by unfold zsI; omega), show zw (2 + st 122 3 + st 122 8 + 2 + 2 * m) = 2 + st 122 3 + st 122 8 + 2 + 2 * m from zw_id (by unfold zsI; omega), show zw (st 1 1 - 1) = st 1 1 - 1 from zw_id (by unfold zsI; omega)]
  exact ⟨rfl, s16, fun _ => z0, fun c1 => ⟨fun _ => z0, fun c2 => ⟨fun c3 => ⟨rfl, hG, fun z1 _ => ⟨fun _ => z0, fun _ => ⟨rfl, s16, rfl, ⟨by omega, by omega⟩, hG, fun z2 _ => ⟨fun _ => hsl _ _ _ _ _ (by simp) (k89 _ 2 _ _ m rfl rfl hm'.symm c1 (by omega) c3 (by omega) (by omega) rfl), fun _ => z0⟩⟩⟩⟩, fun _ => z0⟩⟩⟩
set_option maxRecDepth 100000 in
theorem c_img2 (hTb : aTb zSh rx_tb cl) (hA : zAll cl) (d : Nat) {st : zS} {Q : zQ} (hG : gInv zgt st) (h1 : zimg 135 st → Q (some (.inl 1)) st) (h0 : Q (some (.inl 0)) st) : cl (d + 6) 175 [.inr (.inr (.inl 1)), .inr (.inr (.inl 135))] st Q := by
  refine hTb (d + 5) 175 (rx_m175, 6, 0, 0, 2) rfl _ _ _ (Nat.le_of_ble_eq_true rfl) (fun K hcl hsf hsl => ?_)
  have s16 := (gtape hG).2
  have g1 := gp2 hG
  have g3 := gs2 hG
  have g8 := gh2 hG
  have z0 : ((0 : Int) = 0 ∨ (0 : Int) = 1) ∧ Q (some (.inl 0)) st := ⟨Or.inl rfl, h0⟩
  have k116 : ∀ (u : Nat) (i g e m : Int), g = 2 + st 135 3 → e = g + st 135 8 → m = zat1 st e → ¬ m = -1 → m ≤ 30 → st 1 1 = e + 2 + 2 * m → g ≤ i → i ≤ e → (∀ j : Int, g ≤ j → j < i → zat1 st j < st 135 1) → (e - i).toNat = u → K (rx_find rx_m175 116) [(0, .inr (.inr (.inl 1))), (1, .inr (.inr (.inl 135))), (2, .inl g), (3, .inl e), (4, .inl m), (5, .inl i)] [] st := by
    intro u
    induction u using Nat.strongRecOn with
    | _ u ih =>
      intro i g e m eg ee em m1 m30 hs i0 i1 hj hu
      have hm := zat1_ok st e
      refine zr1_ok (Rt := Q) (wc := wcI) (stp := [89, 116]) (wcI_m hTb hA d) hcl 80 ?_
      show ((e ≤ i → ((1 = 1 ∧ (135 = 122 ∨ 135 = 135)) ∧ (((0 ≤ zw (e + 1) ∧ zw (e + 1) ≤ 100) ∧ (0 ≤ m ∧ m ≤ 30)) ∧ gInv zgt st ∧ (zars 135 st (zw (e + 1)) m → ((1 = (0 : Int) ∨ 1 = (1 : Int)) ∧ Q (some (.inl 1)) st)) ∧ ((0 = (0 : Int) ∨ 0 = (1 : Int)) ∧ Q (some (.inl 0)) st)))) ∧ (¬ (e ≤ i) → (1 = 1 ∧ st 1 1 ≤ 1600 ∧ ((zat1 st i < st 135 1 → K (rx_find rx_m175 116) [(5, .inl (zw (i + 1))), (0, .inr (.inr (.inl 1))), (1, .inr (.inr (.inl 135))), (2, .inl g), (3, .inl e), (4, .inl m)] [] st) ∧ (¬ (zat1 st i < st 135 1) → ((0 = (0 : Int) ∨ 0 = (1 : Int)) ∧ Q (some (.inl 0)) st))))))
      rw [show zw (i + 1) = i + 1 from zw_id (by unfold zsI; omega), show zw (e + 1) = e + 1 from zw_id (by unfold zsI; omega)]
      refine ⟨fun c => ⟨⟨rfl, Or.inr rfl⟩, ⟨⟨by omega, by omega⟩, by omega, by omega⟩, hG, fun ha => ⟨Or.inr rfl, h1 ?_⟩, z0⟩, fun c => ⟨rfl, s16, fun c2 => ?_, fun _ => z0⟩⟩
      · unfold zimg
        rw [← eg, ← ee, ← em]
        exact ⟨m1, m30, by omega, fun j q1 q2 => hj j q1 (by omega), ha⟩
      · refine hsl _ _ _ _ _ (by simp) (ih (e - (i + 1)).toNat (by omega) (i + 1) g e m eg ee em m1 m30 hs (by omega) (by omega) (fun j q1 q2 => ?_) rfl)
        rcases Int.lt_or_le j i with q3 | q3
        · exact hj j q1 q3
        · have : j = i := by omega
          rw [this]
          exact c2
  have k89 : ∀ (u : Nat) (i g e m : Int), g = 2 + st 135 3 → e = g + st 135 8 → m = zat1 st e → ¬ m = -1 → m ≤ 30 → st 1 1 = e + 2 + 2 * m → 2 ≤ i → i ≤ g → (g - i).toNat = u → K (rx_find rx_m175 89) [(0, .inr (.inr (.inl 1))), (1, .inr (.inr (.inl 135))), (2, .inl g), (3, .inl e), (4, .inl m), (5, .inl i)] [] st := by
    intro u
    induction u using Nat.strongRecOn with
    | _ u ih =>
      intro i g e m eg ee em m1 m30 hs i0 i1 hu
      refine zr1_ok (Rt := Q) (wc := wcI) (stp := [89, 116]) (wcI_m hTb hA d) hcl 80 ?_
      show ((g ≤ i → K (rx_find rx_m175 116) [(5, .inl g), (0, .inr (.inr (.inl 1))), (1, .inr (.inr (.inl 135))), (2, .inl g), (3, .inl e), (4, .inl m)] [] st) ∧ (¬ (g ≤ i) → (1 = 1 ∧ st 1 1 ≤ 1600 ∧ ((zat1 st i ≤ 1 → K (rx_find rx_m175 89) [(5, .inl (zw (i + 1))), (0, .inr (.inr (.inl 1))), (1, .inr (.inr (.inl 135))), (2, .inl g), (3, .inl e), (4, .inl m)] [] st) ∧ (¬ (zat1 st i ≤ 1) → ((0 = (0 : Int) ∨ 0 = (1 : Int)) ∧ Q (some (.inl 0)) st))))))
      rw [show zw (i + 1) = i + 1 from zw_id (by unfold zsI; omega)]
      exact ⟨fun c => hsl _ _ _ _ _ (by simp) (k116 _ g g e m eg ee em m1 m30 hs (by omega) (by omega) (fun j q1 q2 => by omega) rfl), fun c => ⟨rfl, s16, fun _ => hsl _ _ _ _ _ (by simp) (ih (g - (i + 1)).toNat (by omega) (i + 1) g e m eg ee em m1 m30 hs (by omega) (by omega) rfl), fun _ => z0⟩⟩
  refine zr1_ok (Rt := Q) (wc := wcI) (stp := [89, 116]) (wcI_m hTb hA d) hcl 80 ?_
  show (1 = 1 ∧ st 1 1 ≤ 1600 ∧ ((zat1 st (zw ((zw (2 + (st 135 3))) + (st 135 8))) = (-1) → ((0 = (0 : Int) ∨ 0 = (1 : Int)) ∧ Q (some (.inl 0)) st)) ∧ (¬ (zat1 st (zw ((zw (2 + (st 135 3))) + (st 135 8))) = (-1)) → ((30 < zat1 st (zw ((zw (2 + (st 135 3))) + (st 135 8))) → ((0 = (0 : Int) ∨ 0 = (1 : Int)) ∧ Q (some (.inl 0)) st)) ∧ (¬ (30 < zat1 st (zw ((zw (2 + (st 135 3))) + (st 135 8)))) → ((st 1 1 = zw ((zw ((zw ((zw (2 + (st 135 3))) + (st 135 8))) + 2)) + (zw (2 * (zat1 st (zw ((zw (2 + (st 135 3))) + (st 135 8))))))) → (1 = 1 ∧ (gInv zgt st ∧ ∀ z1 : Int, zsI z1 → ((999 < z1 → ((0 = (0 : Int) ∨ 0 = (1 : Int)) ∧ Q (some (.inl 0)) st)) ∧ (¬ (999 < z1) → (1 = 1 ∧ st 1 1 ≤ 1600 ∧ (1 = 1 ∧ ((0 ≤ zw ((st 1 1) - 1) ∧ zw ((st 1 1) - 1) ≤ 1600) ∧ (gInv zgt st ∧ ∀ z2 : Int, zsI z2 → ((zat1 st (zw ((st 1 1) - 1)) = z2 → K (rx_find rx_m175 89) [(5, .inl 2), (4, .inl (zat1 st (zw ((zw (2 + (st 135 3))) + (st 135 8))))), (3, .inl (zw ((zw (2 + (st 135 3))) + (st 135 8)))), (2, .inl (zw (2 + (st 135 3)))), (0, .inr (.inr (.inl 1))), (1, .inr (.inr (.inl 135)))] [] st) ∧ (¬ (zat1 st (zw ((st 1 1) - 1)) = z2) → ((0 = (0 : Int) ∨ 0 = (1 : Int)) ∧ Q (some (.inl 0)) st)))))))))))) ∧ (¬ (st 1 1 = zw ((zw ((zw ((zw (2 + (st 135 3))) + (st 135 8))) + 2)) + (zw (2 * (zat1 st (zw ((zw (2 + (st 135 3))) + (st 135 8)))))))) → ((0 = (0 : Int) ∨ 0 = (1 : Int)) ∧ Q (some (.inl 0)) st))))))))
  have e1 : zw (2 + st 135 3) = 2 + st 135 3 := zw_id (by unfold zsI; omega)
  have e2 : zw (2 + st 135 3 + st 135 8) = 2 + st 135 3 + st 135 8 := zw_id (by unfold zsI; omega)
  rw [e1, e2]
  generalize hm' : zat1 st (2 + st 135 3 + st 135 8) = m
  have hm := zat1_ok st (2 + st 135 3 + st 135 8)
  rw [hm'] at hm
  have t1 := (gtape hG).1
  rw [show zw (2 + st 135 3 + st 135 8 + 2) = 2 + st 135 3 + st 135 8 + 2 from zw_id (by unfold zsI; omega), show zw (2 * m) = 2 * m from zw_id (by unfold zsI; omega), show zw (2 + st 135 3 + st 135 8 + 2 + 2 * m) = 2 + st 135 3 + st 135 8 + 2 + 2 * m from zw_id (by unfold zsI; omega), show zw (st 1 1 - 1) = st 1 1 - 1 from zw_id (by unfold zsI; omega)]
  exact ⟨rfl, s16, fun _ => z0, fun c1 => ⟨fun _ => z0, fun c2 => ⟨fun c3 => ⟨rfl, hG, fun z1 _ => ⟨fun _ => z0, fun _ => ⟨rfl, s16, rfl, ⟨by omega, by omega⟩, hG, fun z2 _ => ⟨fun _ => hsl _ _ _ _ _ (by simp) (k89 _ 2 _ _ m rfl rfl hm'.symm c1 (by omega) c3 (by omega) (by omega) rfl), fun _ => z0⟩⟩⟩⟩, fun _ => z0⟩⟩⟩
end ON2
