/-! printed by wip/p32/libm.py: a year goes by -/
def rq_pairs  (st : zS) : Prop := gInv zgt st
def en_pairs  (st : zS) (r : Int) : Prop := (-2147483648 ≤ r ∧ r ≤ 2147483647)
def ct_pairs  (st : zS) (Q : zQ) : Prop := rq_pairs  st ∧ (∀ (r : Int), en_pairs  st r → Q (some (.inl r)) st)
theorem ct_pairs_m {st : zS} {Q Q' : zQ} (hQ : ∀ r st', Q r st' → Q' r st') (h : ct_pairs  st Q) : ct_pairs  st Q' := ⟨h.1, fun x0 x1 => hQ _ _ (h.2 x0 x1)⟩
def k_pairs : zCall := fun _ as st Q => match as with
  | [.inr (.inr (.inl z_o))] => z_o = 170 ∧ ct_pairs  st Q
  | _ => False
theorem k_pairs_mon : zmon k_pairs := by
  intro nu as st Q Q' hQ h
  unfold k_pairs at h ⊢
  split at h
  · exact ⟨h.1, ct_pairs_m hQ h.2⟩
  · exact h.elim
def rq_bits (x : Int) (st : zS) : Prop := (-2147483648 ≤ x ∧ x ≤ 2147483647)
def ct_bits (x : Int) (st : zS) (Q : zQ) : Prop := rq_bits x st ∧ (∀ (r : Int), Q (some (.inl r)) st)
theorem ct_bits_m {x : Int} {st : zS} {Q Q' : zQ} (hQ : ∀ r st', Q r st' → Q' r st') (h : ct_bits x st Q) : ct_bits x st Q' := ⟨h.1, fun x0 => hQ _ _ (h.2 x0)⟩
def k_bits : zCall := fun _ as st Q => match as with
  | [.inl x] => ct_bits x st Q
  | _ => False
theorem k_bits_mon : zmon k_bits := by
  intro nu as st Q Q' hQ h
  unfold k_bits at h ⊢
  split at h
  · exact ct_bits_m hQ h
  · exact h.elim
def rq_longest  (st : zS) : Prop := gInv zgt st
def en_longest  (st : zS) (r : Int) : Prop := (-1 ≤ r ∧ r < st 170 62)
def ct_longest  (st : zS) (Q : zQ) : Prop := rq_longest  st ∧ (∀ (r : Int), en_longest  st r → Q (some (.inl r)) st)
theorem ct_longest_m {st : zS} {Q Q' : zQ} (hQ : ∀ r st', Q r st' → Q' r st') (h : ct_longest  st Q) : ct_longest  st Q' := ⟨h.1, fun x0 x1 => hQ _ _ (h.2 x0 x1)⟩
def k_longest : zCall := fun _ as st Q => match as with
  | [.inr (.inr (.inl z_o))] => z_o = 170 ∧ ct_longest  st Q
  | _ => False
theorem k_longest_mon : zmon k_longest := by
  intro nu as st Q Q' hQ h
  unfold k_longest at h ⊢
  split at h
  · exact ⟨h.1, ct_longest_m hQ h.2⟩
  · exact h.elim
def rq_comesBy (p : Int) (st : zS) : Prop := gInv zgt st
def ct_comesBy (p : Int) (st : zS) (Q : zQ) : Prop := rq_comesBy p st ∧ (∀ (r : Int), Q (some (.inl r)) st)
theorem ct_comesBy_m {p : Int} {st : zS} {Q Q' : zQ} (hQ : ∀ r st', Q r st' → Q' r st') (h : ct_comesBy p st Q) : ct_comesBy p st Q' := ⟨h.1, fun x0 => hQ _ _ (h.2 x0)⟩
def k_comesBy : zCall := fun _ as st Q => match as with
  | [.inr (.inr (.inl z_o)), .inl p] => z_o = 170 ∧ ct_comesBy p st Q
  | _ => False
theorem k_comesBy_mon : zmon k_comesBy := by
  intro nu as st Q Q' hQ h
  unfold k_comesBy at h ⊢
  split at h
  · exact ⟨h.1, ct_comesBy_m hQ h.2⟩
  · exact h.elim
def rq_canBe (x : Int) (p : Int) (st : zS) : Prop := gInv zgt st
def ct_canBe (x : Int) (p : Int) (st : zS) (Q : zQ) : Prop := rq_canBe x p st ∧ (∀ (r : Int), Q (some (.inl r)) st)
theorem ct_canBe_m {x p : Int} {st : zS} {Q Q' : zQ} (hQ : ∀ r st', Q r st' → Q' r st') (h : ct_canBe x p st Q) : ct_canBe x p st Q' := ⟨h.1, fun x0 => hQ _ _ (h.2 x0)⟩
def k_canBe : zCall := fun _ as st Q => match as with
  | [.inr (.inr (.inl z_o)), .inl x, .inl p] => z_o = 170 ∧ ct_canBe x p st Q
  | _ => False
theorem k_canBe_mon : zmon k_canBe := by
  intro nu as st Q Q' hQ h
  unfold k_canBe at h ⊢
  split at h
  · exact ⟨h.1, ct_canBe_m hQ h.2⟩
  · exact h.elim
def m_draw : aM := ([(170, 58)], [])
def rq_draw (x : Int) (st : zS) : Prop := gInv zgt st ∧ (1 ≤ x ∧ x ≤ 2147483647)
def en_draw (x : Int) (st : zS) (r : Int) (s1 : zS) : Prop := gInv zgt s1 ∧ aFr m_draw st s1 ∧ (-2147483648 ≤ r ∧ r ≤ 2147483647)
def ct_draw (x : Int) (st : zS) (Q : zQ) : Prop := rq_draw x st ∧ (∀ (r : Int) (s1 : zS), en_draw x st r s1 → Q (some (.inl r)) s1)
theorem ct_draw_m {x : Int} {st : zS} {Q Q' : zQ} (hQ : ∀ r st', Q r st' → Q' r st') (h : ct_draw x st Q) : ct_draw x st Q' := ⟨h.1, fun x0 x1 x2 => hQ _ _ (h.2 x0 x1 x2)⟩
def k_draw : zCall := fun _ as st Q => match as with
  | [.inr (.inr (.inl z_o)), .inl x] => z_o = 170 ∧ ct_draw x st Q
  | _ => False
theorem k_draw_mon : zmon k_draw := by
  intro nu as st Q Q' hQ h
  unfold k_draw at h ⊢
  split at h
  · exact ⟨h.1, ct_draw_m hQ h.2⟩
  · exact h.elim
def m_stands : aM := ([], [207, 208])
def rq_stands (v : Int) (k : Int) (t : Int) (aw : Int) (st : zS) : Prop := gInv zgt st ∧ (jC st) ∧ (0 ≤ v ∧ v ≤ 21 ∧ 0 ≤ k ∧ k < 30 ∧ -2147483648 ≤ t ∧ t ≤ 2147483647)
def en_stands (v : Int) (k : Int) (t : Int) (aw : Int) (st : zS) (r : Int) (s1 : zS) : Prop := gInv zgt s1 ∧ aFr m_stands st s1 ∧ (-2147483648 ≤ r ∧ r ≤ 2147483647)
def ct_stands (v : Int) (k : Int) (t : Int) (aw : Int) (st : zS) (Q : zQ) : Prop := rq_stands v k t aw st ∧ (∀ (r : Int) (s1 : zS), en_stands v k t aw st r s1 → Q (some (.inl r)) s1)
theorem ct_stands_m {v k t aw : Int} {st : zS} {Q Q' : zQ} (hQ : ∀ r st', Q r st' → Q' r st') (h : ct_stands v k t aw st Q) : ct_stands v k t aw st Q' := ⟨h.1, fun x0 x1 x2 => hQ _ _ (h.2 x0 x1 x2)⟩
def k_stands : zCall := fun _ as st Q => match as with
  | [.inr (.inr (.inl z_o)), .inl v, .inl k, .inl t, .inl aw] => z_o = 170 ∧ ct_stands v k t aw st Q
  | _ => False
theorem k_stands_mon : zmon k_stands := by
  intro nu as st Q Q' hQ h
  unfold k_stands at h ⊢
  split at h
  · exact ⟨h.1, ct_stands_m hQ h.2⟩
  · exact h.elim
def m_runs : aM := ([(170, 62), (170, 67)], [207, 208, 209, 210, 211, 212, 213])
def rq_runs (v : Int) (t : Int) (g : Int) (aw : Int) (st : zS) : Prop := gInv zgt st ∧ (jS st) ∧ (jC st) ∧ (jgd st v) ∧ (0 ≤ v ∧ v ≤ 21 ∧ -2147483648 ≤ t ∧ t ≤ 2147483647)
def en_runs (v : Int) (t : Int) (g : Int) (aw : Int) (st : zS) (s1 : zS) : Prop := gInv zgt s1 ∧ aFr m_runs st s1 ∧ (goA s1)
def ct_runs (v : Int) (t : Int) (g : Int) (aw : Int) (st : zS) (Q : zQ) : Prop := rq_runs v t g aw st ∧ (∀ (s1 : zS), en_runs v t g aw st s1 → Q none s1)
theorem ct_runs_m {v t g aw : Int} {st : zS} {Q Q' : zQ} (hQ : ∀ r st', Q r st' → Q' r st') (h : ct_runs v t g aw st Q) : ct_runs v t g aw st Q' := ⟨h.1, fun x0 x1 => hQ _ _ (h.2 x0 x1)⟩
def k_runs : zCall := fun _ as st Q => match as with
  | [.inr (.inr (.inl z_o)), .inl v, .inl t, .inl g, .inl aw] => z_o = 170 ∧ ct_runs v t g aw st Q
  | _ => False
theorem k_runs_mon : zmon k_runs := by
  intro nu as st Q Q' hQ h
  unfold k_runs at h ⊢
  split at h
  · exact ⟨h.1, ct_runs_m hQ h.2⟩
  · exact h.elim
def m_isClever : aM := ([], [207, 208])
def rq_isClever (v : Int) (t : Int) (st : zS) : Prop := gInv zgt st ∧ (jC st) ∧ (0 ≤ v ∧ v ≤ 21 ∧ -2147483648 ≤ t ∧ t ≤ 2147483647)
def en_isClever (v : Int) (t : Int) (st : zS) (r : Int) (s1 : zS) : Prop := gInv zgt s1 ∧ aFr m_isClever st s1
def ct_isClever (v : Int) (t : Int) (st : zS) (Q : zQ) : Prop := rq_isClever v t st ∧ (∀ (r : Int) (s1 : zS), en_isClever v t st r s1 → Q (some (.inl r)) s1)
theorem ct_isClever_m {v t : Int} {st : zS} {Q Q' : zQ} (hQ : ∀ r st', Q r st' → Q' r st') (h : ct_isClever v t st Q) : ct_isClever v t st Q' := ⟨h.1, fun x0 x1 x2 => hQ _ _ (h.2 x0 x1 x2)⟩
def k_isClever : zCall := fun _ as st Q => match as with
  | [.inr (.inr (.inl z_o)), .inl v, .inl t] => z_o = 170 ∧ ct_isClever v t st Q
  | _ => False
theorem k_isClever_mon : zmon k_isClever := by
  intro nu as st Q Q' hQ h
  unfold k_isClever at h ⊢
  split at h
  · exact ⟨h.1, ct_isClever_m hQ h.2⟩
  · exact h.elim
def m_passes : aM := ([(170, 62), (170, 67)], [199, 202, 203, 204, 205, 206, 207, 208, 209, 210, 211, 212, 213])
def rq_passes (v : Int) (t : Int) (st : zS) : Prop := gInv zgt st ∧ (jS st) ∧ (jC st) ∧ (jgd st v) ∧ (0 ≤ v ∧ v ≤ 21 ∧ -2147483648 ≤ t ∧ t ≤ 2147483647)
def en_passes (v : Int) (t : Int) (st : zS) (s1 : zS) : Prop := gInv zgt s1 ∧ aFr m_passes st s1 ∧ (jgd s1 v) ∧ (∀ i : Nat, ¬ (30 * v ≤ (i : Int) ∧ (i : Int) < 30 * v + 30) → s1 203 i = st 203 i) ∧ (∀ i : Nat, ¬ (i : Int) = v → s1 202 i = st 202 i)
def ct_passes (v : Int) (t : Int) (st : zS) (Q : zQ) : Prop := rq_passes v t st ∧ (∀ (s1 : zS), en_passes v t st s1 → Q none s1)
theorem ct_passes_m {v t : Int} {st : zS} {Q Q' : zQ} (hQ : ∀ r st', Q r st' → Q' r st') (h : ct_passes v t st Q) : ct_passes v t st Q' := ⟨h.1, fun x0 x1 => hQ _ _ (h.2 x0 x1)⟩
def k_passes : zCall := fun _ as st Q => match as with
  | [.inr (.inr (.inl z_o)), .inl v, .inl t] => z_o = 170 ∧ ct_passes v t st Q
  | _ => False
theorem k_passes_mon : zmon k_passes := by
  intro nu as st Q Q' hQ h
  unfold k_passes at h ⊢
  split at h
  · exact ⟨h.1, ct_passes_m hQ h.2⟩
  · exact h.elim
section R7i
variable {cl : Nat → zCall}
set_option maxHeartbeats 40000000 in
set_option maxRecDepth 100000 in
theorem c_pairs (hTb : aTb zSh rx_tb cl) {D : Nat} (hD : 1 ≤ D) {st : zS} {Q : zQ} (h : ct_pairs  st Q) : cl D 152 [.inr (.inr (.inl 170))] st Q := by
  obtain ⟨d, rfl⟩ : ∃ d, D = d + 1 := ⟨D - 1, by omega⟩
  refine hTb d 152 (rx_m152, 4, 0, 0, 1) rfl _ _ _ (Nat.le_of_ble_eq_true rfl) (fun K hcl hsf hsl => ?_)
  have hcm : zmo (zno) (cl d) := zno_m
  obtain ⟨hR, hQ⟩ := h
  have hG := hR
  have la : ∀ (u : Nat) (a : Int) (n : Int), (0 ≤ a ∧ a ≤ st 170 62) ∧ (-2147483648 ≤ n ∧ n ≤ 2147483647) → (st 170 62 - a).toNat = u → K (rx_find rx_m152 4) [(2, .inl a), (1, .inl n), (0, .inr (.inr (.inl 170)))] [] st := by
    intro u_la
    induction u_la using Nat.strongRecOn with
    | _ u_la ih_la =>
      intro a n hi hu_la
      obtain ⟨b_la, n_la⟩ := hi
      have g1 := g_goMany hG
      have lb : ∀ (u : Nat) (b : Int) (n : Int), (0 ≤ b ∧ b ≤ a ∧ 0 ≤ a ∧ a < st 170 62) ∧ (-2147483648 ≤ n ∧ n ≤ 2147483647) → (a - b).toNat = u → K (rx_find rx_m152 14) [(3, .inl b), (2, .inl a), (1, .inl n), (0, .inr (.inr (.inl 170)))] [] st := by
        intro u_lb
        induction u_lb using Nat.strongRecOn with
        | _ u_lb ih_lb =>
          intro b n hi hu_lb
          obtain ⟨b_lb, n_lb⟩ := hi
          have g2 := g_goMany hG
          refine yr1_ok (Rt := Q) (wc := (zno)) (stp := [4, 14]) hcm hcl [40] 54 ?_
          show ((a ≤ b → ((-2147483648 ≤ a + 1 ∧ a + 1 ≤ 2147483647) ∧ K (rx_find rx_m152 4) [(2, .inl (a + 1)), (3, .inl b), (1, .inl n), (0, .inr (.inr (.inl 170)))] [] st)) ∧ (¬ (a ≤ b) → ((0 ≤ a ∧ a < 30) ∧ ((0 ≤ b ∧ b < 30) ∧ ((¬ st 210 (a : Int).toNat = st 210 (b : Int).toNat → ((-2147483648 ≤ b + 1 ∧ b + 1 ≤ 2147483647) ∧ K (rx_find rx_m152 14) [(3, .inl (b + 1)), (1, .inl (zw (n + 0))), (2, .inl a), (0, .inr (.inr (.inl 170)))] [] st)) ∧ (¬ (¬ st 210 (a : Int).toNat = st 210 (b : Int).toNat) → ((-2147483648 ≤ b + 1 ∧ b + 1 ≤ 2147483647) ∧ K (rx_find rx_m152 14) [(3, .inl (b + 1)), (1, .inl (zw (n + 1))), (2, .inl a), (0, .inr (.inr (.inl 170)))] [] st)))))))
          refine ⟨fun h3 => ?_, fun h3 => ?_⟩
          · refine ⟨by omega, ?_⟩
            exact hsl _ _ _ _ _ (sb_cons (.head _) (sb_cons (.tail _ (.tail _ (.head _))) (sb_cons (.tail _ (.tail _ (.tail _ (.head _)))) sb_nil))) (ih_la _ (show (st 170 62 - (a + 1) : Int).toNat < u_la from by omega) (a + 1) n ⟨(show 0 ≤ (a + 1) ∧ (a + 1) ≤ st 170 62 from by omega), (show -2147483648 ≤ n ∧ n ≤ 2147483647 from by omega)⟩ rfl)
          · have g4 := g_goPlace hG (a : Int).toNat
            refine ⟨by omega, ?_⟩
            have g5 := g_goPlace hG (b : Int).toNat
            refine ⟨by omega, ?_⟩
            refine ⟨fun h6 => ?_, fun h6 => ?_⟩
            · refine ⟨by omega, ?_⟩
              exact hsl _ _ _ _ _ (sb_cons (.head _) (sb_cons (.tail _ (.tail _ (.head _))) (sb_cons (.tail _ (.head _)) (sb_cons (.tail _ (.tail _ (.tail _ (.head _)))) sb_nil)))) (ih_lb _ (show (a - (b + 1) : Int).toNat < u_lb from by omega) (b + 1) (zw (n + 0)) ⟨(show 0 ≤ (b + 1) ∧ (b + 1) ≤ a ∧ 0 ≤ a ∧ a < st 170 62 from by omega), (show -2147483648 ≤ (zw (n + 0)) ∧ (zw (n + 0)) ≤ 2147483647 from zw_ok _)⟩ rfl)
            · refine ⟨by omega, ?_⟩
              exact hsl _ _ _ _ _ (sb_cons (.head _) (sb_cons (.tail _ (.tail _ (.head _))) (sb_cons (.tail _ (.head _)) (sb_cons (.tail _ (.tail _ (.tail _ (.head _)))) sb_nil)))) (ih_lb _ (show (a - (b + 1) : Int).toNat < u_lb from by omega) (b + 1) (zw (n + 1)) ⟨(show 0 ≤ (b + 1) ∧ (b + 1) ≤ a ∧ 0 ≤ a ∧ a < st 170 62 from by omega), (show -2147483648 ≤ (zw (n + 1)) ∧ (zw (n + 1)) ≤ 2147483647 from zw_ok _)⟩ rfl)
      refine yr1_ok (Rt := Q) (wc := (zno)) (stp := [4, 14]) hcm hcl [40] 54 ?_
      show ((st 170 62 ≤ a → Q (some (.inl n)) st) ∧ (¬ (st 170 62 ≤ a) → K (rx_find rx_m152 14) [(3, .inl 0), (2, .inl a), (1, .inl n), (0, .inr (.inr (.inl 170)))] [] st))
      refine ⟨fun h7 => ?_, fun h7 => ?_⟩
      · exact hQ _ (show -2147483648 ≤ n ∧ n ≤ 2147483647 from by omega)
      · exact lb _ 0 n ⟨(show 0 ≤ (0 : Int) ∧ (0 : Int) ≤ a ∧ 0 ≤ a ∧ a < st 170 62 from by omega), (show -2147483648 ≤ n ∧ n ≤ 2147483647 from by omega)⟩ rfl
  have g8 := g_goMany hG
  refine yr1_ok (Rt := Q) (wc := (zno)) (stp := [4, 14]) hcm hcl [40] 54 ?_
  show K (rx_find rx_m152 4) [(2, .inl 0), (1, .inl 0), (0, .inr (.inr (.inl 170)))] [] st
  exact la _ 0 0 ⟨(show 0 ≤ (0 : Int) ∧ (0 : Int) ≤ st 170 62 from by omega), (show -2147483648 ≤ (0 : Int) ∧ (0 : Int) ≤ 2147483647 from by omega)⟩ rfl
theorem k_pairs_m (hTb : aTb zSh rx_tb cl) {D : Nat} (hD : 1 ≤ D) : ∀ as st (Q Q' : zQ), (∀ r st', Q r st' → Q' r st') → k_pairs 152 as st Q → cl D 152 as st Q' := by
  intro as st Q Q' hQ h
  unfold k_pairs at h
  split at h
  · obtain ⟨rfl, h⟩ := h
    exact c_pairs hTb hD (ct_pairs_m hQ h)
  · exact h.elim
set_option maxHeartbeats 40000000 in
set_option maxRecDepth 100000 in
theorem c_bits (hTb : aTb zSh rx_tb cl) {D : Nat} (hD : 1 ≤ D) {x : Int} {st : zS} {Q : zQ} (h : ct_bits x st Q) : cl D 151 [.inl x] st Q := by
  obtain ⟨d, rfl⟩ : ∃ d, D = d + 1 := ⟨D - 1, by omega⟩
  refine hTb d 151 (rx_m151, 3, 0, 0, 1) rfl _ _ _ (Nat.le_of_ble_eq_true rfl) (fun K hcl hsf hsl => ?_)
  have hcm : zmo (zno) (cl d) := zno_m
  obtain ⟨hR, hQ⟩ := h
  have rx := hR
  change -2147483648 ≤ x ∧ x ≤ 2147483647 at rx
  have lp : ∀ (u : Nat) (left : Int) (n : Int), (-2147483648 ≤ left ∧ left ≤ 2147483647) → (((zi left : Nat) : Int)).toNat = u → K (rx_find rx_m151 4) [(2, .inl left), (1, .inl n), (0, .inl x)] [] st := by
    intro u
    induction u using Nat.strongRecOn with
    | _ u ih =>
      intro left n hi hu
      have r_lp := hi
      refine yr1_ok (Rt := Q) (wc := (zno)) (stp := [4]) hcm hcl [8, 14] 36 ?_
      show ((left = (0 : Int) → Q (some (.inl n)) st) ∧ (¬ (left = (0 : Int)) → K (rx_find rx_m151 4) [(2, .inl (zd (Nat.land (zi left) (zi (zw (left - 1)))))), (1, .inl (zw (n + 1))), (0, .inl x)] [] st))
      refine ⟨fun h1 => ?_, fun h1 => ?_⟩
      · exact hQ _
      · exact ih _ (show (((zi (zd (Nat.land (zi left) (zi (zw (left - 1))))) : Nat) : Int) : Int).toNat < u from by (have z := bits_lt (a := left) r_lp (by omega); omega)) (zd (Nat.land (zi left) (zi (zw (left - 1))))) (zw (n + 1)) (show -2147483648 ≤ (zd (Nat.land (zi left) (zi (zw (left - 1))))) ∧ (zd (Nat.land (zi left) (zi (zw (left - 1))))) ≤ 2147483647 from zdand_ok _ _) rfl
  refine yr1_ok (Rt := Q) (wc := (zno)) (stp := [4]) hcm hcl [8, 14] 36 ?_
  show K (rx_find rx_m151 4) [(2, .inl x), (1, .inl 0), (0, .inl x)] [] st
  exact lp _ x 0 (show -2147483648 ≤ x ∧ x ≤ 2147483647 from rx) rfl
theorem k_bits_m (hTb : aTb zSh rx_tb cl) {D : Nat} (hD : 1 ≤ D) : ∀ as st (Q Q' : zQ), (∀ r st', Q r st' → Q' r st') → k_bits 151 as st Q → cl D 151 as st Q' := by
  intro as st Q Q' hQ h
  unfold k_bits at h
  split at h
  · exact c_bits hTb hD (ct_bits_m hQ h)
  · exact h.elim
set_option maxHeartbeats 40000000 in
set_option maxRecDepth 100000 in
theorem c_longest (hTb : aTb zSh rx_tb cl) {D : Nat} (hD : 1 ≤ D) {st : zS} {Q : zQ} (h : ct_longest  st Q) : cl D 129 [.inr (.inr (.inl 170))] st Q := by
  obtain ⟨d, rfl⟩ : ∃ d, D = d + 1 := ⟨D - 1, by omega⟩
  refine hTb d 129 (rx_m129, 3, 0, 0, 1) rfl _ _ _ (Nat.le_of_ble_eq_true rfl) (fun K hcl hsf hsl => ?_)
  have hcm : zmo (zno) (cl d) := zno_m
  obtain ⟨hR, hQ⟩ := h
  have hG := hR
  have lp : ∀ (u : Nat) (k : Int) (be : Int), (0 ≤ k ∧ k ≤ st 170 62 ∧ -1 ≤ be ∧ be < k) → (st 170 62 - k).toNat = u → K (rx_find rx_m129 4) [(2, .inl k), (1, .inl be), (0, .inr (.inr (.inl 170)))] [] st := by
    intro u
    induction u using Nat.strongRecOn with
    | _ u ih =>
      intro k be hi hu
      have i_lp := hi
      have g1 := g_goMany hG
      refine yr1_ok (Rt := Q) (wc := (zno)) (stp := [4]) hcm hcl [] 46 ?_
      show ((st 170 62 ≤ k → Q (some (.inl be)) st) ∧ (¬ (st 170 62 ≤ k) → ((be = ((-1) : Int) → ((-2147483648 ≤ k + 1 ∧ k + 1 ≤ 2147483647) ∧ K (rx_find rx_m129 4) [(2, .inl (k + 1)), (1, .inl k), (0, .inr (.inr (.inl 170)))] [] st)) ∧ (¬ (be = ((-1) : Int)) → ((0 ≤ k ∧ k < 30) ∧ ((0 ≤ be ∧ be < 30) ∧ ((st 212 (k : Int).toNat ≤ st 212 (be : Int).toNat → ((-2147483648 ≤ k + 1 ∧ k + 1 ≤ 2147483647) ∧ K (rx_find rx_m129 4) [(2, .inl (k + 1)), (1, .inl be), (0, .inr (.inr (.inl 170)))] [] st)) ∧ (¬ (st 212 (k : Int).toNat ≤ st 212 (be : Int).toNat) → ((-2147483648 ≤ k + 1 ∧ k + 1 ≤ 2147483647) ∧ K (rx_find rx_m129 4) [(2, .inl (k + 1)), (1, .inl k), (0, .inr (.inr (.inl 170)))] [] st)))))))))
      refine ⟨fun h2 => ?_, fun h2 => ?_⟩
      · exact hQ _ (show -1 ≤ be ∧ be < st 170 62 from by omega)
      · refine ⟨fun h3 => ?_, fun h3 => ?_⟩
        · refine ⟨by omega, ?_⟩
          exact ih _ (show (st 170 62 - (k + 1) : Int).toNat < u from by omega) (k + 1) k (show 0 ≤ (k + 1) ∧ (k + 1) ≤ st 170 62 ∧ -1 ≤ k ∧ k < (k + 1) from by omega) rfl
        · have g4 := g_goStands hG (k : Int).toNat
          refine ⟨by omega, ?_⟩
          have g5 := g_goStands hG (be : Int).toNat
          refine ⟨by omega, ?_⟩
          refine ⟨fun h6 => ?_, fun h6 => ?_⟩
          · refine ⟨by omega, ?_⟩
            exact ih _ (show (st 170 62 - (k + 1) : Int).toNat < u from by omega) (k + 1) be (show 0 ≤ (k + 1) ∧ (k + 1) ≤ st 170 62 ∧ -1 ≤ be ∧ be < (k + 1) from by omega) rfl
          · refine ⟨by omega, ?_⟩
            exact ih _ (show (st 170 62 - (k + 1) : Int).toNat < u from by omega) (k + 1) k (show 0 ≤ (k + 1) ∧ (k + 1) ≤ st 170 62 ∧ -1 ≤ k ∧ k < (k + 1) from by omega) rfl
  have g7 := g_goMany hG
  refine yr1_ok (Rt := Q) (wc := (zno)) (stp := [4]) hcm hcl [] 46 ?_
  show K (rx_find rx_m129 4) [(2, .inl 0), (1, .inl (-1)), (0, .inr (.inr (.inl 170)))] [] st
  exact lp _ 0 (-1) (show 0 ≤ (0 : Int) ∧ (0 : Int) ≤ st 170 62 ∧ -1 ≤ ((-1) : Int) ∧ ((-1) : Int) < (0 : Int) from by omega) rfl
theorem k_longest_m (hTb : aTb zSh rx_tb cl) {D : Nat} (hD : 1 ≤ D) : ∀ as st (Q Q' : zQ), (∀ r st', Q r st' → Q' r st') → k_longest 129 as st Q → cl D 129 as st Q' := by
  intro as st Q Q' hQ h
  unfold k_longest at h
  split at h
  · obtain ⟨rfl, h⟩ := h
    exact c_longest hTb hD (ct_longest_m hQ h)
  · exact h.elim
set_option maxHeartbeats 40000000 in
set_option maxRecDepth 100000 in
theorem c_comesBy (hTb : aTb zSh rx_tb cl) {D : Nat} (hD : 1 ≤ D) {p : Int} {st : zS} {Q : zQ} (h : ct_comesBy p st Q) : cl D 221 [.inr (.inr (.inl 170)), .inl p] st Q := by
  obtain ⟨d, rfl⟩ : ∃ d, D = d + 1 := ⟨D - 1, by omega⟩
  refine hTb d 221 (rx_m221, 3, 0, 0, 2) rfl _ _ _ (Nat.le_of_ble_eq_true rfl) (fun K hcl hsf hsl => ?_)
  have hcm : zmo (zno) (cl d) := zno_m
  obtain ⟨hR, hQ⟩ := h
  have hG := hR
  have lp : ∀ (u : Nat) (k : Int), (0 ≤ k ∧ k ≤ st 170 62) → (st 170 62 - k).toNat = u → K (rx_find rx_m221 2) [(2, .inl k), (0, .inr (.inr (.inl 170))), (1, .inl p)] [] st := by
    intro u
    induction u using Nat.strongRecOn with
    | _ u ih =>
      intro k hi hu
      have i_lp := hi
      have g1 := g_goMany hG
      refine yr1_ok (Rt := Q) (wc := (zno)) (stp := [2]) hcm hcl [] 38 ?_
      show ((st 170 62 ≤ k → ((0 = (0 : Int) ∨ 0 = (1 : Int)) ∧ Q (some (.inl 0)) st)) ∧ (¬ (st 170 62 ≤ k) → ((0 ≤ k ∧ k < 30) ∧ ((¬ st 210 (k : Int).toNat = p → ((-2147483648 ≤ k + 1 ∧ k + 1 ≤ 2147483647) ∧ K (rx_find rx_m221 2) [(2, .inl (k + 1)), (0, .inr (.inr (.inl 170))), (1, .inl p)] [] st)) ∧ (¬ (¬ st 210 (k : Int).toNat = p) → ((1 = (0 : Int) ∨ 1 = (1 : Int)) ∧ Q (some (.inl 1)) st))))))
      refine ⟨fun h2 => ?_, fun h2 => ?_⟩
      · refine ⟨by omega, ?_⟩
        exact hQ _
      · have g3 := g_goPlace hG (k : Int).toNat
        refine ⟨by omega, ?_⟩
        refine ⟨fun h4 => ?_, fun h4 => ?_⟩
        · refine ⟨by omega, ?_⟩
          exact ih _ (show (st 170 62 - (k + 1) : Int).toNat < u from by omega) (k + 1) (show 0 ≤ (k + 1) ∧ (k + 1) ≤ st 170 62 from by omega) rfl
        · refine ⟨by omega, ?_⟩
          exact hQ _
  have g5 := g_goMany hG
  refine yr1_ok (Rt := Q) (wc := (zno)) (stp := [2]) hcm hcl [] 38 ?_
  show K (rx_find rx_m221 2) [(2, .inl 0), (0, .inr (.inr (.inl 170))), (1, .inl p)] [] st
  exact lp _ 0 (show 0 ≤ (0 : Int) ∧ (0 : Int) ≤ st 170 62 from by omega) rfl
theorem k_comesBy_m (hTb : aTb zSh rx_tb cl) {D : Nat} (hD : 1 ≤ D) : ∀ as st (Q Q' : zQ), (∀ r st', Q r st' → Q' r st') → k_comesBy 221 as st Q → cl D 221 as st Q' := by
  intro as st Q Q' hQ h
  unfold k_comesBy at h
  split at h
  · obtain ⟨rfl, h⟩ := h
    exact c_comesBy hTb hD (ct_comesBy_m hQ h)
  · exact h.elim
set_option maxHeartbeats 40000000 in
set_option maxRecDepth 100000 in
theorem c_canBe (hTb : aTb zSh rx_tb cl) {D : Nat} (hD : 1 ≤ D) {x p : Int} {st : zS} {Q : zQ} (h : ct_canBe x p st Q) : cl D 222 [.inr (.inr (.inl 170)), .inl x, .inl p] st Q := by
  obtain ⟨d, rfl⟩ : ∃ d, D = d + 1 := ⟨D - 1, by omega⟩
  refine hTb d 222 (rx_m222, 4, 0, 0, 2) rfl _ _ _ (Nat.le_of_ble_eq_true rfl) (fun K hcl hsf hsl => ?_)
  have hcm : zmo (zno) (cl d) := zno_m
  obtain ⟨hR, hQ⟩ := h
  have hG := hR
  have lp : ∀ (u : Nat) (k : Int), (0 ≤ k ∧ k ≤ st 170 71) → (st 170 71 - k).toNat = u → K (rx_find rx_m222 2) [(3, .inl k), (0, .inr (.inr (.inl 170))), (1, .inl x), (2, .inl p)] [] st := by
    intro u
    induction u using Nat.strongRecOn with
    | _ u ih =>
      intro k hi hu
      have i_lp := hi
      have g1 := g_rows hG
      refine yr1_ok (Rt := Q) (wc := (zno)) (stp := [2]) hcm hcl [] 44 ?_
      show ((st 170 71 ≤ k → ((1 = (0 : Int) ∨ 1 = (1 : Int)) ∧ Q (some (.inl 1)) st)) ∧ (¬ (st 170 71 ≤ k) → ((0 ≤ k ∧ k < 20) ∧ ((¬ st 216 (k : Int).toNat = x → ((-2147483648 ≤ k + 1 ∧ k + 1 ≤ 2147483647) ∧ K (rx_find rx_m222 2) [(3, .inl (k + 1)), (0, .inr (.inr (.inl 170))), (1, .inl x), (2, .inl p)] [] st)) ∧ (¬ (¬ st 216 (k : Int).toNat = x) → ((0 ≤ k ∧ k < 20) ∧ ((st 217 (k : Int).toNat = p → ((-2147483648 ≤ k + 1 ∧ k + 1 ≤ 2147483647) ∧ K (rx_find rx_m222 2) [(3, .inl (k + 1)), (0, .inr (.inr (.inl 170))), (1, .inl x), (2, .inl p)] [] st)) ∧ (¬ (st 217 (k : Int).toNat = p) → ((0 = (0 : Int) ∨ 0 = (1 : Int)) ∧ Q (some (.inl 0)) st)))))))))
      refine ⟨fun h2 => ?_, fun h2 => ?_⟩
      · refine ⟨by omega, ?_⟩
        exact hQ _
      · have g3 := g_rowNumber hG (k : Int).toNat
        refine ⟨by omega, ?_⟩
        refine ⟨fun h4 => ?_, fun h4 => ?_⟩
        · refine ⟨by omega, ?_⟩
          exact ih _ (show (st 170 71 - (k + 1) : Int).toNat < u from by omega) (k + 1) (show 0 ≤ (k + 1) ∧ (k + 1) ≤ st 170 71 from by omega) rfl
        · have g5 := g_rowPlace hG (k : Int).toNat
          refine ⟨by omega, ?_⟩
          refine ⟨fun h6 => ?_, fun h6 => ?_⟩
          · refine ⟨by omega, ?_⟩
            exact ih _ (show (st 170 71 - (k + 1) : Int).toNat < u from by omega) (k + 1) (show 0 ≤ (k + 1) ∧ (k + 1) ≤ st 170 71 from by omega) rfl
          · refine ⟨by omega, ?_⟩
            exact hQ _
  have g7 := g_rows hG
  refine yr1_ok (Rt := Q) (wc := (zno)) (stp := [2]) hcm hcl [] 44 ?_
  show K (rx_find rx_m222 2) [(3, .inl 0), (0, .inr (.inr (.inl 170))), (1, .inl x), (2, .inl p)] [] st
  exact lp _ 0 (show 0 ≤ (0 : Int) ∧ (0 : Int) ≤ st 170 71 from by omega) rfl
theorem k_canBe_m (hTb : aTb zSh rx_tb cl) {D : Nat} (hD : 1 ≤ D) : ∀ as st (Q Q' : zQ), (∀ r st', Q r st' → Q' r st') → k_canBe 222 as st Q → cl D 222 as st Q' := by
  intro as st Q Q' hQ h
  unfold k_canBe at h
  split at h
  · obtain ⟨rfl, h⟩ := h
    exact c_canBe hTb hD (ct_canBe_m hQ h)
  · exact h.elim
set_option maxHeartbeats 40000000 in
set_option maxRecDepth 100000 in
theorem c_draw (hTb : aTb zSh rx_tb cl) {D : Nat} (hD : 1 ≤ D) {x : Int} {st : zS} {Q : zQ} (h : ct_draw x st Q) : cl D 40 [.inr (.inr (.inl 170)), .inl x] st Q := by
  obtain ⟨d, rfl⟩ : ∃ d, D = d + 1 := ⟨D - 1, by omega⟩
  refine hTb d 40 (rx_m40, 2, 0, 0, 1) rfl _ _ _ (Nat.le_of_ble_eq_true rfl) (fun K hcl hsf hsl => ?_)
  have hcm : zmo (zno) (cl d) := zno_m
  obtain ⟨hR, hQ⟩ := h
  obtain ⟨hG, rx⟩ := hR
  change 1 ≤ x ∧ x ≤ 2147483647 at rx
  have g1 := g_seeds hG
  refine yr1_ok (Rt := Q) (wc := (zno)) (stp := []) hcm hcl [31] 39 ?_
  show ((-9223372036854775808 ≤ (1103515245 : Int) * (st 170 58) ∧ (1103515245 : Int) * (st 170 58) ≤ 9223372036854775807) ∧ ((-9223372036854775808 ≤ ((1103515245 : Int) * (st 170 58)) + 12345 ∧ ((1103515245 : Int) * (st 170 58)) + 12345 ≤ 9223372036854775807) ∧ ((¬ (2147483648 : Int) = 0) ∧ ((¬ (64 : Int) = 0) ∧ ((¬ x = 0) ∧ Q (some (.inl (zw (zx (Int.tmod (zx (Int.tdiv (zx (Int.tmod (((1103515245 : Int) * (st 170 58)) + 12345) 2147483648)) 64)) x))))) (zup st 170 58 (zx (Int.tmod (((1103515245 : Int) * (st 170 58)) + 12345) 2147483648))))))))
  refine ⟨by omega, ?_⟩
  refine ⟨by omega, ?_⟩
  refine ⟨by omega, ?_⟩
  refine ⟨by omega, ?_⟩
  refine ⟨by omega, ?_⟩
  exact hQ _ _ ⟨(gInv_up hG (p_seeds (dr_ok (by omega) (by omega)))), (fr_f (fr_rf _ _) rfl), (show -2147483648 ≤ (zw (zx (Int.tmod (zx (Int.tdiv (zx (Int.tmod (((1103515245 : Int) * (st 170 58)) + 12345) 2147483648)) 64)) x))) ∧ (zw (zx (Int.tmod (zx (Int.tdiv (zx (Int.tmod (((1103515245 : Int) * (st 170 58)) + 12345) 2147483648)) 64)) x))) ≤ 2147483647 from zw_ok _)⟩
theorem k_draw_m (hTb : aTb zSh rx_tb cl) {D : Nat} (hD : 1 ≤ D) : ∀ as st (Q Q' : zQ), (∀ r st', Q r st' → Q' r st') → k_draw 40 as st Q → cl D 40 as st Q' := by
  intro as st Q Q' hQ h
  unfold k_draw at h
  split at h
  · obtain ⟨rfl, h⟩ := h
    exact c_draw hTb hD (ct_draw_m hQ h)
  · exact h.elim
set_option maxHeartbeats 40000000 in
set_option maxRecDepth 100000 in
theorem c_stands (hTb : aTb zSh rx_tb cl) {D : Nat} (hD : 4 ≤ D) {v k t aw : Int} {st : zS} {Q : zQ} (h : ct_stands v k t aw st Q) : cl D 219 [.inr (.inr (.inl 170)), .inl v, .inl k, .inl t, .inl aw] st Q := by
  obtain ⟨d, rfl⟩ : ∃ d, D = d + 1 := ⟨D - 1, by omega⟩
  refine hTb d 219 (rx_m219, 8, 0, 0, 1) rfl _ _ _ (Nat.le_of_ble_eq_true rfl) (fun K hcl hsf hsl => ?_)
  have hcm : zmo (wcL [(22, k_isTold), (218, k_pulls), (215, k_reckons)]) (cl d) := (wcL_m (wm_cons (k_isTold_m hTb (by omega)) (wm_cons (k_pulls_m hTb (by omega)) (wm_cons (k_reckons_m hTb (by omega)) wm_nil))))
  obtain ⟨hR, hQ⟩ := h
  obtain ⟨hG, jc, vv⟩ := hR
  change jC st at jc
  change 0 ≤ v ∧ v ≤ 21 ∧ 0 ≤ k ∧ k < 30 ∧ -2147483648 ≤ t ∧ t ≤ 2147483647 at vv
  have lp : ∀ (u : Nat) (ob : Int) (be : Int), (0 ≤ be ∧ be ≤ ob ∧ ob ≤ k) ∧ (¬ st 186 (2 * st 170 13 + 0 : Int).toNat = -1) → (k - ob).toNat = u → K (rx_find rx_m219 21) [(6, .inl ob), (5, .inl be), (0, .inr (.inr (.inl 170))), (1, .inl v), (2, .inl k), (3, .inl t), (4, .inl aw)] [] st := by
    intro u
    induction u using Nat.strongRecOn with
    | _ u ih =>
      intro ob be hi hu
      obtain ⟨i_lp, tt_lp⟩ := hi
      have g1 := g_bank hG
      have g2 := g_sumFrom hG (2 * st 170 13 + 0 : Int).toNat
      refine yr1_ok (Rt := Q) (wc := (wcL [(22, k_isTold), (218, k_pulls), (215, k_reckons)])) (stp := [21]) hcm hcl [] 115 ?_
      show ((k ≤ ob → ((0 ≤ (1 : Int) ∧ (1 : Int) < 12) ∧ ((0 ≤ v ∧ v < 22) ∧ ((0 ≤ (2 : Int) ∧ (2 : Int) < 12) ∧ ((0 ≤ k ∧ k < 30) ∧ ((0 ≤ (3 : Int) ∧ (3 : Int) < 12) ∧ ((0 ≤ k ∧ k < 30) ∧ (170 = 170 ∧ (rq_pulls v (st 210 (k : Int).toNat) aw (zup (zup (zup st 208 (1 : Int).toNat t) 208 (2 : Int).toNat (st 199 (v : Int).toNat)) 208 (3 : Int).toNat (st 211 (k : Int).toNat)) ∧ (∀ (r3 : Int), en_pulls v (st 210 (k : Int).toNat) aw (zup (zup (zup st 208 (1 : Int).toNat t) 208 (2 : Int).toNat (st 199 (v : Int).toNat)) 208 (3 : Int).toNat (st 211 (k : Int).toNat)) r3 → ((0 ≤ (4 : Int) ∧ (4 : Int) < 12) ∧ ((0 ≤ (5 : Int) ∧ (5 : Int) < 12) ∧ ((0 ≤ (6 : Int) ∧ (6 : Int) < 12) ∧ (170 = 170 ∧ (rq_reckons (0) (zup (zup (zup (zup (zup (zup st 208 (1 : Int).toNat t) 208 (2 : Int).toNat (st 199 (v : Int).toNat)) 208 (3 : Int).toNat (st 211 (k : Int).toNat)) 208 (4 : Int).toNat r3) 208 (5 : Int).toNat k) 208 (6 : Int).toNat be) ∧ (∀ (r4 : Int) (s4 : zS), en_reckons (0) (zup (zup (zup (zup (zup (zup st 208 (1 : Int).toNat t) 208 (2 : Int).toNat (st 199 (v : Int).toNat)) 208 (3 : Int).toNat (st 211 (k : Int).toNat)) 208 (4 : Int).toNat r3) 208 (5 : Int).toNat k) 208 (6 : Int).toNat be) r4 s4 → (∀ (w5 : Int), (r4 < 0 ∧ w5 = -1 ∨ r4 = 0 ∧ w5 = 0 ∨ 0 < r4 ∧ w5 = 1) → (((0 : Int) ≤ w5 → (∀ (w6 : Int), (r4 < 60 ∧ w6 = -1 ∨ r4 = 60 ∧ w6 = 0 ∨ 60 < r4 ∧ w6 = 1) → ((w6 ≤ (0 : Int) → ((-2147483648 ≤ r4 ∧ r4 ≤ 2147483647) ∧ Q (some (.inl r4)) s4)) ∧ (¬ (w6 ≤ (0 : Int)) → Q (some (.inl 60)) s4)))) ∧ (¬ ((0 : Int) ≤ w5) → Q (some (.inl 0)) s4))))))))))))))))))) ∧ (¬ (k ≤ ob) → ((0 ≤ ob ∧ ob < 30) ∧ ((0 ≤ k ∧ k < 30) ∧ ((¬ st 210 (ob : Int).toNat = st 210 (k : Int).toNat → ((-2147483648 ≤ be + 0 ∧ be + 0 ≤ 2147483647) ∧ ((-2147483648 ≤ ob + 1 ∧ ob + 1 ≤ 2147483647) ∧ K (rx_find rx_m219 21) [(6, .inl (ob + 1)), (5, .inl (be + 0)), (0, .inr (.inr (.inl 170))), (1, .inl v), (2, .inl k), (3, .inl t), (4, .inl aw)] [] st))) ∧ (¬ (¬ st 210 (ob : Int).toNat = st 210 (k : Int).toNat) → ((-2147483648 ≤ be + 1 ∧ be + 1 ≤ 2147483647) ∧ ((-2147483648 ≤ ob + 1 ∧ ob + 1 ≤ 2147483647) ∧ K (rx_find rx_m219 21) [(6, .inl (ob + 1)), (5, .inl (be + 1)), (0, .inr (.inr (.inl 170))), (1, .inl v), (2, .inl k), (3, .inl t), (4, .inl aw)] [] st))))))))
      refine ⟨fun h7 => ?_, fun h7 => ?_⟩
      · refine ⟨by omega, ?_⟩
        have g8 := g_yearOf hG (v : Int).toNat
        refine ⟨by omega, ?_⟩
        refine ⟨by omega, ?_⟩
        have g9 := g_goTold hG (k : Int).toNat
        refine ⟨by omega, ?_⟩
        refine ⟨by omega, ?_⟩
        have g10 := g_goPlace hG (k : Int).toNat
        refine ⟨by omega, ?_⟩
        refine ⟨rfl, ⟨(gInv_up (gInv_up (gInv_up hG (p_askedOf (by omega))) (p_askedOf (by omega))) (p_askedOf (by omega))), (show 0 ≤ v ∧ v ≤ 21 from by omega)⟩, fun r3 q3 => ?_⟩
        have e3 := q3
        change -2147483648 ≤ r3 ∧ r3 ≤ 2147483647 at e3
        refine ⟨by omega, ?_⟩
        refine ⟨by omega, ?_⟩
        refine ⟨by omega, ?_⟩
        have g11 := g_sumFrom hG (2 * st 170 13 + (0) : Int).toNat
        refine ⟨rfl, ⟨(gInv_up (gInv_up (gInv_up (gInv_up (gInv_up (gInv_up hG (p_askedOf (by omega))) (p_askedOf (by omega))) (p_askedOf (by omega))) (p_askedOf (by omega))) (p_askedOf (by omega))) (p_askedOf (by omega))), (show jC (zup (zup (zup (zup (zup (zup st 208 (1 : Int).toNat t) 208 (2 : Int).toNat (st 199 (v : Int).toNat)) 208 (3 : Int).toNat (st 211 (k : Int).toNat)) 208 (4 : Int).toNat r3) 208 (5 : Int).toNat k) 208 (6 : Int).toNat be) from (jC_e jc rfl (fun _ => rfl) (fun _ => rfl) (fun _ => rfl))), (show 0 ≤ (0) ∧ (0) ≤ 1 from by omega), (show ¬ st 186 (2 * st 170 13 + (0) : Int).toNat = -1 from by omega)⟩, fun r4 s4 q4 => ?_⟩
        obtain ⟨gs4, fs4, e4⟩ := q4
        change -9223372036854775808 ≤ r4 ∧ r4 ≤ 9223372036854775807 at e4
        intro w5 hw5
        refine ⟨fun h12 => ?_, fun h12 => ?_⟩
        · intro w6 hw6
          refine ⟨fun h13 => ?_, fun h13 => ?_⟩
          · refine ⟨by omega, ?_⟩
            exact hQ _ _ ⟨gs4, (fr_tr (fr_a (fr_a (fr_a (fr_a (fr_a (fr_a (fr_rf _ _) rfl) rfl) rfl) rfl) rfl) rfl) fs4 rfl), (show -2147483648 ≤ r4 ∧ r4 ≤ 2147483647 from by omega)⟩
          · exact hQ _ _ ⟨gs4, (fr_tr (fr_a (fr_a (fr_a (fr_a (fr_a (fr_a (fr_rf _ _) rfl) rfl) rfl) rfl) rfl) rfl) fs4 rfl), (show -2147483648 ≤ (60 : Int) ∧ (60 : Int) ≤ 2147483647 from by omega)⟩
        · exact hQ _ _ ⟨gs4, (fr_tr (fr_a (fr_a (fr_a (fr_a (fr_a (fr_a (fr_rf _ _) rfl) rfl) rfl) rfl) rfl) rfl) fs4 rfl), (show -2147483648 ≤ (0 : Int) ∧ (0 : Int) ≤ 2147483647 from by omega)⟩
      · have g14 := g_goPlace hG (ob : Int).toNat
        refine ⟨by omega, ?_⟩
        have g15 := g_goPlace hG (k : Int).toNat
        refine ⟨by omega, ?_⟩
        refine ⟨fun h16 => ?_, fun h16 => ?_⟩
        · refine ⟨by omega, ?_⟩
          refine ⟨by omega, ?_⟩
          exact ih _ (show (k - (ob + 1) : Int).toNat < u from by omega) (ob + 1) (be + 0) ⟨(show 0 ≤ (be + 0) ∧ (be + 0) ≤ (ob + 1) ∧ (ob + 1) ≤ k from by omega), (show ¬ st 186 (2 * st 170 13 + 0 : Int).toNat = -1 from by omega)⟩ rfl
        · refine ⟨by omega, ?_⟩
          refine ⟨by omega, ?_⟩
          exact ih _ (show (k - (ob + 1) : Int).toNat < u from by omega) (ob + 1) (be + 1) ⟨(show 0 ≤ (be + 1) ∧ (be + 1) ≤ (ob + 1) ∧ (ob + 1) ≤ k from by omega), (show ¬ st 186 (2 * st 170 13 + 0 : Int).toNat = -1 from by omega)⟩ rfl
  refine yr1_ok (Rt := Q) (wc := (wcL [(22, k_isTold), (218, k_pulls), (215, k_reckons)])) (stp := [21]) hcm hcl [] 115 ?_
  show (170 = 170 ∧ (rq_isTold (0) st ∧ (∀ (r17 : Int), en_isTold (0) st r17 → ((¬ r17 = (0 : Int) → K (rx_find rx_m219 21) [(6, .inl 0), (5, .inl 0), (0, .inr (.inr (.inl 170))), (1, .inl v), (2, .inl k), (3, .inl t), (4, .inl aw)] [] st) ∧ (¬ (¬ r17 = (0 : Int)) → ((0 ≤ k ∧ k < 30) ∧ Q (some (.inl (st 211 (k : Int).toNat))) st))))))
  refine ⟨rfl, ⟨hG, (show 0 ≤ (0) ∧ (0) ≤ 1 from by omega)⟩, fun r17 q17 => ?_⟩
  have b17 := q17
  change (r17 = 0 ∨ r17 = 1) ∧ (r17 = 1 ↔ ¬ st 186 (2 * st 170 13 + (0) : Int).toNat = -1) at b17
  have g18 := g_bank hG
  have g19 := g_sumFrom hG (2 * st 170 13 + (0) : Int).toNat
  refine ⟨fun h20 => ?_, fun h20 => ?_⟩
  · have g21 := g_sumFrom hG (2 * st 170 13 + 0 : Int).toNat
    exact lp _ 0 0 ⟨(show 0 ≤ (0 : Int) ∧ (0 : Int) ≤ (0 : Int) ∧ (0 : Int) ≤ k from by omega), (show ¬ st 186 (2 * st 170 13 + 0 : Int).toNat = -1 from by omega)⟩ rfl
  · have g22 := g_goTold hG (k : Int).toNat
    refine ⟨by omega, ?_⟩
    exact hQ _ _ ⟨hG, (fr_rf _ _), (show -2147483648 ≤ (st 211 (k : Int).toNat) ∧ (st 211 (k : Int).toNat) ≤ 2147483647 from by omega)⟩
theorem k_stands_m (hTb : aTb zSh rx_tb cl) {D : Nat} (hD : 4 ≤ D) : ∀ as st (Q Q' : zQ), (∀ r st', Q r st' → Q' r st') → k_stands 219 as st Q → cl D 219 as st Q' := by
  intro as st Q Q' hQ h
  unfold k_stands at h
  split at h
  · obtain ⟨rfl, h⟩ := h
    exact c_stands hTb hD (ct_stands_m hQ h)
  · exact h.elim
set_option maxHeartbeats 40000000 in
set_option maxRecDepth 100000 in
theorem c_runs (hTb : aTb zSh rx_tb cl) {D : Nat} (hD : 5 ≤ D) {v t g aw : Int} {st : zS} {Q : zQ} (h : ct_runs v t g aw st Q) : cl D 13 [.inr (.inr (.inl 170)), .inl v, .inl t, .inl g, .inl aw] st Q := by
  obtain ⟨d, rfl⟩ : ∃ d, D = d + 1 := ⟨D - 1, by omega⟩
  refine hTb d 13 (rx_m13, 6, 0, 0, 0) rfl _ _ _ (Nat.le_of_ble_eq_true rfl) (fun K hcl hsf hsl => ?_)
  have hcm : zmo (wcL [(14, k_walks), (0, k_between), (219, k_stands)]) (cl d) := (wcL_m (wm_cons (k_walks_m hTb (by omega)) (wm_cons (k_between_m hTb (by omega)) (wm_cons (k_stands_m hTb (by omega)) wm_nil))))
  obtain ⟨hR, hQ⟩ := h
  obtain ⟨hG, js, jc, gd, vv⟩ := hR
  change jS st at js
  change jC st at jc
  change jgd st v at gd
  change 0 ≤ v ∧ v ≤ 21 ∧ -2147483648 ≤ t ∧ t ≤ 2147483647 at vv
  have lp : ∀ (u : Nat) (k : Int) (s_lp : zS), gInv zgt s_lp ∧ aFr m_runs st s_lp ∧ (goA s_lp) ∧ (0 ≤ k ∧ k ≤ s_lp 170 62) → (s_lp 170 62 - k).toNat = u → K (rx_find rx_m13 21) [(5, .inl k), (0, .inr (.inr (.inl 170))), (1, .inl v), (2, .inl t), (3, .inl g), (4, .inl aw)] [] s_lp := by
    intro u
    induction u using Nat.strongRecOn with
    | _ u ih =>
      intro k s_lp hi hu
      obtain ⟨gI_lp, fI_lp, a_lp, i_lp⟩ := hi
      have ga : 0 < k → k < s_lp 170 62 → 0 < s_lp 177 (64 * s_lp 170 13 + 8 * s_lp 210 (k - 1 : Int).toNat + s_lp 210 (k : Int).toNat : Int).toNat := a_lp k
      have g1 := g_goMany gI_lp
      refine yr1_ok (Rt := Q) (wc := (wcL [(14, k_walks), (0, k_between), (219, k_stands)])) (stp := [21]) hcm hcl [79, 123] 97 ?_
      show ((s_lp 170 62 ≤ k → Q none s_lp) ∧ (¬ (s_lp 170 62 ≤ k) → ((k ≤ (0 : Int) → ((0 ≤ k ∧ k < 30) ∧ (170 = 170 ∧ (rq_stands v k t aw (zup s_lp 213 (k : Int).toNat (s_lp 170 67)) ∧ (∀ (r2 : Int) (s2 : zS), en_stands v k t aw (zup s_lp 213 (k : Int).toNat (s_lp 170 67)) r2 s2 → ((0 ≤ k ∧ k < 30) ∧ ((0 ≤ k ∧ k < 30) ∧ ((-2147483648 ≤ k + 1 ∧ k + 1 ≤ 2147483647) ∧ K (rx_find rx_m13 21) [(5, .inl (k + 1)), (0, .inr (.inr (.inl 170))), (1, .inl v), (2, .inl t), (3, .inl g), (4, .inl aw)] [] (zup (zup s2 212 (k : Int).toNat r2) 170 67 (zw ((s2 170 67) + ((zup s2 212 (k : Int).toNat r2) 212 (k : Int).toNat)))))))))))) ∧ (¬ (k ≤ (0 : Int)) → ((-2147483648 ≤ (14 : Int) * (s_lp 170 13) ∧ (14 : Int) * (s_lp 170 13) ≤ 2147483647) ∧ ((-2147483648 ≤ k - 1 ∧ k - 1 ≤ 2147483647) ∧ ((0 ≤ k - 1 ∧ k - 1 < 30) ∧ ((0 ≤ k ∧ k < 30) ∧ (170 = 170 ∧ (rq_between (s_lp 170 13) (s_lp 210 (k - 1 : Int).toNat) (s_lp 210 (k : Int).toNat) s_lp ∧ (∀ (r3 : Int), en_between (s_lp 170 13) (s_lp 210 (k - 1 : Int).toNat) (s_lp 210 (k : Int).toNat) s_lp r3 → ((-2147483648 ≤ ((14 : Int) * (s_lp 170 13)) + r3 ∧ ((14 : Int) * (s_lp 170 13)) + r3 ≤ 2147483647) ∧ ((-2147483648 ≤ (((14 : Int) * (s_lp 170 13)) + r3) - 1 ∧ (((14 : Int) * (s_lp 170 13)) + r3) - 1 ≤ 2147483647) ∧ ((0 ≤ (((14 : Int) * (s_lp 170 13)) + r3) - 1 ∧ (((14 : Int) * (s_lp 170 13)) + r3) - 1 < 28) ∧ ((0 ≤ k ∧ k < 30) ∧ (170 = 170 ∧ (rq_stands v k t aw (zup (zup s_lp 170 67 (zw ((s_lp 170 67) + (s_lp 176 ((((14 : Int) * (s_lp 170 13)) + r3) - 1 : Int).toNat)))) 213 (k : Int).toNat (zw ((s_lp 170 67) + (s_lp 176 ((((14 : Int) * (s_lp 170 13)) + r3) - 1 : Int).toNat)))) ∧ (∀ (r4 : Int) (s4 : zS), en_stands v k t aw (zup (zup s_lp 170 67 (zw ((s_lp 170 67) + (s_lp 176 ((((14 : Int) * (s_lp 170 13)) + r3) - 1 : Int).toNat)))) 213 (k : Int).toNat (zw ((s_lp 170 67) + (s_lp 176 ((((14 : Int) * (s_lp 170 13)) + r3) - 1 : Int).toNat)))) r4 s4 → ((0 ≤ k ∧ k < 30) ∧ ((0 ≤ k ∧ k < 30) ∧ ((-2147483648 ≤ k + 1 ∧ k + 1 ≤ 2147483647) ∧ K (rx_find rx_m13 21) [(5, .inl (k + 1)), (0, .inr (.inr (.inl 170))), (1, .inl v), (2, .inl t), (3, .inl g), (4, .inl aw)] [] (zup (zup s4 212 (k : Int).toNat r4) 170 67 (zw ((s4 170 67) + ((zup s4 212 (k : Int).toNat r4) 212 (k : Int).toNat)))))))))))))))))))))))))
      refine ⟨fun h5 => ?_, fun h5 => ?_⟩
      · exact hQ _ ⟨gI_lp, fI_lp, (show goA s_lp from a_lp)⟩
      · refine ⟨fun h6 => ?_, fun h6 => ?_⟩
        · have g7 := g_time gI_lp
          refine ⟨by omega, ?_⟩
          refine ⟨rfl, ⟨(gInv_up gI_lp (p_goTime (by omega))), (show jC (zup s_lp 213 (k : Int).toNat (s_lp 170 67)) from (jC_e jc (fI_lp 170 13 rfl rfl) (fun i => (fI_lp 186 i rfl rfl)) (fun i => (fI_lp 187 i rfl rfl)) (fun i => (fI_lp 188 i rfl rfl)))), (show 0 ≤ v ∧ v ≤ 21 ∧ 0 ≤ k ∧ k < 30 ∧ -2147483648 ≤ t ∧ t ≤ 2147483647 from by omega)⟩, fun r2 s2 q2 => ?_⟩
          obtain ⟨gs2, fs2, e2⟩ := q2
          change -2147483648 ≤ r2 ∧ r2 ≤ 2147483647 at e2
          refine ⟨by omega, ?_⟩
          have e8 : s2 170 67 = s_lp 170 67 := fs2 170 67 rfl rfl
          have u9 : (zup s2 212 (k : Int).toNat r2) 212 (k : Int).toNat = r2 := zup_eq _ _ _ _
          refine ⟨by omega, ?_⟩
          refine ⟨by omega, ?_⟩
          have e10 : s2 170 62 = s_lp 170 62 := fs2 170 62 rfl rfl
          exact ih _ (show (s2 170 62 - (k + 1) : Int).toNat < u from by omega) (k + 1) (zup (zup s2 212 (k : Int).toNat r2) 170 67 (zw ((s2 170 67) + ((zup s2 212 (k : Int).toNat r2) 212 (k : Int).toNat)))) ⟨(gInv_up (gInv_up gs2 (p_goStands (by omega))) (p_time (zw_ok _))), (fr_f (fr_a (fr_tr (fr_a fI_lp rfl) fs2 rfl) rfl) rfl), (show goA (zup (zup s2 212 (k : Int).toNat r2) 170 67 (zw ((s2 170 67) + ((zup s2 212 (k : Int).toNat r2) 212 (k : Int).toNat)))) from (goA_e (fs2 170 62 rfl rfl) (fs2 170 13 rfl rfl) (fun i => (fs2 210 i rfl rfl)) (fun i => (fs2 177 i rfl rfl)) a_lp)), (show 0 ≤ (k + 1) ∧ (k + 1) ≤ s2 170 62 from by omega)⟩ rfl
        · have g11 := g_time gI_lp
          have g13 := g_bank hG
          have e12 : s_lp 170 13 = st 170 13 := fI_lp 170 13 rfl rfl
          refine ⟨by omega, ?_⟩
          refine ⟨by omega, ?_⟩
          have g14 := g_goPlace gI_lp (k - 1 : Int).toNat
          refine ⟨by omega, ?_⟩
          have g15 := g_goPlace gI_lp (k : Int).toNat
          refine ⟨by omega, ?_⟩
          refine ⟨rfl, (show 0 ≤ (s_lp 170 13) ∧ (s_lp 170 13) ≤ 1 ∧ 0 ≤ (s_lp 210 (k - 1 : Int).toNat) ∧ (s_lp 210 (k - 1 : Int).toNat) < 8 ∧ 0 ≤ (s_lp 210 (k : Int).toNat) ∧ (s_lp 210 (k : Int).toNat) < 8 from by omega), fun r3 q3 => ?_⟩
          have e3 := q3
          change r3 = s_lp 177 (64 * (s_lp 170 13) + 8 * (s_lp 210 (k - 1 : Int).toNat) + (s_lp 210 (k : Int).toNat) : Int).toNat at e3
          have g17 := g_streetAt hG (64 * (st 170 13) + 8 * (s_lp 210 (k - 1 : Int).toNat) + (s_lp 210 (k : Int).toNat) : Int).toNat
          have e16 : s_lp 177 (64 * (s_lp 170 13) + 8 * (s_lp 210 (k - 1 : Int).toNat) + (s_lp 210 (k : Int).toNat) : Int).toNat = st 177 (64 * (st 170 13) + 8 * (s_lp 210 (k - 1 : Int).toNat) + (s_lp 210 (k : Int).toNat) : Int).toNat := (fI_lp 177 (64 * (s_lp 170 13) + 8 * (s_lp 210 (k - 1 : Int).toNat) + (s_lp 210 (k : Int).toNat) : Int).toNat rfl rfl).trans (by rw [e12] <;> rfl)
          refine ⟨by omega, ?_⟩
          refine ⟨by omega, ?_⟩
          have g19 := g_pacesOf hG ((((14 : Int) * (st 170 13)) + r3) - 1 : Int).toNat
          have e18 : s_lp 176 ((((14 : Int) * (s_lp 170 13)) + r3) - 1 : Int).toNat = st 176 ((((14 : Int) * (st 170 13)) + r3) - 1 : Int).toNat := (fI_lp 176 ((((14 : Int) * (s_lp 170 13)) + r3) - 1 : Int).toNat rfl rfl).trans (by rw [e12] <;> rfl)
          refine ⟨by omega, ?_⟩
          refine ⟨by omega, ?_⟩
          refine ⟨rfl, ⟨(gInv_up (gInv_up gI_lp (p_time (zw_ok _))) (p_goTime (zw_ok _))), (show jC (zup (zup s_lp 170 67 (zw ((s_lp 170 67) + (s_lp 176 ((((14 : Int) * (s_lp 170 13)) + r3) - 1 : Int).toNat)))) 213 (k : Int).toNat (zw ((s_lp 170 67) + (s_lp 176 ((((14 : Int) * (s_lp 170 13)) + r3) - 1 : Int).toNat)))) from (jC_e jc (fI_lp 170 13 rfl rfl) (fun i => (fI_lp 186 i rfl rfl)) (fun i => (fI_lp 187 i rfl rfl)) (fun i => (fI_lp 188 i rfl rfl)))), (show 0 ≤ v ∧ v ≤ 21 ∧ 0 ≤ k ∧ k < 30 ∧ -2147483648 ≤ t ∧ t ≤ 2147483647 from by omega)⟩, fun r4 s4 q4 => ?_⟩
          obtain ⟨gs4, fs4, e4⟩ := q4
          change -2147483648 ≤ r4 ∧ r4 ≤ 2147483647 at e4
          refine ⟨by omega, ?_⟩
          have e20 : s4 170 67 = (zw ((s_lp 170 67) + (s_lp 176 ((((14 : Int) * (s_lp 170 13)) + r3) - 1 : Int).toNat))) := fs4 170 67 rfl rfl
          have u21 : (zup s4 212 (k : Int).toNat r4) 212 (k : Int).toNat = r4 := zup_eq _ _ _ _
          refine ⟨by omega, ?_⟩
          refine ⟨by omega, ?_⟩
          have e22 : s4 170 62 = s_lp 170 62 := fs4 170 62 rfl rfl
          exact ih _ (show (s4 170 62 - (k + 1) : Int).toNat < u from by omega) (k + 1) (zup (zup s4 212 (k : Int).toNat r4) 170 67 (zw ((s4 170 67) + ((zup s4 212 (k : Int).toNat r4) 212 (k : Int).toNat)))) ⟨(gInv_up (gInv_up gs4 (p_goStands (by omega))) (p_time (zw_ok _))), (fr_f (fr_a (fr_tr (fr_a (fr_f fI_lp rfl) rfl) fs4 rfl) rfl) rfl), (show goA (zup (zup s4 212 (k : Int).toNat r4) 170 67 (zw ((s4 170 67) + ((zup s4 212 (k : Int).toNat r4) 212 (k : Int).toNat)))) from (goA_e (fs4 170 62 rfl rfl) (fs4 170 13 rfl rfl) (fun i => (fs4 210 i rfl rfl)) (fun i => (fs4 177 i rfl rfl)) a_lp)), (show 0 ≤ (k + 1) ∧ (k + 1) ≤ s4 170 62 from by omega)⟩ rfl
  refine yr1_ok (Rt := Q) (wc := (wcL [(14, k_walks), (0, k_between), (219, k_stands)])) (stp := [21]) hcm hcl [79, 123] 97 ?_
  show ((0 ≤ v ∧ v < 22) ∧ (170 = 170 ∧ (rq_walks v (zd (Nat.lor (zi (st 200 (v : Int).toNat)) (zi g))) st ∧ (∀ (s23 : zS), en_walks v (zd (Nat.lor (zi (st 200 (v : Int).toNat)) (zi g))) st s23 → K (rx_find rx_m13 21) [(5, .inl 0), (0, .inr (.inr (.inl 170))), (1, .inl v), (2, .inl t), (3, .inl g), (4, .inl aw)] [] (zup s23 170 67 0)))))
  have g24 := g_shutOf hG (v : Int).toNat
  refine ⟨by omega, ?_⟩
  refine ⟨rfl, ⟨hG, (show jS st from js), (show jgd st v from gd), (show 0 ≤ v ∧ v ≤ 21 from by omega)⟩, fun s23 q23 => ?_⟩
  obtain ⟨gs23, fs23, a23⟩ := q23
  change goA s23 at a23
  have g25 := g_goMany gs23
  exact lp _ 0 (zup s23 170 67 0) ⟨(gInv_up gs23 (p_time (by omega))), (fr_f (fr_tr (fr_rf _ _) fs23 rfl) rfl), (show goA (zup s23 170 67 0) from (goA_e rfl rfl (fun _ => rfl) (fun _ => rfl) a23)), (show 0 ≤ (0 : Int) ∧ (0 : Int) ≤ s23 170 62 from by omega)⟩ rfl
theorem k_runs_m (hTb : aTb zSh rx_tb cl) {D : Nat} (hD : 5 ≤ D) : ∀ as st (Q Q' : zQ), (∀ r st', Q r st' → Q' r st') → k_runs 13 as st Q → cl D 13 as st Q' := by
  intro as st Q Q' hQ h
  unfold k_runs at h
  split at h
  · obtain ⟨rfl, h⟩ := h
    exact c_runs hTb hD (ct_runs_m hQ h)
  · exact h.elim
set_option maxHeartbeats 40000000 in
set_option maxRecDepth 100000 in
theorem c_isClever (hTb : aTb zSh rx_tb cl) {D : Nat} (hD : 4 ≤ D) {v t : Int} {st : zS} {Q : zQ} (h : ct_isClever v t st Q) : cl D 21 [.inr (.inr (.inl 170)), .inl v, .inl t] st Q := by
  obtain ⟨d, rfl⟩ : ∃ d, D = d + 1 := ⟨D - 1, by omega⟩
  refine hTb d 21 (rx_m21, 3, 0, 0, 2) rfl _ _ _ (Nat.le_of_ble_eq_true rfl) (fun K hcl hsf hsl => ?_)
  have hcm : zmo (wcL [(22, k_isTold), (152, k_pairs), (215, k_reckons)]) (cl d) := (wcL_m (wm_cons (k_isTold_m hTb (by omega)) (wm_cons (k_pairs_m hTb (by omega)) (wm_cons (k_reckons_m hTb (by omega)) wm_nil))))
  obtain ⟨hR, hQ⟩ := h
  obtain ⟨hG, jc, vv⟩ := hR
  change jC st at jc
  change 0 ≤ v ∧ v ≤ 21 ∧ -2147483648 ≤ t ∧ t ≤ 2147483647 at vv
  refine yr1_ok (Rt := Q) (wc := (wcL [(22, k_isTold), (152, k_pairs), (215, k_reckons)])) (stp := []) hcm hcl [] 67 ?_
  show (170 = 170 ∧ (rq_isTold (1) st ∧ (∀ (r1 : Int), en_isTold (1) st r1 → ((¬ r1 = (0 : Int) → ((0 ≤ (1 : Int) ∧ (1 : Int) < 12) ∧ ((0 ≤ v ∧ v < 22) ∧ ((0 ≤ (2 : Int) ∧ (2 : Int) < 12) ∧ ((0 ≤ (7 : Int) ∧ (7 : Int) < 12) ∧ ((0 ≤ (8 : Int) ∧ (8 : Int) < 12) ∧ (170 = 170 ∧ (rq_pairs  (zup (zup (zup (zup st 208 (1 : Int).toNat t) 208 (2 : Int).toNat (st 199 (v : Int).toNat)) 208 (7 : Int).toNat (st 170 62)) 208 (8 : Int).toNat (st 170 67)) ∧ (∀ (r2 : Int), en_pairs  (zup (zup (zup (zup st 208 (1 : Int).toNat t) 208 (2 : Int).toNat (st 199 (v : Int).toNat)) 208 (7 : Int).toNat (st 170 62)) 208 (8 : Int).toNat (st 170 67)) r2 → ((0 ≤ (9 : Int) ∧ (9 : Int) < 12) ∧ (170 = 170 ∧ (rq_reckons (1) (zup (zup (zup (zup (zup st 208 (1 : Int).toNat t) 208 (2 : Int).toNat (st 199 (v : Int).toNat)) 208 (7 : Int).toNat (st 170 62)) 208 (8 : Int).toNat (st 170 67)) 208 (9 : Int).toNat r2) ∧ (∀ (r3 : Int) (s3 : zS), en_reckons (1) (zup (zup (zup (zup (zup st 208 (1 : Int).toNat t) 208 (2 : Int).toNat (st 199 (v : Int).toNat)) 208 (7 : Int).toNat (st 170 62)) 208 (8 : Int).toNat (st 170 67)) 208 (9 : Int).toNat r2) r3 s3 → (∀ (w4 : Int), (r3 < 1 ∧ w4 = -1 ∨ r3 = 1 ∧ w4 = 0 ∨ 1 < r3 ∧ w4 = 1) → ((¬ w4 = (0 : Int) → ((0 = (0 : Int) ∨ 0 = (1 : Int)) ∧ Q (some (.inl 0)) s3)) ∧ (¬ (¬ w4 = (0 : Int)) → ((1 = (0 : Int) ∨ 1 = (1 : Int)) ∧ Q (some (.inl 1)) s3))))))))))))))))) ∧ (¬ (¬ r1 = (0 : Int)) → ((0 = (0 : Int) ∨ 0 = (1 : Int)) ∧ Q (some (.inl 0)) st))))))
  refine ⟨rfl, ⟨hG, (show 0 ≤ (1) ∧ (1) ≤ 1 from by omega)⟩, fun r1 q1 => ?_⟩
  have b1 := q1
  change (r1 = 0 ∨ r1 = 1) ∧ (r1 = 1 ↔ ¬ st 186 (2 * st 170 13 + (1) : Int).toNat = -1) at b1
  have g5 := g_bank hG
  have g6 := g_sumFrom hG (2 * st 170 13 + (1) : Int).toNat
  refine ⟨fun h7 => ?_, fun h7 => ?_⟩
  · refine ⟨by omega, ?_⟩
    have g8 := g_yearOf hG (v : Int).toNat
    refine ⟨by omega, ?_⟩
    refine ⟨by omega, ?_⟩
    have g9 := g_goMany hG
    refine ⟨by omega, ?_⟩
    have g10 := g_time hG
    refine ⟨by omega, ?_⟩
    refine ⟨rfl, (gInv_up (gInv_up (gInv_up (gInv_up hG (p_askedOf (by omega))) (p_askedOf (by omega))) (p_askedOf (by omega))) (p_askedOf (by omega))), fun r2 q2 => ?_⟩
    have e2 := q2
    change -2147483648 ≤ r2 ∧ r2 ≤ 2147483647 at e2
    refine ⟨by omega, ?_⟩
    refine ⟨rfl, ⟨(gInv_up (gInv_up (gInv_up (gInv_up (gInv_up hG (p_askedOf (by omega))) (p_askedOf (by omega))) (p_askedOf (by omega))) (p_askedOf (by omega))) (p_askedOf (by omega))), (show jC (zup (zup (zup (zup (zup st 208 (1 : Int).toNat t) 208 (2 : Int).toNat (st 199 (v : Int).toNat)) 208 (7 : Int).toNat (st 170 62)) 208 (8 : Int).toNat (st 170 67)) 208 (9 : Int).toNat r2) from (jC_e jc rfl (fun _ => rfl) (fun _ => rfl) (fun _ => rfl))), (show 0 ≤ (1) ∧ (1) ≤ 1 from by omega), (show ¬ st 186 (2 * st 170 13 + (1) : Int).toNat = -1 from by omega)⟩, fun r3 s3 q3 => ?_⟩
    obtain ⟨gs3, fs3, e3⟩ := q3
    change -9223372036854775808 ≤ r3 ∧ r3 ≤ 9223372036854775807 at e3
    intro w4 hw4
    refine ⟨fun h11 => ?_, fun h11 => ?_⟩
    · refine ⟨by omega, ?_⟩
      exact hQ _ _ ⟨gs3, (fr_tr (fr_a (fr_a (fr_a (fr_a (fr_a (fr_rf _ _) rfl) rfl) rfl) rfl) rfl) fs3 rfl)⟩
    · refine ⟨by omega, ?_⟩
      exact hQ _ _ ⟨gs3, (fr_tr (fr_a (fr_a (fr_a (fr_a (fr_a (fr_rf _ _) rfl) rfl) rfl) rfl) rfl) fs3 rfl)⟩
  · refine ⟨by omega, ?_⟩
    exact hQ _ _ ⟨hG, (fr_rf _ _)⟩
theorem k_isClever_m (hTb : aTb zSh rx_tb cl) {D : Nat} (hD : 4 ≤ D) : ∀ as st (Q Q' : zQ), (∀ r st', Q r st' → Q' r st') → k_isClever 21 as st Q → cl D 21 as st Q' := by
  intro as st Q Q' hQ h
  unfold k_isClever at h
  split at h
  · obtain ⟨rfl, h⟩ := h
    exact c_isClever hTb hD (ct_isClever_m hQ h)
  · exact h.elim
set_option maxHeartbeats 40000000 in
set_option maxRecDepth 100000 in
theorem c_passes (hTb : aTb zSh rx_tb cl) {D : Nat} (hD : 6 ≤ D) {v t : Int} {st : zS} {Q : zQ} (h : ct_passes v t st Q) : cl D 19 [.inr (.inr (.inl 170)), .inl v, .inl t] st Q := by
  obtain ⟨d, rfl⟩ : ∃ d, D = d + 1 := ⟨D - 1, by omega⟩
  refine hTb d 19 (rx_m19, 4, 0, 0, 0) rfl _ _ _ (Nat.le_of_ble_eq_true rfl) (fun K hcl hsf hsl => ?_)
  have hcm : zmo (wcL [(13, k_runs), (20, k_writesDown), (21, k_isClever), (220, k_leavesOut)]) (cl d) := (wcL_m (wm_cons (k_runs_m hTb (by omega)) (wm_cons (k_writesDown_m hTb (by omega)) (wm_cons (k_isClever_m hTb (by omega)) (wm_cons (k_leavesOut_m hTb (by omega)) wm_nil)))))
  obtain ⟨hR, hQ⟩ := h
  obtain ⟨hG, js, jc, gd, vv⟩ := hR
  change jS st at js
  change jC st at jc
  change jgd st v at gd
  change 0 ≤ v ∧ v ≤ 21 ∧ -2147483648 ≤ t ∧ t ≤ 2147483647 at vv
  have lp : ∀ (u : Nat) (k : Int) (s_lp : zS), gInv zgt s_lp ∧ aFr m_passes st s_lp ∧ (goA s_lp) ∧ (0 ≤ k ∧ k ≤ s_lp 170 62) ∧ (∀ j : Int, 0 ≤ j → j < k → s_lp 203 (30 * v + j).toNat = s_lp 210 j.toNat) ∧ (∀ i : Nat, ¬ (30 * v ≤ (i : Int) ∧ (i : Int) < 30 * v + 30) → s_lp 203 i = st 203 i) ∧ (∀ i : Nat, ¬ (i : Int) = v → s_lp 202 i = st 202 i) ∧ (s_lp 202 (v : Int).toNat = s_lp 170 62) → (s_lp 170 62 - k).toNat = u → K (rx_find rx_m19 38) [(3, .inl k), (0, .inr (.inr (.inl 170))), (1, .inl v), (2, .inl t)] [] s_lp := by
    intro u
    induction u using Nat.strongRecOn with
    | _ u ih =>
      intro k s_lp hi hu
      obtain ⟨gI_lp, fI_lp, a_lp, i_lp, c_lp, o_lp, pp_lp, m_lp⟩ := hi
      have g1 := g_goMany gI_lp
      refine yr1_ok (Rt := Q) (wc := (wcL [(13, k_runs), (20, k_writesDown), (21, k_isClever), (220, k_leavesOut)])) (stp := [38]) hcm hcl [94] 83 ?_
      show ((s_lp 170 62 ≤ k → ((0 ≤ v ∧ v < 22) ∧ ((0 ≤ v ∧ v < 22) ∧ Q none (zup s_lp 199 (v : Int).toNat (zw ((s_lp 199 (v : Int).toNat) + 1)))))) ∧ (¬ (s_lp 170 62 ≤ k) → ((-2147483648 ≤ (30 : Int) * v ∧ (30 : Int) * v ≤ 2147483647) ∧ ((-2147483648 ≤ ((30 : Int) * v) + k ∧ ((30 : Int) * v) + k ≤ 2147483647) ∧ ((0 ≤ k ∧ k < 30) ∧ ((0 ≤ ((30 : Int) * v) + k ∧ ((30 : Int) * v) + k < 660) ∧ ((-2147483648 ≤ (30 : Int) * v ∧ (30 : Int) * v ≤ 2147483647) ∧ ((-2147483648 ≤ ((30 : Int) * v) + k ∧ ((30 : Int) * v) + k ≤ 2147483647) ∧ ((0 ≤ k ∧ k < 30) ∧ ((0 ≤ ((30 : Int) * v) + k ∧ ((30 : Int) * v) + k < 660) ∧ ((-2147483648 ≤ k + 1 ∧ k + 1 ≤ 2147483647) ∧ K (rx_find rx_m19 38) [(3, .inl (k + 1)), (0, .inr (.inr (.inl 170))), (1, .inl v), (2, .inl t)] [] (zup (zup s_lp 203 (((30 : Int) * v) + k : Int).toNat (s_lp 210 (k : Int).toNat)) 204 (((30 : Int) * v) + k : Int).toNat (s_lp 211 (k : Int).toNat)))))))))))))
      refine ⟨fun h2 => ?_, fun h2 => ?_⟩
      · have g3 := g_yearOf gI_lp (v : Int).toNat
        refine ⟨by omega, ?_⟩
        refine ⟨by omega, ?_⟩
        exact hQ _ ⟨(gInv_up gI_lp (p_yearOf (zw_ok _))), (fr_a fI_lp rfl), (show jgd (zup s_lp 199 (v : Int).toNat (zw ((s_lp 199 (v : Int).toNat) + 1))) v from jgd_up rfl (jgd_go a_lp m_lp (fun j z1 z2 => c_lp j z1 (by omega)))), (show ∀ i : Nat, ¬ (30 * v ≤ (i : Int) ∧ (i : Int) < 30 * v + 30) → (zup s_lp 199 (v : Int).toNat (zw ((s_lp 199 (v : Int).toNat) + 1))) 203 i = st 203 i from o_lp), (show ∀ i : Nat, ¬ (i : Int) = v → (zup s_lp 199 (v : Int).toNat (zw ((s_lp 199 (v : Int).toNat) + 1))) 202 i = st 202 i from pp_lp)⟩
      · refine ⟨by omega, ?_⟩
        refine ⟨by omega, ?_⟩
        have g4 := g_goPlace gI_lp (k : Int).toNat
        refine ⟨by omega, ?_⟩
        refine ⟨by omega, ?_⟩
        refine ⟨by omega, ?_⟩
        refine ⟨by omega, ?_⟩
        have g5 := g_goTold gI_lp (k : Int).toNat
        refine ⟨by omega, ?_⟩
        refine ⟨by omega, ?_⟩
        refine ⟨by omega, ?_⟩
        exact ih _ (show (s_lp 170 62 - (k + 1) : Int).toNat < u from by omega) (k + 1) (zup (zup s_lp 203 (((30 : Int) * v) + k : Int).toNat (s_lp 210 (k : Int).toNat)) 204 (((30 : Int) * v) + k : Int).toNat (s_lp 211 (k : Int).toNat)) ⟨(gInv_up (gInv_up gI_lp (p_stepPlace (by omega))) (p_stepMinutes (by omega))), (fr_a (fr_a fI_lp rfl) rfl), (show goA (zup (zup s_lp 203 (((30 : Int) * v) + k : Int).toNat (s_lp 210 (k : Int).toNat)) 204 (((30 : Int) * v) + k : Int).toNat (s_lp 211 (k : Int).toNat)) from (goA_e rfl rfl (fun _ => rfl) (fun _ => rfl) a_lp)), (show 0 ≤ (k + 1) ∧ (k + 1) ≤ s_lp 170 62 from by omega), (show ∀ j : Int, 0 ≤ j → j < (k + 1) → (zup (zup s_lp 203 (((30 : Int) * v) + k : Int).toNat (s_lp 210 (k : Int).toNat)) 204 (((30 : Int) * v) + k : Int).toNat (s_lp 211 (k : Int).toNat)) 203 (30 * v + j).toNat = (zup (zup s_lp 203 (((30 : Int) * v) + k : Int).toNat (s_lp 210 (k : Int).toNat)) 204 (((30 : Int) * v) + k : Int).toNat (s_lp 211 (k : Int).toNat)) 210 j.toNat from fun j z1 z2 => by
            by_cases z3 : j = k
            · subst z3
              exact up1_e (s_lp 203) _ _
            · exact (up1_n (s_lp 203) _ (by omega)).trans (c_lp j z1 (by omega))), (show ∀ i : Nat, ¬ (30 * v ≤ (i : Int) ∧ (i : Int) < 30 * v + 30) → (zup (zup s_lp 203 (((30 : Int) * v) + k : Int).toNat (s_lp 210 (k : Int).toNat)) 204 (((30 : Int) * v) + k : Int).toNat (s_lp 211 (k : Int).toNat)) 203 i = st 203 i from fun i z1 => (up1_n (s_lp 203) _ (by omega)).trans (o_lp i z1)), (show ∀ i : Nat, ¬ (i : Int) = v → (zup (zup s_lp 203 (((30 : Int) * v) + k : Int).toNat (s_lp 210 (k : Int).toNat)) 204 (((30 : Int) * v) + k : Int).toNat (s_lp 211 (k : Int).toNat)) 202 i = st 202 i from pp_lp), (show (zup (zup s_lp 203 (((30 : Int) * v) + k : Int).toNat (s_lp 210 (k : Int).toNat)) 204 (((30 : Int) * v) + k : Int).toNat (s_lp 211 (k : Int).toNat)) 202 (v : Int).toNat = s_lp 170 62 from m_lp)⟩ rfl
  have m26 : ∀ (s_m26 : zS), gInv zgt s_m26 ∧ aFr m_passes st s_m26 ∧ (goA s_m26) ∧ (∀ i : Nat, s_m26 203 i = st 203 i) ∧ (∀ i : Nat, s_m26 202 i = st 202 i) → K (rx_find rx_m19 26) [(0, .inr (.inr (.inl 170))), (1, .inl v), (2, .inl t)] [] s_m26 := by
    intro  s_m26 hi
    obtain ⟨gI_m26, fI_m26, a_m26, o_m26, pp_m26⟩ := hi
    have g6 := g_goMany gI_m26
    refine yr1_ok (Rt := Q) (wc := (wcL [(13, k_runs), (20, k_writesDown), (21, k_isClever), (220, k_leavesOut)])) (stp := [26, 38]) hcm hcl [94] 83 ?_
    show ((0 ≤ v ∧ v < 22) ∧ K (rx_find rx_m19 38) [(3, .inl 0), (0, .inr (.inr (.inl 170))), (1, .inl v), (2, .inl t)] [] (zup s_m26 202 (v : Int).toNat (s_m26 170 62)))
    refine ⟨by omega, ?_⟩
    exact lp _ 0 (zup s_m26 202 (v : Int).toNat (s_m26 170 62)) ⟨(gInv_up gI_m26 (p_stepMany (by omega))), (fr_a fI_m26 rfl), (show goA (zup s_m26 202 (v : Int).toNat (s_m26 170 62)) from (goA_e rfl rfl (fun _ => rfl) (fun _ => rfl) a_m26)), (show 0 ≤ (0 : Int) ∧ (0 : Int) ≤ s_m26 170 62 from by omega), (show ∀ j : Int, 0 ≤ j → j < (0 : Int) → (zup s_m26 202 (v : Int).toNat (s_m26 170 62)) 203 (30 * v + j).toNat = (zup s_m26 202 (v : Int).toNat (s_m26 170 62)) 210 j.toNat from fun j z1 z2 => by omega), (show ∀ i : Nat, ¬ (30 * v ≤ (i : Int) ∧ (i : Int) < 30 * v + 30) → (zup s_m26 202 (v : Int).toNat (s_m26 170 62)) 203 i = st 203 i from fun i _ => o_m26 i), (show ∀ i : Nat, ¬ (i : Int) = v → (zup s_m26 202 (v : Int).toNat (s_m26 170 62)) 202 i = st 202 i from fun i z1 => (up1_n (s_m26 202) _ (by omega)).trans (pp_m26 i)), (show (zup s_m26 202 (v : Int).toNat (s_m26 170 62)) 202 (v : Int).toNat = s_m26 170 62 from up1_e (s_m26 202) _ _)⟩ rfl
  refine yr1_ok (Rt := Q) (wc := (wcL [(13, k_runs), (20, k_writesDown), (21, k_isClever), (220, k_leavesOut)])) (stp := [26, 38]) hcm hcl [94] 83 ?_
  show (170 = 170 ∧ (rq_runs v t (0) (0) st ∧ (∀ (s7 : zS), en_runs v t (0) (0) st s7 → (170 = 170 ∧ (rq_writesDown v s7 ∧ (∀ (s8 : zS), en_writesDown v s7 s8 → (170 = 170 ∧ (rq_isClever v t s8 ∧ (∀ (r9 : Int) (s9 : zS), en_isClever v t s8 r9 s9 → ((r9 = (0 : Int) → K (rx_find rx_m19 26) [(0, .inr (.inr (.inl 170))), (1, .inl v), (2, .inl t)] [] s9) ∧ (¬ (r9 = (0 : Int)) → (170 = 170 ∧ (rq_leavesOut  s9 ∧ (∀ (s10 : zS), en_leavesOut  s9 s10 → K (rx_find rx_m19 26) [(0, .inr (.inr (.inl 170))), (1, .inl v), (2, .inl t)] [] s10))))))))))))))
  refine ⟨rfl, ⟨hG, (show jS st from js), (show jC st from jc), (show jgd st v from gd), (show 0 ≤ v ∧ v ≤ 21 ∧ -2147483648 ≤ t ∧ t ≤ 2147483647 from by omega)⟩, fun s7 q7 => ?_⟩
  obtain ⟨gs7, fs7, a7⟩ := q7
  change goA s7 at a7
  refine ⟨rfl, ⟨gs7, (show 0 ≤ v ∧ v ≤ 21 from by omega)⟩, fun s8 q8 => ?_⟩
  obtain ⟨gs8, fs8⟩ := q8
  refine ⟨rfl, ⟨gs8, (show jC s8 from (jC_e jc ((fs8 170 13 rfl rfl).trans (fs7 170 13 rfl rfl)) (fun i => ((fs8 186 i rfl rfl).trans (fs7 186 i rfl rfl))) (fun i => ((fs8 187 i rfl rfl).trans (fs7 187 i rfl rfl))) (fun i => ((fs8 188 i rfl rfl).trans (fs7 188 i rfl rfl))))), (show 0 ≤ v ∧ v ≤ 21 ∧ -2147483648 ≤ t ∧ t ≤ 2147483647 from by omega)⟩, fun r9 s9 q9 => ?_⟩
  obtain ⟨gs9, fs9⟩ := q9
  refine ⟨fun h11 => ?_, fun h11 => ?_⟩
  · exact m26 s9 ⟨gs9, (fr_tr (fr_tr (fr_tr (fr_rf _ _) fs7 rfl) fs8 rfl) fs9 rfl), (show goA s9 from (goA_e ((fs9 170 62 rfl rfl).trans (fs8 170 62 rfl rfl)) ((fs9 170 13 rfl rfl).trans (fs8 170 13 rfl rfl)) (fun i => ((fs9 210 i rfl rfl).trans (fs8 210 i rfl rfl))) (fun i => ((fs9 177 i rfl rfl).trans (fs8 177 i rfl rfl))) a7)), (show ∀ i : Nat, s9 203 i = st 203 i from fun i => ((fs9 203 i rfl rfl).trans ((fs8 203 i rfl rfl).trans (fs7 203 i rfl rfl)))), (show ∀ i : Nat, s9 202 i = st 202 i from fun i => ((fs9 202 i rfl rfl).trans ((fs8 202 i rfl rfl).trans (fs7 202 i rfl rfl))))⟩
  · refine ⟨rfl, ⟨gs9, (show goA s9 from (goA_e ((fs9 170 62 rfl rfl).trans (fs8 170 62 rfl rfl)) ((fs9 170 13 rfl rfl).trans (fs8 170 13 rfl rfl)) (fun i => ((fs9 210 i rfl rfl).trans (fs8 210 i rfl rfl))) (fun i => ((fs9 177 i rfl rfl).trans (fs8 177 i rfl rfl))) a7))⟩, fun s10 q10 => ?_⟩
    obtain ⟨gs10, fs10, a10⟩ := q10
    change goA s10 at a10
    exact m26 s10 ⟨gs10, (fr_tr (fr_tr (fr_tr (fr_tr (fr_rf _ _) fs7 rfl) fs8 rfl) fs9 rfl) fs10 rfl), (show goA s10 from (goA_e rfl rfl (fun _ => rfl) (fun _ => rfl) a10)), (show ∀ i : Nat, s10 203 i = st 203 i from fun i => ((fs10 203 i rfl rfl).trans ((fs9 203 i rfl rfl).trans ((fs8 203 i rfl rfl).trans (fs7 203 i rfl rfl))))), (show ∀ i : Nat, s10 202 i = st 202 i from fun i => ((fs10 202 i rfl rfl).trans ((fs9 202 i rfl rfl).trans ((fs8 202 i rfl rfl).trans (fs7 202 i rfl rfl)))))⟩
theorem k_passes_m (hTb : aTb zSh rx_tb cl) {D : Nat} (hD : 6 ≤ D) : ∀ as st (Q Q' : zQ), (∀ r st', Q r st' → Q' r st') → k_passes 19 as st Q → cl D 19 as st Q' := by
  intro as st Q Q' hQ h
  unfold k_passes at h
  split at h
  · obtain ⟨rfl, h⟩ := h
    exact c_passes hTb hD (ct_passes_m hQ h)
  · exact h.elim
end R7i
