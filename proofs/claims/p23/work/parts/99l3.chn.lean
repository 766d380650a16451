/-! chains of statements -/
def Clr (T : zS) : Prop := T 0 0 = 0 ∧ T 0 1 = 0 ∧ T 0 3 = 0 ∧ T 0 8 = 0 ∧ T 9 2 = 0 ∧ T 0 13 = 20 ∧ T 0 14 = 0 ∧ T 0 16 = 0 ∧ T 0 17 = -1 ∧ T 0 18 = -1 ∧ ∀ j : Int, 0 ≤ j → j < 64 → T 5 j.toNat = -1
noncomputable def Chn (t : Int → Int) (n : Int) (T0 : zS) (p0 : Int) (m : Nat) : zS → Int → Prop := Nat.rec (fun T q => T = T0 ∧ q = p0) (fun _ ih T q => ∃ (T1 : zS) (q1 : Int), ih T1 q1 ∧ SS t n T1 q1 T q) m
theorem Chn_s {t : Int → Int} {n : Int} {T0 : zS} {p0 : Int} {m : Nat} {T : zS} {q : Int} {T' : zS} {q' : Int} (h : Chn t n T0 p0 m T q) (k : SS t n T q T' q') : Chn t n T0 p0 (m + 1) T' q' := ⟨T, q, h, k⟩
theorem Chn_0 (t : Int → Int) (n : Int) (T0 : zS) (p0 : Int) : Chn t n T0 p0 0 T0 p0 := ⟨rfl, rfl⟩
theorem Chn_f {t : Int → Int} {n : Int} {T0 : zS} {p0 : Int} : ∀ {m : Nat} {T : zS} {q : Int}, Chn t n T0 p0 m T q → ∃ (Ts : Nat → zS) (ps : Nat → Int), Ts 0 = T0 ∧ ps 0 = p0 ∧ Ts m = T ∧ ps m = q ∧ ∀ j : Nat, j < m → SS t n (Ts j) (ps j) (Ts (j + 1)) (ps (j + 1)) := by
  intro m
  induction m with
  | zero =>
    intro T q h
    have h : T = T0 ∧ q = p0 := h
    exact ⟨fun _ => T0, fun _ => p0, rfl, rfl, h.1.symm, h.2.symm, fun j hj => absurd hj (by omega)⟩
  | succ m ih =>
    intro T q h
    have h : ∃ (T1 : zS) (q1 : Int), Chn t n T0 p0 m T1 q1 ∧ SS t n T1 q1 T q := h
    obtain ⟨T1, q1, h1, h2⟩ := h
    obtain ⟨Ts, ps, a1, a2, a3, a4, a5⟩ := ih h1
    refine ⟨fun j => if j ≤ m then Ts j else T, fun j => if j ≤ m then ps j else q, ?_, ?_, ?_, ?_, ?_⟩
    · show (if 0 ≤ m then Ts 0 else T) = T0
      rw [if_pos (Nat.zero_le m)]; exact a1
    · show (if 0 ≤ m then ps 0 else q) = p0
      rw [if_pos (Nat.zero_le m)]; exact a2
    · show (if m + 1 ≤ m then Ts (m + 1) else T) = T
      rw [if_neg (show ¬ m + 1 ≤ m by omega)]
    · show (if m + 1 ≤ m then ps (m + 1) else q) = q
      rw [if_neg (show ¬ m + 1 ≤ m by omega)]
    · intro j hj
      show SS t n (if j ≤ m then Ts j else T) (if j ≤ m then ps j else q) (if j + 1 ≤ m then Ts (j + 1) else T) (if j + 1 ≤ m then ps (j + 1) else q)
      by_cases e : j = m
      · subst e
        rw [if_pos (Nat.le_refl j), if_pos (Nat.le_refl j), if_neg (show ¬ j + 1 ≤ j by omega), if_neg (show ¬ j + 1 ≤ j by omega), a3, a4]
        exact h2
      · rw [if_pos (show j ≤ m by omega), if_pos (show j ≤ m by omega), if_pos (show j + 1 ≤ m by omega), if_pos (show j + 1 ≤ m by omega)]
        exact a5 j (by omega)
theorem zup_z {st : zS} {c i c' i' : Nat} {z : Int} (h : ¬ (c' = c ∧ i' = i)) : zup st c i z c' i' = st c' i' := zup_ne st z h
/-- what a body leaves: codes no more than places gone over; the count of statements; steps told in places -/
theorem sB_cc {t : Int → Int} {n : Int} {T : zS} {e : Int} {T1 : zS} {q : Int} {i : Nat} (h : sB t n T e T1 q i) (h0 : 0 ≤ e) (hc : T 0 16 + 1 ≤ e) (hn : 0 ≤ T 0 16) : e ≤ q ∧ T1 0 16 ≤ q ∧ T1 0 0 = T 0 0 ∧ 0 ≤ T1 0 16 := by
  rcases (show i = 0 ∨ i = 1 ∨ i = 4 ∨ i = 6 ∨ i = 9 ∨ i = 10 ∨ i = 11 ∨ i = 12 ∨ (¬ i = 0 ∧ ¬ i = 1 ∧ ¬ i = 4 ∧ ¬ i = 6 ∧ ¬ i = 9 ∧ ¬ i = 10 ∧ ¬ i = 11 ∧ ¬ i = 12) by omega) with rfl | rfl | rfl | rfl | rfl | rfl | rfl | rfl | hi
  · obtain ⟨_, v, x, h1, _, _, _, rfl⟩ := (show bPl t n T e T1 q from h)
    have l1 := tk_lt h1 h0 (by omega)
    exact ⟨by omega, show T 0 16 ≤ q by omega, rfl, hn⟩
  · obtain ⟨_, v, a, e1, e2, w, b, e3, e4, m, h1, _, h3, h4, _, _, _, h8, h9, _, _, rfl⟩ := (show bSt t n T e T1 q from h)
    have l1 := tk_lt h1 h0 (by omega); have l2 := tk_lt h3 (by omega) (by omega); have l3 := tk_lt h4 (by omega) (by omega); have l4 := tk_lt h8 (by omega) (by omega); have l5 := tk_lt h9 (by omega) (by omega)
    exact ⟨by omega, show T 0 16 ≤ q by omega, rfl, hn⟩
  · obtain ⟨_, v, a, e1, e2, m, h1, _, _, h4, h5, _, rfl⟩ := (show bSp t n T e T1 q from h)
    have l1 := tk_lt h1 h0 (by omega); have l2 := tk_lt h4 (by omega) (by omega); have l3 := tk_lt h5 (by omega) (by omega)
    exact ⟨by omega, show T 0 16 ≤ q by omega, rfl, hn⟩
  · obtain ⟨_, v, x, e1, e2, w, a, e3, e4, m, h1, _, _, _, h5, h6, _, h8, h9, _, rfl⟩ := (show bTh t n T e T1 q from h)
    have l1 := tk_lt h1 h0 (by omega); have l2 := tk_lt h5 (by omega) (by omega); have l3 := tk_lt h6 (by omega) (by omega); have l4 := tk_lt h8 (by omega) (by omega); have l5 := tk_lt h9 (by omega) (by omega)
    exact ⟨by omega, show T 0 16 ≤ q by omega, rfl, hn⟩
  · obtain ⟨_, c, n1, h1, h2, _, _, h5, h6⟩ := (show bRd t n T e T1 q 17 ((0 : Int) = 1) 0 from h)
    have l := Gr_len h1 h0
    have l2 := h2.2.1
    refine ⟨by omega, by omega, h6 0 0 (by omega) (by omega), by omega⟩
  · obtain ⟨_, c, n1, h1, h2, _, _, h5, h6⟩ := (show bRd t n T e T1 q 18 ((1 : Int) = 1) 5 from h)
    have l := Gr_len h1 h0
    have l2 := h2.2.1
    refine ⟨by omega, by omega, h6 0 0 (by omega) (by omega), by omega⟩
  · obtain ⟨m, h1, _, rfl⟩ := (show bHe t n T e T1 q 13 40 from h)
    have l1 := tk_lt h1 h0 (by omega)
    exact ⟨by omega, show T 0 16 ≤ q by omega, rfl, hn⟩
  · obtain ⟨m, h1, _, rfl⟩ := (show bHe t n T e T1 q 14 100 from h)
    have l1 := tk_lt h1 h0 (by omega)
    exact ⟨by omega, show T 0 16 ≤ q by omega, rfl, hn⟩
  · exfalso
    unfold sB at h
    split at h <;> first | omega | exact h
theorem sB_TI {t : Int → Int} {n : Int} {T : zS} {e : Int} {T1 : zS} {q : Int} {i : Nat} (h : sB t n T e T1 q i) (hT : TIv T) (hn : 0 ≤ T 9 2) : TIv T1 ∧ 0 ≤ T1 9 2 := by
  rcases (show i = 0 ∨ i = 1 ∨ i = 4 ∨ i = 6 ∨ i = 9 ∨ i = 10 ∨ i = 11 ∨ i = 12 ∨ (¬ i = 0 ∧ ¬ i = 1 ∧ ¬ i = 4 ∧ ¬ i = 6 ∧ ¬ i = 9 ∧ ¬ i = 10 ∧ ¬ i = 11 ∧ ¬ i = 12) by omega) with rfl | rfl | rfl | rfl | rfl | rfl | rfl | rfl | hi
  · obtain ⟨_, v, x, h1, _, _, _, rfl⟩ := (show bPl t n T e T1 q from h)
    refine ⟨fun j z1 z2 => ?_, hn⟩
    have z := hT j z1 z2
    exact ⟨z.1, show T 10 j.toNat < T 0 1 + 1 by omega⟩
  · obtain ⟨_, v, a, e1, e2, w, b, e3, e4, m, h1, _, h3, h4, _, _, _, h8, h9, _, _, rfl⟩ := (show bSt t n T e T1 q from h)
    exact ⟨fun j z1 z2 => hT j z1 z2, hn⟩
  · obtain ⟨_, v, a, e1, e2, m, h1, h2, _, h4, h5, _, rfl⟩ := (show bSp t n T e T1 q from h)
    have hb := KnP_b h2
    refine ⟨fun j z1 z2 => ?_, show 0 ≤ T 9 2 + 1 by omega⟩
    have z2 : j < T 9 2 + 1 := z2
    show 0 ≤ up1 (T 10) (T 9 2).toNat a j.toNat ∧ up1 (T 10) (T 9 2).toNat a j.toNat < T 0 1
    by_cases e : j = T 9 2
    · rw [e, up1_e]; exact hb
    · rw [up1_n _ _ (by omega)]; exact hT j z1 (by omega)
  · obtain ⟨_, v, x, e1, e2, w, a, e3, e4, m, h1, _, _, _, h5, h6, _, h8, h9, _, rfl⟩ := (show bTh t n T e T1 q from h)
    exact ⟨fun j z1 z2 => hT j z1 z2, hn⟩
  · obtain ⟨_, c, n1, h1, h2, _, _, h5, h6⟩ := (show bRd t n T e T1 q 17 ((0 : Int) = 1) 0 from h)
    refine ⟨fun j z1 z2 => ?_, by rw [h6 9 2 (by omega) (by omega)]; exact hn⟩
    rw [h6 9 2 (by omega) (by omega)] at z2
    rw [h6 10 _ (by omega) (by omega), h6 0 1 (by omega) (by omega)]
    exact hT j z1 z2
  · obtain ⟨_, c, n1, h1, h2, _, _, h5, h6⟩ := (show bRd t n T e T1 q 18 ((1 : Int) = 1) 5 from h)
    refine ⟨fun j z1 z2 => ?_, by rw [h6 9 2 (by omega) (by omega)]; exact hn⟩
    rw [h6 9 2 (by omega) (by omega)] at z2
    rw [h6 10 _ (by omega) (by omega), h6 0 1 (by omega) (by omega)]
    exact hT j z1 z2
  · obtain ⟨m, h1, _, rfl⟩ := (show bHe t n T e T1 q 13 40 from h)
    exact ⟨fun j z1 z2 => hT j z1 z2, hn⟩
  · obtain ⟨m, h1, _, rfl⟩ := (show bHe t n T e T1 q 14 100 from h)
    exact ⟨fun j z1 z2 => hT j z1 z2, hn⟩
  · exfalso
    unfold sB at h
    split at h <;> first | omega | exact h
theorem sF_o {t : Int → Int} {n : Int} {T : zS} {e : Int} {i : Nat} (hi : ¬ i = 0 ∧ ¬ i = 1 ∧ ¬ i = 4 ∧ ¬ i = 6 ∧ ¬ i = 9 ∧ ¬ i = 10 ∧ ¬ i = 11 ∧ ¬ i = 12) : sF t n T e i := by
  unfold sF
  split
  · omega
  · omega
  · intro hx
    obtain ⟨T', q, h⟩ := hx
    unfold sB at h
    split at h <;> first | omega | exact h
theorem own_tk {st : zS} (h : RDc st) (ho : cOW st) (hk : st 149 3 = 2) : (0 ≤ st 149 4 ∧ st 149 4 < 26) ∧ ∃ e : Int, tk (ctx st) (st 1 1) (st 149 5) 1 (owv (st 149 4).toNat) e := by
  obtain ⟨k', v', e', h3, h4⟩ := rd_tk h ho
  rcases h4 with ⟨a, b⟩ | ⟨a, b, c, d⟩ | ⟨a, b, c, d, e⟩ | ⟨a, b, c⟩ | ⟨a, b, c⟩ | ⟨a, b⟩
  · omega
  · omega
  · subst a; subst e; exact ⟨⟨c, d⟩, e', h3⟩
  · omega
  · omega
  · omega
theorem CDA_up {n0 n1 : Int} {f0 f1 : Nat → Int} {c : List Int} (h : CDA n0 n1 f0 f1 c) (v : Int) : CDA n0 n1 f0 (up1 f1 n1.toNat v) c := by
  obtain ⟨h1, h2, h3, h4⟩ := h
  exact ⟨h1, h2, fun i hi => (up1_n _ _ (by omega)).trans (h3 i hi), fun j hj => (up1_n _ _ (by omega)).trans (h4 j hj)⟩
/-- what a sum's reading leaves of a town -/
noncomputable def mrd (x f : Nat) (m : aM) : Bool := aall (fun q => (Nat.blt q.1 x || Nat.blt (x + 12) q.1) || (Nat.beq q.1 x && (Nat.beq q.2 16 || Nat.beq q.2 f))) m.1 && aall (fun c => Nat.blt c x || Nat.ble (x + 12) c) m.2
theorem mrd_fr {x f : Nat} {m : aM} {st s : zS} (hm : mrd x f m = true) (h : aFr m st s) : ∀ c i : Nat, c ≤ 12 → ¬ c = 12 → ¬ (c = 0 ∧ (i = f ∨ i = 16)) → s (x + c) i = st (x + c) i := by
  intro c i h1 h2 h3
  obtain ⟨m1, m2⟩ := rx_an hm
  have lt : ∀ a b : Nat, Nat.blt a b = true → a < b := fun a b z => Nat.lt_of_lt_of_le (Nat.lt_succ_self a) (Nat.le_of_ble_eq_true z)
  refine h (x + c) i ?_ ?_
  · cases e : amf m (x + c) i with
    | false => rfl
    | true =>
      exfalso
      have q := aall_o2 m1 _ (amf_ok.mp e)
      rcases bor q with z | z
      · rcases bor z with z | z
        · have := lt _ _ z
          omega
        · have := lt _ _ z
          omega
      · obtain ⟨z1, z2⟩ := rx_an z
        have z1 : x + c = x := Nat.eq_of_beq_eq_true z1
        rcases bor z2 with z2 | z2
        · have z2 : i = 16 := Nat.eq_of_beq_eq_true z2
          exact h3 ⟨by omega, Or.inr z2⟩
        · have z2 : i = f := Nat.eq_of_beq_eq_true z2
          exact h3 ⟨by omega, Or.inl z2⟩
  · cases e : ama m (x + c) with
    | false => rfl
    | true =>
      exfalso
      have q := aall_o2 m2 _ (ama_ok.mp e)
      rcases bor q with z | z
      · have := lt _ _ z
        omega
      · have z : x + 12 ≤ x + c := Nat.le_of_ble_eq_true z
        omega
