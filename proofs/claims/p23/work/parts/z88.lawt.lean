/-! printed by wip/p4/py/lw.py: what stands between the law's calls -/
def m_bEnd : aM := ([(1, 1)], [121])
def rq_bEnd (x : Int) (st : zS) : Prop := gInv zgt st ∧ zJ st
def en_bEnd (x : Int) (st : zS) (r : Int) (s1 : zS) : Prop := gInv zgt s1 ∧ aFr m_bEnd st s1 ∧ zJ s1 ∧ ((x < 0 ∨ st 1 1 < x → r = 0 ∧ s1 1 1 = st 1 1) ∧ (0 ≤ x ∧ x ≤ st 1 1 → r = 1 ∧ s1 1 1 = x))
def ct_bEnd (x : Int) (st : zS) (Q : zQ) : Prop := rq_bEnd x st ∧ (∀ (r : Int) (s1 : zS), en_bEnd x st r s1 → Q (some (.inl r)) s1)
theorem ct_bEnd_m {x : Int} {st : zS} {Q Q' : zQ} (hQ : ∀ r st', Q r st' → Q' r st') (h : ct_bEnd x st Q) : ct_bEnd x st Q' := ⟨h.1, fun x0 x1 x2 => hQ _ _ (h.2 x0 x1 x2)⟩
def k_bEnd : zCall := fun _ as st Q => match as with
  | [.inr (.inr (.inl z_o)), .inl x] => z_o = 0 ∧ ct_bEnd x st Q
  | _ => False
/-- the town in use is told alike -/
def zN (st : zS) : Prop := (st 0 8 = 122 ∧ RT (st 170 13) (tn 122 st) st) ∨ (st 0 8 = 135 ∧ RT (st 170 13) (tn 135 st) st)
/-- the class's own words, its two towns -/
def zO5 (st : zS) : Prop := cOW st ∧ ((st 0 9 = 122 ∧ st 0 8 = 135) ∨ (st 0 9 = 135 ∧ st 0 8 = 122))
/-- the towns are well told, the rows alike -/
def zRw (st : zS) : Prop := ((st 0 8 = 122 → TW (tn 122 st)) ∧ (st 0 8 = 135 → TW (tn 135 st))) ∧ st 115 5 = st 170 71 ∧ ∀ i : Nat, (i : Int) < st 115 5 → st 116 i = st 216 i ∧ st 117 i = st 217 i ∧ 0 ≤ st 117 i ∧ st 117 i < 8
def zQ6 (st s : zS) : Prop := s 115 5 = st 115 5 ∧ (∀ i : Nat, s 116 i = st 116 i) ∧ (∀ i : Nat, s 117 i = st 117 i) ∧ s 170 71 = st 170 71 ∧ (∀ i : Nat, s 216 i = st 216 i) ∧ ∀ i : Nat, s 217 i = st 217 i
def zP (st s : zS) : Prop := s 170 71 = st 170 71 ∧ (∀ i : Nat, s 216 i = st 216 i) ∧ ∀ i : Nat, s 217 i = st 217 i
theorem zR_Q {st s : zS} (q : zQ6 st s) (e8 : s 0 8 = st 0 8) (h1 : st 0 8 = 122 → tn 122 s = tn 122 st) (h2 : st 0 8 = 135 → tn 135 s = tn 135 st) (h : zRw st) : zRw s := by
  obtain ⟨q1, q2, q3, q4, q5, q6⟩ := q
  obtain ⟨⟨w1, w2⟩, e, r⟩ := h
  refine ⟨⟨fun z => ?_, fun z => ?_⟩, by rw [q1, q4]; exact e, fun i hi => ?_⟩
  · rw [e8] at z
    rw [h1 z]
    exact w1 z
  · rw [e8] at z
    rw [h2 z]
    exact w2 z
  · rw [q1] at hi
    rw [q2, q3, q5, q6]
    exact r i hi
def zO4 (st : zS) : Prop := zO5 st ∧ zN st ∧ zRw st
def zT (st : zS) : Prop := zI st ∧ st 1 1 = st 170 1 ∧ TA (st 171) (st 2) (st 1 1) ∧ zO4 st
/-- behind a half, an on of the class: its tape is empty -/
def zMt (st : zS) : Prop := zI st ∧ st 1 1 = 0 ∧ zO4 st
theorem z0_C : Clr (tn 122 z0) := ⟨by decide +kernel, by decide +kernel, by decide +kernel, by decide +kernel, by decide +kernel, by decide +kernel, by decide +kernel, by decide +kernel, by decide +kernel, by decide +kernel, fun j h1 h2 => by
    have k : ∀ i : Nat, i < 64 → tn 122 z0 5 i = -1 := by decide +kernel
    exact k j.toNat (by omega)⟩
theorem z0_Rw : zRw z0 := ⟨⟨fun _ => TW_clr z0_C, fun z => absurd z (by rw [show z0 0 8 = 122 from by decide +kernel]; decide)⟩, by rw [show z0 115 5 = 0 from by decide +kernel, show z0 170 71 = 0 from by decide +kernel], fun i hi => absurd hi (by rw [show z0 115 5 = 0 from by decide +kernel]; omega)⟩
theorem z0_N : RT (z0 170 13) (tn 122 z0) z0 := by
  have e : z0 170 13 = 0 := by decide +kernel
  rw [e]
  have hc : Clr (tn 122 z0) := ⟨by decide +kernel, by decide +kernel, by decide +kernel, by decide +kernel, by decide +kernel, by decide +kernel, by decide +kernel, by decide +kernel, by decide +kernel, by decide +kernel, fun j h1 h2 => by
    have k : ∀ i : Nat, i < 64 → tn 122 z0 5 i = -1 := by decide +kernel
    exact k j.toNat (by omega)⟩
  refine RT_init hc (by decide +kernel) (by decide +kernel) (by decide +kernel) (by decide +kernel) (by decide +kernel) (by decide +kernel) (by decide +kernel) (by decide +kernel) (fun j h1 h2 => ?_)
  have k : ∀ i : Nat, i < 64 → z0 177 i = 0 := by decide +kernel
  rw [show (64 * (0 : Int) + j).toNat = j.toNat by omega]
  exact k j.toNat (by omega)
theorem z0_T : zT z0 := ⟨z0_I, by decide +kernel, fun i hi => absurd hi (by rw [show z0 1 1 = 0 from by decide +kernel]; omega), ⟨(show ∀ i : Nat, i < 26 → z0 150 i = owx i from by decide +kernel), Or.inr ⟨by decide +kernel, by decide +kernel⟩⟩, Or.inl ⟨by decide +kernel, z0_N⟩, z0_Rw⟩
theorem zO5_fr {m : aM} {st s : zS} (f : aFr m st s) (a1 : ∀ i, amf m 150 i = false) (a2 : ama m 150 = false) (a3 : amf m 0 8 = false) (a4 : amf m 0 9 = false) (a5 : ama m 0 = false) (h : zO5 st) : zO5 s := by
  obtain ⟨h1, h2⟩ := h
  refine ⟨fun i hi => (f 150 i (a1 i) a2).trans (h1 i hi), ?_⟩
  rw [f 0 8 a3 a5, f 0 9 a4 a5]
  exact h2
theorem zN_bR {st s : zS} (g : gInv zgt st) (e8 : s 0 8 = st 0 8) (h1 : tn 122 s = tn 122 st) (h2 : tn 135 s = tn 135 st) (b : bR st s) (h : zN st) : zN s := by
  have e := bR_13 b
  rcases h with ⟨h8, h⟩ | ⟨h8, h⟩
  · refine Or.inl ⟨e8.trans h8, ?_⟩
    rw [e, h1]
    exact RT_bR (g_bank g) b h
  · refine Or.inr ⟨e8.trans h8, ?_⟩
    rw [e, h2]
    exact RT_bR (g_bank g) b h
theorem zON_fr {m : aM} {st s : zS} (g : gInv zgt st) (f : aFr m st s) (a1 : ∀ i, amf m 150 i = false) (a2 : ama m 150 = false) (a3 : amf m 0 8 = false) (a4 : amf m 0 9 = false) (a5 : ama m 0 = false) (c1 : mout 122 (122 + 12) m = true) (c2 : mout 135 (135 + 12) m = true) (c3 : mbR m = true) (h : zO5 st ∧ zN st) : zO5 s ∧ zN s :=
  ⟨zO5_fr f a1 a2 a3 a4 a5 h.1, zN_bR g (f 0 8 a3 a5) (tn_fr (x := 122) c1 f) (tn_fr (x := 135) c2 f) (bR_fr c3 f) h.2⟩
theorem zO4_fr {m : aM} {st s : zS} (g : gInv zgt st) (f : aFr m st s) (a1 : ∀ i, amf m 150 i = false) (a2 : ama m 150 = false) (a3 : amf m 0 8 = false) (a4 : amf m 0 9 = false) (a5 : ama m 0 = false) (c1 : mout 122 (122 + 12) m = true) (c2 : mout 135 (135 + 12) m = true) (c3 : mbR m = true) (q : zQ6 st s) (h : zO4 st) : zO4 s :=
  ⟨(zON_fr g f a1 a2 a3 a4 a5 c1 c2 c3 ⟨h.1, h.2.1⟩).1, (zON_fr g f a1 a2 a3 a4 a5 c1 c2 c3 ⟨h.1, h.2.1⟩).2, zR_Q q (f 0 8 a3 a5) (fun _ => tn_fr (x := 122) c1 f) (fun _ => tn_fr (x := 135) c2 f) h.2.2⟩
theorem zV0_bR {st s : zS} (v : zV0 st s) : bR st s := by
  intro c i hr
  unfold brel at hr
  exact v c i (by omega)
theorem zO5_lo {st s : zS} (v : ∀ c i : Nat, c < 170 → s c i = st c i) (h : zO5 st) : zO5 s := by
  obtain ⟨h1, h2⟩ := h
  refine ⟨fun i hi => (v 150 i (by omega)).trans (h1 i hi), ?_⟩
  rw [v 0 8 (by omega), v 0 9 (by omega)]
  exact h2
theorem tn_lo {st s : zS} (v : ∀ c i : Nat, c < 170 → s c i = st c i) (x : Nat) (hx : x ≤ 135) : tn x s = tn x st := tn_e (fun c i h1 h2 => v c i (by omega))
theorem zO4_V {st s : zS} (g : gInv zgt st) (v : zV0 st s) (h : zO4 st) : zO4 s := by
  have lo : ∀ c i : Nat, c < 170 → s c i = st c i := fun c i hc => v c i (by omega)
  exact ⟨zO5_lo lo h.1, zN_bR g (v 0 8 (by omega)) (tn_lo lo 122 (by omega)) (tn_lo lo 135 (by omega)) (zV0_bR v) h.2.1, zR_Q ⟨v 115 5 (by omega), fun i => v 116 i (by omega), fun i => v 117 i (by omega), v 170 71 (by omega), fun i => v 216 i (by omega), fun i => v 217 i (by omega)⟩ (v 0 8 (by omega)) (fun _ => tn_lo lo 122 (by omega)) (fun _ => tn_lo lo 135 (by omega)) h.2.2⟩
theorem TA_e {r c r' c' : Nat → Int} {n n' : Int} (h : TA r c n) (e1 : ∀ i : Nat, r' i = r i) (e2 : ∀ i : Nat, c' i = c i) (hn : n' ≤ n) : TA r' c' n' := fun i hi => by rw [e1, e2]; exact h i (by omega)
theorem zT_fr {m : aM} {st s : zS} (g : gInv zgt s) (j : zJ s) (f : aFr m st s) (a1 : ∀ i, amf m 150 i = false) (a2 : ama m 150 = false) (a3 : amf m 0 8 = false) (a4 : amf m 0 9 = false) (a5 : ama m 0 = false) (a6 : amf m 1 1 = false) (a7 : ama m 1 = false) (a8 : amf m 170 1 = false) (a9 : ama m 170 = false) (b1 : ∀ i, amf m 2 i = false) (b2 : ama m 2 = false) (b3 : ∀ i, amf m 171 i = false) (b4 : ama m 171 = false) (c1 : mout 122 (122 + 12) m = true) (c2 : mout 135 (135 + 12) m = true) (c3 : mbR m = true) (q : zQ6 st s) (h : zT st) : zT s :=
  ⟨⟨g, j⟩, (f 1 1 a6 a7).trans (h.2.1.trans (f 170 1 a8 a9).symm), TA_e h.2.2.1 (fun i => f 171 i (b3 i) b4) (fun i => f 2 i (b1 i) b2) (by rw [f 1 1 a6 a7]; exact Int.le_refl _), zO4_fr h.1.1 f a1 a2 a3 a4 a5 c1 c2 c3 q h.2.2.2⟩
theorem zT_V {st s : zS} (g : gInv zgt s) (j : zJ s) (t : s 170 1 = st 170 1) (v : zV0 st s) (h : zT st) : zT s :=
  ⟨⟨g, j⟩, (v 1 1 (by omega)).trans (h.2.1.trans t.symm), TA_e h.2.2.1 (fun i => v 171 i (by omega)) (fun i => v 2 i (by omega)) (by rw [v 1 1 (by omega)]; exact Int.le_refl _), zO4_V h.1.1 v h.2.2.2⟩
theorem zMt_V {st s : zS} (g : gInv zgt s) (j : zJ s) (t : s 170 1 = 0) (v : zV0 st s) (h : zMt st) : zT s := by
  have e : s 1 1 = 0 := (v 1 1 (by omega)).trans h.2.1
  exact ⟨⟨g, j⟩, e.trans t.symm, fun i hi => absurd hi (by omega), zO4_V h.1.1 v h.2.2⟩
def kT (s : aS) : zCall := fun _ as st Q => aTs s.1 as ∧ zT st ∧ ∀ (r : Int) (s1 : zS), zT s1 → Q (some (.inl r)) s1
theorem kT_m {cl : Nat → zCall} {D nu : Nat} {s : aS} (hS : aSp zgt cl D nu s) (hn : s.2.2.2.2.1 = 0) (hd : s.2.2.2.1 ≤ D) (hj : jfree s.2.1 = true) {b : aB} (hr : s.2.2.1 = some (.inl b)) (a1 : ∀ i, amf s.2.1 150 i = false) (a2 : ama s.2.1 150 = false) (a3 : amf s.2.1 0 8 = false) (a4 : amf s.2.1 0 9 = false) (a5 : ama s.2.1 0 = false) (a6 : amf s.2.1 1 1 = false) (a7 : ama s.2.1 1 = false) (a8 : amf s.2.1 170 1 = false) (a9 : ama s.2.1 170 = false) (b1 : ∀ i, amf s.2.1 2 i = false) (b2 : ama s.2.1 2 = false) (b3 : ∀ i, amf s.2.1 171 i = false) (b4 : ama s.2.1 171 = false) (c1 : mout 122 (122 + 12) s.2.1 = true) (c2 : mout 135 (135 + 12) s.2.1 = true) (c3 : mbR s.2.1 = true) (r1 : amf s.2.1 115 5 = false) (r2 : ama s.2.1 115 = false) (r3 : ∀ i, amf s.2.1 116 i = false) (r4 : ama s.2.1 116 = false) (r5 : ∀ i, amf s.2.1 117 i = false) (r6 : ama s.2.1 117 = false) (r7 : amf s.2.1 170 71 = false) (r8 : ∀ i, amf s.2.1 216 i = false) (r9 : ama s.2.1 216 = false) (r10 : ∀ i, amf s.2.1 217 i = false) (r11 : ama s.2.1 217 = false) : ∀ as st (Q Q' : zQ), (∀ r st', Q r st' → Q' r st') → kT s nu as st Q → cl D nu as st Q' := by
  intro as st Q Q' hQ h
  obtain ⟨h1, h2, h3⟩ := h
  refine hS as st h1 h2.1.1 ⟨fun _ => by omega, fun q => absurd hn q⟩ Q' (fun rz st' g f r => ?_)
  rw [hr] at r
  rcases rz with _ | (z | (z | z))
  · exact absurd r id
  · exact hQ _ _ (h3 z st' (zT_fr g (zJ_fr hj f h2.1.2) f a1 a2 a3 a4 a5 a6 a7 a8 a9 b1 b2 b3 b4 c1 c2 c3 ⟨f 115 5 r1 r2, fun i => f 116 i (r3 i) r4, fun i => f 117 i (r5 i) r6, f 170 71 r7 a9, fun i => f 216 i (r8 i) r9, fun i => f 217 i (r10 i) r11⟩ h2))
  · exact absurd r id
  · exact absurd r id
def kTz : zCall := fun _ as st Q => match as with
  | [.inr (.inr (.inl o))] => o = 0 ∧ zT st ∧ ∀ (r : Int) (s1 : zS), zMt s1 → Q (some (.inl r)) s1
  | _ => False
theorem kTz_on {cl : Nat → zCall} {D : Nat} (hTb : aTb zSh rx_tb cl) (hd : 8 ≤ D) : ∀ as st (Q Q' : zQ), (∀ r st', Q r st' → Q' r st') → kTz 174 as st Q → cl D 174 as st Q' := by
  intro as st Q Q' hQ h
  unfold kTz at h
  split at h
  · obtain ⟨rfl, h2, h3⟩ := h
    refine s_on2 hTb (z_all hTb) D [.inr (.inr (.inl 0))] st ⟨rfl, True.intro⟩ h2.1.1 ⟨fun _ => by show (8 : Int) ≤ (D : Int); omega, fun q => absurd rfl q⟩ Q' (fun rz st' g f r z => ?_)
    rcases rz with _ | (x | (x | x))
    · exact absurd r id
    · exact hQ _ _ (h3 x st' ⟨⟨g, zJ_fr rfl f h2.1.2⟩, z, zO4_fr h2.1.1 f (fun _ => rfl) rfl rfl rfl rfl rfl rfl rfl ⟨f 115 5 rfl rfl, fun i => f 116 i rfl rfl, fun i => f 117 i rfl rfl, f 170 71 rfl rfl, fun i => f 216 i rfl rfl, fun i => f 217 i rfl rfl⟩ h2.2.2.2⟩)
    · exact absurd r id
    · exact absurd r id
  · exact h.elim
/-- behind a town of the class: no town was read and the old one stands, or T is read -/
def zW (st s1 : zS) (d r : Int) (T : zS) : Prop := zI s1 ∧ s1 1 1 = 0 ∧ zO5 s1 ∧ (∀ i : Nat, s1 171 i = st 171 i) ∧ s1 170 1 = st 170 1 ∧ ((d = 0 ∧ r = -1 ∧ PNO (ctx st) (st 1 1) ∧ zN s1 ∧ zRw s1) ∨ (d = 1 ∧ POK (ctx st) (st 1 1) T r ∧ ((s1 0 8 = 122 ∧ T = tn 122 s1) ∨ (s1 0 8 = 135 ∧ T = tn 135 s1)) ∧ s1 115 5 = 0))
def kTw : zCall := fun _ as st Q => match as with
  | [.inr (.inr (.inl o))] => o = 0 ∧ zT st ∧ ∀ (r : Int) (s1 : zS) (d : Int) (T : zS), zW st s1 d r T → Q (some (.inl r)) s1
  | _ => False
theorem kTw_m {cl : Nat → zCall} {D : Nat} (hTb : aTb zSh rx_tb cl) (hd : 127 ≤ D) : ∀ as st (Q Q' : zQ), (∀ r st', Q r st' → Q' r st') → kTw 140 as st Q → cl D 140 as st Q' := by
  intro as st Q Q' hQ h
  unfold kTw at h
  split at h
  · obtain ⟨rfl, h2, h3⟩ := h
    obtain ⟨⟨o1, o2⟩, hN, hR⟩ := h2.2.2.2
    rcases o2 with o2 | o2
    · refine cl_join (Q1 := fun rr s => ∃ z : Int, rr = some (.inl z) ∧ en_yTownA st z s) (Q2 := fun rr s => ∃ z : Int, rr = some (.inl z) ∧ en_gTownA st z s) (fun cl' h' => c_yTownA h' (by omega) ⟨⟨h2.1.1, o1, o2⟩, fun r s q => ⟨r, rfl, q⟩⟩) (fun cl' h' => c_gTownA h' (by omega) ⟨⟨h2.1.1, o1, o2⟩, fun r s q => ⟨r, rfl, q⟩⟩) hTb (fun rr s1 y1 y2 => ?_)
      obtain ⟨r, rfl, q⟩ := y1
      obtain ⟨r', he, q'⟩ := y2
      have he : r = r' := by
        injection he with he
        injection he with he
      subst he
      obtain ⟨g, f, o, tz⟩ := q
      obtain ⟨qf, qz⟩ := q'
      have hJ := zJ_fr rfl f h2.1.2
      rcases o with ⟨e1, e2, e3, e4⟩ | ⟨e2, e3, e4⟩
      · refine hQ _ _ (h3 r s1 0 st ⟨⟨g, hJ⟩, tz, ⟨fun i hi => (f 150 i rfl rfl).trans (o1 i hi), Or.inl ⟨e4, e3⟩⟩, fun i => f 171 i rfl rfl, f 170 1 rfl rfl, Or.inl ⟨rfl, e1, e2, ?_, ?_⟩⟩)
        · rcases hN with ⟨n8, n⟩ | ⟨n8, n⟩
          · exfalso; omega
          · refine Or.inr ⟨e3, ?_⟩
            rw [f 170 13 rfl rfl, tn_fr (x := 135) rfl f]
            exact RT_bR (g_bank h2.1.1) (bR_fr rfl f) n
        · have k := qf e1
          exact zR_Q ⟨k 115 5 rfl rfl, fun i => k 116 i rfl rfl, fun i => k 117 i rfl rfl, k 170 71 rfl rfl, fun i => k 216 i rfl rfl, fun i => k 217 i rfl rfl⟩ (k 0 8 rfl rfl) (fun z => (by exfalso; omega)) (fun _ => tn_fr (x := 135) rfl f) hR
      · exact hQ _ _ (h3 r s1 1 (tn 122 s1) ⟨⟨g, hJ⟩, tz, ⟨fun i hi => (f 150 i rfl rfl).trans (o1 i hi), Or.inr ⟨e4, e3⟩⟩, fun i => f 171 i rfl rfl, f 170 1 rfl rfl, Or.inr ⟨rfl, e2, Or.inl ⟨e3, rfl⟩, qz (fun z => by have k := qf z 0 8 rfl rfl; omega)⟩⟩)
    · refine cl_join (Q1 := fun rr s => ∃ z : Int, rr = some (.inl z) ∧ en_yTownB st z s) (Q2 := fun rr s => ∃ z : Int, rr = some (.inl z) ∧ en_gTownB st z s) (fun cl' h' => c_yTownB h' (by omega) ⟨⟨h2.1.1, o1, o2⟩, fun r s q => ⟨r, rfl, q⟩⟩) (fun cl' h' => c_gTownB h' (by omega) ⟨⟨h2.1.1, o1, o2⟩, fun r s q => ⟨r, rfl, q⟩⟩) hTb (fun rr s1 y1 y2 => ?_)
      obtain ⟨r, rfl, q⟩ := y1
      obtain ⟨r', he, q'⟩ := y2
      have he : r = r' := by
        injection he with he
        injection he with he
      subst he
      obtain ⟨g, f, o, tz⟩ := q
      obtain ⟨qf, qz⟩ := q'
      have hJ := zJ_fr rfl f h2.1.2
      rcases o with ⟨e1, e2, e3, e4⟩ | ⟨e2, e3, e4⟩
      · refine hQ _ _ (h3 r s1 0 st ⟨⟨g, hJ⟩, tz, ⟨fun i hi => (f 150 i rfl rfl).trans (o1 i hi), Or.inr ⟨e4, e3⟩⟩, fun i => f 171 i rfl rfl, f 170 1 rfl rfl, Or.inl ⟨rfl, e1, e2, ?_, ?_⟩⟩)
        · rcases hN with ⟨n8, n⟩ | ⟨n8, n⟩
          · refine Or.inl ⟨e3, ?_⟩
            rw [f 170 13 rfl rfl, tn_fr (x := 122) rfl f]
            exact RT_bR (g_bank h2.1.1) (bR_fr rfl f) n
          · exfalso; omega
        · have k := qf e1
          exact zR_Q ⟨k 115 5 rfl rfl, fun i => k 116 i rfl rfl, fun i => k 117 i rfl rfl, k 170 71 rfl rfl, fun i => k 216 i rfl rfl, fun i => k 217 i rfl rfl⟩ (k 0 8 rfl rfl) (fun _ => tn_fr (x := 122) rfl f) (fun z => (by exfalso; omega)) hR
      · exact hQ _ _ (h3 r s1 1 (tn 135 s1) ⟨⟨g, hJ⟩, tz, ⟨fun i hi => (f 150 i rfl rfl).trans (o1 i hi), Or.inl ⟨e4, e3⟩⟩, fun i => f 171 i rfl rfl, f 170 1 rfl rfl, Or.inr ⟨rfl, e2, Or.inr ⟨e3, rfl⟩, qz (fun z => by have k := qf z 0 8 rfl rfl; omega)⟩⟩)
  · exact h.elim
/-- the reference answers alike; its town is T -/
def kTu : zCall := fun _ as st Q => match as with
  | [.inr (.inr (.inl o))] => o = 170 ∧ zI st ∧ ∃ (t : Int → Int) (n d r : Int) (T : zS), (∀ j : Int, 0 ≤ j → j < n → st 171 j.toNat = t j) ∧ st 170 1 = n ∧ ((d = 0 ∧ r = -1 ∧ PNO t n) ∨ (d = 1 ∧ POK t n T r)) ∧ ∀ s1 : zS, (gInv zgt s1 ∧ zJ s1 ∧ zV1 st s1 ∧ s1 170 1 = 0 ∧ (d = 0 → bR st s1 ∧ zP st s1) ∧ (d = 1 → RT (s1 170 13) T s1 ∧ s1 170 71 = 0)) → Q (some (.inl r)) s1
  | _ => False
theorem kTu_m {cl : Nat → zCall} {D : Nat} (hTb : aTb zSh rx_tb cl) (hd : 8 ≤ D) : ∀ as st (Q Q' : zQ), (∀ r st', Q r st' → Q' r st') → kTu 148 as st Q → cl D 148 as st Q' := by
  intro as st Q Q' hQ h
  unfold kTu at h
  split at h
  · obtain ⟨rfl, h2, t, n, d, r, T, h3, h4, h5, h6⟩ := h
    rcases h5 with ⟨hd0, hr, h5⟩ | ⟨hd1, h5⟩
    · obtain ⟨m, Ts, ps, hg⟩ := TGH_no h5
      refine cl_join (Q1 := fun rr s => ∃ z : Int, rr = some (.inl z) ∧ en_yTown t n 0 m Ts ps st z s) (Q2 := fun rr s => ∃ z : Int, rr = some (.inl z) ∧ en_fTown st z s) (fun cl' h' => c_yTown h' (by omega) ⟨⟨h2.1, h2.2, h3, h4, hg⟩, fun r s q => ⟨r, rfl, q⟩⟩) (fun cl' h' => c_fTown h' (by omega) ⟨⟨h2.1, h2.2⟩, fun r s q => ⟨r, rfl, q⟩⟩) hTb (fun rr s1 y1 y2 => ?_)
      obtain ⟨r1, rfl, q⟩ := y1
      obtain ⟨r', he, qf, qz⟩ := y2
      have he : r1 = r' := by
        injection he with he
        injection he with he
      subst he
      obtain ⟨q1, q2, q3, q4, q5⟩ := q
      have e : r1 = r := (q5.2 rfl).1.trans hr.symm
      have k := qf (q5.2 rfl).1
      rw [e]
      exact hQ _ _ (h6 s1 ⟨q1, q2, q3, q4, fun _ => ⟨(q5.2 rfl).2.1, k 170 71 rfl rfl, fun i => k 216 i rfl rfl, fun i => k 217 i rfl rfl⟩, fun z => by omega⟩)
    · obtain ⟨m, Ts, ps, hg, hr, hT⟩ := TGH_ok h5
      refine cl_join (Q1 := fun rr s => ∃ z : Int, rr = some (.inl z) ∧ en_yTown t n 1 m Ts ps st z s) (Q2 := fun rr s => ∃ z : Int, rr = some (.inl z) ∧ en_fTown st z s) (fun cl' h' => c_yTown h' (by omega) ⟨⟨h2.1, h2.2, h3, h4, hg⟩, fun r s q => ⟨r, rfl, q⟩⟩) (fun cl' h' => c_fTown h' (by omega) ⟨⟨h2.1, h2.2⟩, fun r s q => ⟨r, rfl, q⟩⟩) hTb (fun rr s1 y1 y2 => ?_)
      obtain ⟨r1, rfl, q⟩ := y1
      obtain ⟨r', he, qf, qz⟩ := y2
      have he : r1 = r' := by
        injection he with he
        injection he with he
      subst he
      obtain ⟨q1, q2, q3, q4, q5⟩ := q
      have e : r1 = r := (q5.1 rfl).1.trans hr.symm
      have k := qz (by have z := (q5.1 rfl).1; omega)
      rw [e]
      exact hQ _ _ (h6 s1 ⟨q1, q2, q3, q4, fun z => by omega, fun _ => ⟨by rw [← hT]; exact (q5.1 rfl).2.1, k⟩⟩)
  · exact h.elim
theorem zT_W {st s1 s2 : zS} {d r : Int} {T : zS} (h : zW st s1 d r T) (g : gInv zgt s2) (j : zJ s2) (v : zV1 s1 s2) (t : s2 170 1 = 0) (h0 : d = 0 → bR s1 s2 ∧ zP s1 s2) (h1 : d = 1 → RT (s2 170 13) T s2 ∧ s2 170 71 = 0) : zT s2 := by
  obtain ⟨a1, a2, a3, a4, a5, a6⟩ := h
  have lo : ∀ c i : Nat, c < 170 → s2 c i = s1 c i := fun c i hc => v c i (Or.inl hc)
  have e : s2 1 1 = 0 := (lo 1 1 (by omega)).trans a2
  refine ⟨⟨g, j⟩, e.trans t.symm, fun i hi => absurd hi (by omega), zO5_lo lo a3, ?_⟩
  rcases a6 with ⟨z, -, -, n, nr⟩ | ⟨z, pk, n, n0⟩
  · obtain ⟨b, p1, p2, p3⟩ := h0 z
    exact ⟨zN_bR a1.1 (lo 0 8 (by omega)) (tn_lo lo 122 (by omega)) (tn_lo lo 135 (by omega)) b n, zR_Q ⟨lo 115 5 (by omega), fun i => lo 116 i (by omega), fun i => lo 117 i (by omega), p1, p2, p3⟩ (lo 0 8 (by omega)) (fun _ => tn_lo lo 122 (by omega)) (fun _ => tn_lo lo 135 (by omega)) nr⟩
  · obtain ⟨k, k0⟩ := h1 z
    have hw : TW T := TW_POK pk
    have hc : s2 115 5 = 0 := (lo 115 5 (by omega)).trans n0
    have h8 : s2 0 8 = s1 0 8 := lo 0 8 (by omega)
    refine ⟨?_, ?_⟩
    · rcases n with ⟨n8, n⟩ | ⟨n8, n⟩
      · rw [n, ← tn_lo lo 122 (by omega)] at k
        exact Or.inl ⟨h8.trans n8, k⟩
      · rw [n, ← tn_lo lo 135 (by omega)] at k
        exact Or.inr ⟨h8.trans n8, k⟩
    · rcases n with ⟨n8, n⟩ | ⟨n8, n⟩
      · rw [n, ← tn_lo lo 122 (by omega)] at hw
        exact ⟨⟨fun _ => hw, fun z2 => (by exfalso; omega)⟩, by omega, fun i hi => (by exfalso; omega)⟩
      · rw [n, ← tn_lo lo 135 (by omega)] at hw
        exact ⟨⟨fun z2 => (by exfalso; omega), fun _ => hw⟩, by omega, fun i hi => (by exfalso; omega)⟩
section LWE
variable {cl : Nat → zCall}
set_option maxHeartbeats 4000000 in
set_option maxRecDepth 100000 in
theorem c_bEnd (hTb : aTb zSh rx_tb cl) {D : Nat} (hD : 2 ≤ D) {x : Int} {st : zS} {Q : zQ} (h : ct_bEnd x st Q) : cl D 88 [.inr (.inr (.inl 0)), .inl x] st Q := by
  obtain ⟨d, rfl⟩ : ∃ d, D = d + 1 := ⟨D - 1, by omega⟩
  refine hTb d 88 (rx_m88, 2, 0, 0, 2) rfl _ _ _ (Nat.le_of_ble_eq_true rfl) (fun K hcl hsf hsl => ?_)
  have hcm : zmo (wcL [(61, k_cDeny), (89, k_cCut)]) (cl d) := (wcL_m (wm_cons (k_cDeny_m hTb (by omega)) (wm_cons (k_cCut_m hTb (by omega)) wm_nil)))
  obtain ⟨hR, hQ⟩ := h
  obtain ⟨hG, hJ⟩ := hR
  have g1 := g_tsize hG
  refine yr1_ok (Rt := Q) (wc := (wcL [(61, k_cDeny), (89, k_cCut)])) (stp := []) hcm hcl [] 37 ?_
  show ((x < (0 : Int) → (0 = 0 ∧ (rq_cDeny (0) st ∧ (∀ (r2 : Int) (s2 : zS), en_cDeny (0) st r2 s2 → ((r2 = (0 : Int) ∨ r2 = (1 : Int)) ∧ Q (some (.inl r2)) s2))))) ∧ (¬ (x < (0 : Int)) → ((x ≤ st 1 1 → (1 = 1 ∧ (rq_cCut x st ∧ (∀ (s3 : zS), en_cCut x st s3 → ((1 = (0 : Int) ∨ 1 = (1 : Int)) ∧ Q (some (.inl 1)) s3))))) ∧ (¬ (x ≤ st 1 1) → (0 = 0 ∧ (rq_cDeny (0) st ∧ (∀ (r4 : Int) (s4 : zS), en_cDeny (0) st r4 s4 → ((r4 = (0 : Int) ∨ r4 = (1 : Int)) ∧ Q (some (.inl r4)) s4))))))))
  refine ⟨fun h5 => ?_, fun h5 => ?_⟩
  · refine ⟨rfl, ⟨hG, (show 0 ≤ (0) ∧ (0) ≤ 5 from by omega)⟩, fun r2 s2 q2 => ?_⟩
    obtain ⟨gs2, fs2, e2⟩ := q2
    change r2 = 0 at e2
    refine ⟨by omega, ?_⟩
    have e6 : s2 1 1 = st 1 1 := fs2 1 1 rfl rfl
    exact hQ _ _ ⟨gs2, (fr_tr (fr_rf _ _) fs2 rfl), (zJ_fr rfl fs2 hJ), (show (x < 0 ∨ st 1 1 < x → r2 = 0 ∧ s2 1 1 = st 1 1) ∧ (0 ≤ x ∧ x ≤ st 1 1 → r2 = 1 ∧ s2 1 1 = x) from by omega)⟩
  · refine ⟨fun h7 => ?_, fun h7 => ?_⟩
    · refine ⟨rfl, hG, fun s3 q3 => ?_⟩
      obtain ⟨gs3, fs3, t3⟩ := q3
      change (0 ≤ x ∧ x < st 1 1 → s3 1 1 = x) ∧ (¬ (0 ≤ x ∧ x < st 1 1) → s3 1 1 = st 1 1) at t3
      have g8 := g_tsize gs3
      refine ⟨by omega, ?_⟩
      exact hQ _ _ ⟨gs3, (fr_tr (fr_rf _ _) fs3 rfl), (zJ_fr rfl fs3 hJ), (show (x < 0 ∨ st 1 1 < x → (1 : Int) = 0 ∧ s3 1 1 = st 1 1) ∧ (0 ≤ x ∧ x ≤ st 1 1 → (1 : Int) = 1 ∧ s3 1 1 = x) from by omega)⟩
    · refine ⟨rfl, ⟨hG, (show 0 ≤ (0) ∧ (0) ≤ 5 from by omega)⟩, fun r4 s4 q4 => ?_⟩
      obtain ⟨gs4, fs4, e4⟩ := q4
      change r4 = 0 at e4
      refine ⟨by omega, ?_⟩
      have e9 : s4 1 1 = st 1 1 := fs4 1 1 rfl rfl
      exact hQ _ _ ⟨gs4, (fr_tr (fr_rf _ _) fs4 rfl), (zJ_fr rfl fs4 hJ), (show (x < 0 ∨ st 1 1 < x → r4 = 0 ∧ s4 1 1 = st 1 1) ∧ (0 ≤ x ∧ x ≤ st 1 1 → r4 = 1 ∧ s4 1 1 = x) from by omega)⟩
theorem k_bEnd_m (hTb : aTb zSh rx_tb cl) {D : Nat} (hD : 2 ≤ D) : ∀ as st (Q Q' : zQ), (∀ r st', Q r st' → Q' r st') → k_bEnd 88 as st Q → cl D 88 as st Q' := by
  intro as st Q Q' hQ h
  unfold k_bEnd at h
  split at h
  · obtain ⟨rfl, h⟩ := h
    exact c_bEnd hTb hD (ct_bEnd_m hQ h)
  · exact h.elim
end LWE
