/-! printed by wip/p4/py/lw.py: what stands between the law's calls -/
def m_bEnd : aM := ([(1, 1)], [121])
def rq_bEnd (x : Int) (st : zS) : Prop := gInv zgt st ∧ zJ st
def en_bEnd (x : Int) (st : zS) (r : Int) (s1 : zS) : Prop := gInv zgt s1 ∧ aFr m_bEnd st s1 ∧ zJ s1 ∧ ((x < 0 ∨ st 1 1 < x → r = 0 ∧ s1 1 1 = st 1 1) ∧ (0 ≤ x ∧ x ≤ st 1 1 → r = 1 ∧ s1 1 1 = x))
def ct_bEnd (x : Int) (st : zS) (Q : zQ) : Prop := rq_bEnd x st ∧ (∀ (r : Int) (s1 : zS), en_bEnd x st r s1 → Q (some (.inl r)) s1)
theorem ct_bEnd_m {x : Int} {st : zS} {Q Q' : zQ} (hQ : ∀ r st', Q r st' → Q' r st') (h : ct_bEnd x st Q) : ct_bEnd x st Q' := ⟨h.1, fun x0 x1 x2 => hQ _ _ (h.2 x0 x1 x2)⟩
def k_bEnd : zCall := fun _ as st Q => match as with
  | [.inr (.inr (.inl z_o)), .inl x] => z_o = 0 ∧ ct_bEnd x st Q
  | _ => False
/-- the class's parts: its own words, its two towns -/
def zO4 (st : zS) : Prop := cOW st ∧ ((st 0 9 = 122 ∧ st 0 8 = 135) ∨ (st 0 9 = 135 ∧ st 0 8 = 122))
def zT (st : zS) : Prop := zI st ∧ st 1 1 = st 170 1 ∧ TA (st 171) (st 2) (st 1 1) ∧ zO4 st
/-- behind a town, a half, an on of the class: its tape is empty -/
def zMt (st : zS) : Prop := zI st ∧ st 1 1 = 0 ∧ zO4 st
theorem z0_T : zT z0 := ⟨z0_I, by decide +kernel, fun i hi => absurd hi (by rw [show z0 1 1 = 0 from by decide +kernel]; omega), (show ∀ i : Nat, i < 26 → z0 150 i = owx i from by decide +kernel), Or.inr ⟨by decide +kernel, by decide +kernel⟩⟩
theorem zO4_fr {m : aM} {st s : zS} (f : aFr m st s) (a1 : ∀ i, amf m 150 i = false) (a2 : ama m 150 = false) (a3 : amf m 0 8 = false) (a4 : amf m 0 9 = false) (a5 : ama m 0 = false) (h : zO4 st) : zO4 s := by
  obtain ⟨h1, h2⟩ := h
  refine ⟨fun i hi => (f 150 i (a1 i) a2).trans (h1 i hi), ?_⟩
  rw [f 0 8 a3 a5, f 0 9 a4 a5]
  exact h2
theorem zO4_V {st s : zS} (v : zV0 st s) (h : zO4 st) : zO4 s := by
  obtain ⟨h1, h2⟩ := h
  refine ⟨fun i hi => (v 150 i (by omega)).trans (h1 i hi), ?_⟩
  rw [v 0 8 (by omega), v 0 9 (by omega)]
  exact h2
theorem TA_e {r c r' c' : Nat → Int} {n n' : Int} (h : TA r c n) (e1 : ∀ i : Nat, r' i = r i) (e2 : ∀ i : Nat, c' i = c i) (hn : n' ≤ n) : TA r' c' n' := fun i hi => by rw [e1, e2]; exact h i (by omega)
theorem zT_fr {m : aM} {st s : zS} (g : gInv zgt s) (j : zJ s) (f : aFr m st s) (a1 : ∀ i, amf m 150 i = false) (a2 : ama m 150 = false) (a3 : amf m 0 8 = false) (a4 : amf m 0 9 = false) (a5 : ama m 0 = false) (a6 : amf m 1 1 = false) (a7 : ama m 1 = false) (a8 : amf m 170 1 = false) (a9 : ama m 170 = false) (b1 : ∀ i, amf m 2 i = false) (b2 : ama m 2 = false) (b3 : ∀ i, amf m 171 i = false) (b4 : ama m 171 = false) (h : zT st) : zT s :=
  ⟨⟨g, j⟩, (f 1 1 a6 a7).trans (h.2.1.trans (f 170 1 a8 a9).symm), TA_e h.2.2.1 (fun i => f 171 i (b3 i) b4) (fun i => f 2 i (b1 i) b2) (by rw [f 1 1 a6 a7]; exact Int.le_refl _), zO4_fr f a1 a2 a3 a4 a5 h.2.2.2⟩
theorem zT_V {st s : zS} (g : gInv zgt s) (j : zJ s) (t : s 170 1 = st 170 1) (v : zV0 st s) (h : zT st) : zT s :=
  ⟨⟨g, j⟩, (v 1 1 (by omega)).trans (h.2.1.trans t.symm), TA_e h.2.2.1 (fun i => v 171 i (by omega)) (fun i => v 2 i (by omega)) (by rw [v 1 1 (by omega)]; exact Int.le_refl _), zO4_V v h.2.2.2⟩
theorem zMt_V {st s : zS} (g : gInv zgt s) (j : zJ s) (t : s 170 1 = 0) (v : zV0 st s) (h : zMt st) : zT s := by
  have e : s 1 1 = 0 := (v 1 1 (by omega)).trans h.2.1
  exact ⟨⟨g, j⟩, e.trans t.symm, fun i hi => absurd hi (by omega), zO4_V v h.2.2⟩
def kT (s : aS) : zCall := fun _ as st Q => aTs s.1 as ∧ zT st ∧ ∀ (r : Int) (s1 : zS), zT s1 → Q (some (.inl r)) s1
theorem kT_m {cl : Nat → zCall} {D nu : Nat} {s : aS} (hS : aSp zgt cl D nu s) (hn : s.2.2.2.2.1 = 0) (hd : s.2.2.2.1 ≤ D) (hj : jfree s.2.1 = true) {b : aB} (hr : s.2.2.1 = some (.inl b)) (a1 : ∀ i, amf s.2.1 150 i = false) (a2 : ama s.2.1 150 = false) (a3 : amf s.2.1 0 8 = false) (a4 : amf s.2.1 0 9 = false) (a5 : ama s.2.1 0 = false) (a6 : amf s.2.1 1 1 = false) (a7 : ama s.2.1 1 = false) (a8 : amf s.2.1 170 1 = false) (a9 : ama s.2.1 170 = false) (b1 : ∀ i, amf s.2.1 2 i = false) (b2 : ama s.2.1 2 = false) (b3 : ∀ i, amf s.2.1 171 i = false) (b4 : ama s.2.1 171 = false) : ∀ as st (Q Q' : zQ), (∀ r st', Q r st' → Q' r st') → kT s nu as st Q → cl D nu as st Q' := by
  intro as st Q Q' hQ h
  obtain ⟨h1, h2, h3⟩ := h
  refine hS as st h1 h2.1.1 ⟨fun _ => by omega, fun q => absurd hn q⟩ Q' (fun rz st' g f r => ?_)
  rw [hr] at r
  rcases rz with _ | (z | (z | z))
  · exact absurd r id
  · exact hQ _ _ (h3 z st' (zT_fr g (zJ_fr hj f h2.1.2) f a1 a2 a3 a4 a5 a6 a7 a8 a9 b1 b2 b3 b4 h2))
  · exact absurd r id
  · exact absurd r id
def kTz : zCall := fun _ as st Q => match as with
  | [.inr (.inr (.inl o))] => o = 0 ∧ zT st ∧ ∀ (r : Int) (s1 : zS), zMt s1 → Q (some (.inl r)) s1
  | _ => False
theorem kTz_half {cl : Nat → zCall} {D : Nat} (hTb : aTb zSh rx_tb cl) (hd : 4 ≤ D) : ∀ as st (Q Q' : zQ), (∀ r st', Q r st' → Q' r st') → kTz 161 as st Q → cl D 161 as st Q' := by
  intro as st Q Q' hQ h
  unfold kTz at h
  split at h
  · obtain ⟨rfl, h2, h3⟩ := h
    refine s_half2 hTb D [.inr (.inr (.inl 0))] st ⟨rfl, True.intro⟩ h2.1.1 ⟨fun _ => by show (4 : Int) ≤ (D : Int); omega, fun q => absurd rfl q⟩ Q' (fun rz st' g f r z => ?_)
    rcases rz with _ | (x | (x | x))
    · exact absurd r id
    · exact hQ _ _ (h3 x st' ⟨⟨g, zJ_fr rfl f h2.1.2⟩, z, zO4_fr f (fun _ => rfl) rfl rfl rfl rfl h2.2.2.2⟩)
    · exact absurd r id
    · exact absurd r id
  · exact h.elim
theorem kTz_on {cl : Nat → zCall} {D : Nat} (hTb : aTb zSh rx_tb cl) (hd : 8 ≤ D) : ∀ as st (Q Q' : zQ), (∀ r st', Q r st' → Q' r st') → kTz 174 as st Q → cl D 174 as st Q' := by
  intro as st Q Q' hQ h
  unfold kTz at h
  split at h
  · obtain ⟨rfl, h2, h3⟩ := h
    refine s_on2 hTb (z_all hTb) D [.inr (.inr (.inl 0))] st ⟨rfl, True.intro⟩ h2.1.1 ⟨fun _ => by show (8 : Int) ≤ (D : Int); omega, fun q => absurd rfl q⟩ Q' (fun rz st' g f r z => ?_)
    rcases rz with _ | (x | (x | x))
    · exact absurd r id
    · exact hQ _ _ (h3 x st' ⟨⟨g, zJ_fr rfl f h2.1.2⟩, z, zO4_fr f (fun _ => rfl) rfl rfl rfl rfl h2.2.2.2⟩)
    · exact absurd r id
    · exact absurd r id
  · exact h.elim
/-- the class's answer to a text -/
def RES (t : Int → Int) (n r : Int) : Prop := (r = -1 ∧ PNO t n) ∨ ∃ T : zS, POK t n T r
def kTw : zCall := fun _ as st Q => match as with
  | [.inr (.inr (.inl o))] => o = 0 ∧ zT st ∧ ∀ (r : Int) (s1 : zS), (zMt s1 ∧ (∀ i : Nat, s1 171 i = st 171 i) ∧ s1 170 1 = st 170 1 ∧ RES (ctx st) (st 1 1) r) → Q (some (.inl r)) s1
  | _ => False
theorem kTw_m {cl : Nat → zCall} {D : Nat} (hTb : aTb zSh rx_tb cl) (hd : 127 ≤ D) : ∀ as st (Q Q' : zQ), (∀ r st', Q r st' → Q' r st') → kTw 140 as st Q → cl D 140 as st Q' := by
  intro as st Q Q' hQ h
  unfold kTw at h
  split at h
  · obtain ⟨rfl, h2, h3⟩ := h
    obtain ⟨o1, o2⟩ := h2.2.2.2
    rcases o2 with o2 | o2
    · refine c_cTownA hTb (by omega) ⟨⟨h2.1.1, o1, o2⟩, fun r s1 q => hQ _ _ (h3 r s1 ?_)⟩
      obtain ⟨g, f, o, tz, ds⟩ := q
      refine ⟨⟨⟨g, zJ_fr rfl f h2.1.2⟩, tz, fun i hi => (f 150 i rfl rfl).trans (o1 i hi), ?_⟩, fun i => f 171 i rfl rfl, f 170 1 rfl rfl, ?_⟩
      · rcases ds with ds | ds
        · exact Or.inr ⟨ds.2, ds.1⟩
        · exact Or.inl ⟨ds.2, ds.1⟩
      · rcases o with o | o
        · exact Or.inl o
        · exact Or.inr ⟨_, o⟩
    · refine c_cTownB hTb (by omega) ⟨⟨h2.1.1, o1, o2⟩, fun r s1 q => hQ _ _ (h3 r s1 ?_)⟩
      obtain ⟨g, f, o, tz, ds⟩ := q
      refine ⟨⟨⟨g, zJ_fr rfl f h2.1.2⟩, tz, fun i hi => (f 150 i rfl rfl).trans (o1 i hi), ?_⟩, fun i => f 171 i rfl rfl, f 170 1 rfl rfl, ?_⟩
      · rcases ds with ds | ds
        · exact Or.inl ⟨ds.2, ds.1⟩
        · exact Or.inr ⟨ds.2, ds.1⟩
      · rcases o with o | o
        · exact Or.inl o
        · exact Or.inr ⟨_, o⟩
  · exact h.elim
/-- the reference's town, both contracts: what it told, and what it leaves -/
theorem c_tTown {cl : Nat → zCall} (hTb : aTb zSh rx_tb cl) {t : Int → Int} {n gd : Int} {m : Nat} {Ts : Nat → zS} {ps : Nat → Int} {D : Nat} (hD : 8 ≤ D) {st : zS} {Q : zQ} (h : rq_rTown t n gd m Ts ps st) (hQ : ∀ (r : Int) (s1 : zS), en_rTown t n gd m Ts ps st r s1 → zV0 st s1 → Q (some (.inl r)) s1) : cl D 148 [.inr (.inr (.inl 170))] st Q := by
  refine cl_join (Q1 := fun r s => ∃ z : Int, r = some (.inl z) ∧ en_town st z s) (Q2 := fun r s => ∃ z : Int, r = some (.inl z) ∧ en_rTown t n gd m Ts ps st z s) (fun cl' h' => c_town h' (by omega) ⟨⟨h.1, h.2.1⟩, fun z s q => ⟨z, rfl, q⟩⟩) (fun cl' h' => c_rTown h' (by omega) ⟨h, fun z s q => ⟨z, rfl, q⟩⟩) hTb (fun r s z1 z2 => ?_)
  obtain ⟨z, rfl, a⟩ := z1
  obtain ⟨z', e, b⟩ := z2
  cases e
  exact hQ _ _ b a.2.2.1
/-- the reference answers alike -/
def kTu : zCall := fun _ as st Q => match as with
  | [.inr (.inr (.inl o))] => o = 170 ∧ zI st ∧ ∃ (t : Int → Int) (n r : Int), (∀ j : Int, 0 ≤ j → j < n → st 171 j.toNat = t j) ∧ st 170 1 = n ∧ RES t n r ∧ ∀ s1 : zS, (gInv zgt s1 ∧ zJ s1 ∧ zV0 st s1 ∧ s1 170 1 = 0) → Q (some (.inl r)) s1
  | _ => False
theorem kTu_m {cl : Nat → zCall} {D : Nat} (hTb : aTb zSh rx_tb cl) (hd : 8 ≤ D) : ∀ as st (Q Q' : zQ), (∀ r st', Q r st' → Q' r st') → kTu 148 as st Q → cl D 148 as st Q' := by
  intro as st Q Q' hQ h
  unfold kTu at h
  split at h
  · obtain ⟨rfl, h2, t, n, r, h3, h4, h5, h6⟩ := h
    rcases h5 with ⟨hr, h5⟩ | ⟨T, h5⟩
    · obtain ⟨m, Ts, ps, hg⟩ := TGH_no h5
      refine c_tTown hTb (by omega) ⟨h2.1, h2.2, h3, h4, hg⟩ (fun r1 s1 q v => ?_)
      obtain ⟨q1, q2, q3, q4, q5⟩ := q
      have e : r1 = r := (q5.2 rfl).trans hr.symm
      rw [e]
      exact hQ _ _ (h6 s1 ⟨q1, q2, v, q4⟩)
    · obtain ⟨m, Ts, ps, hg, hr, -⟩ := TGH_ok h5
      refine c_tTown hTb (by omega) ⟨h2.1, h2.2, h3, h4, hg⟩ (fun r1 s1 q v => ?_)
      obtain ⟨q1, q2, q3, q4, q5⟩ := q
      have e : r1 = r := (q5.1 rfl).1.trans hr.symm
      rw [e]
      exact hQ _ _ (h6 s1 ⟨q1, q2, v, q4⟩)
  · exact h.elim
section LWE
variable {cl : Nat → zCall}
set_option maxHeartbeats 4000000 in
set_option maxRecDepth 100000 in
theorem c_bEnd (hTb : aTb zSh rx_tb cl) {D : Nat} (hD : 2 ≤ D) {x : Int} {st : zS} {Q : zQ} (h : ct_bEnd x st Q) : cl D 88 [.inr (.inr (.inl 0)), .inl x] st Q := by
  obtain ⟨d, rfl⟩ : ∃ d, D = d + 1 := ⟨D - 1, by omega⟩
  refine hTb d 88 (rx_m88, 2, 0, 0, 2) rfl _ _ _ (Nat.le_of_ble_eq_true rfl) (fun K hcl hsf hsl => ?_)
  have hcm : zmo (wcL [(61, k_cDeny), (89, k_cCut)]) (cl d) := (wcL_m (wm_cons (k_cDeny_m hTb (by omega)) (wm_cons (k_cCut_m hTb (by omega)) wm_nil)))
  obtain ⟨hR, hQ⟩ := h
  obtain ⟨hG, hJ⟩ := hR
  have g1 := g_tsize hG
  refine yr1_ok (Rt := Q) (wc := (wcL [(61, k_cDeny), (89, k_cCut)])) (stp := []) hcm hcl [] 37 ?_
  show ((x < (0 : Int) → (0 = 0 ∧ (rq_cDeny (0) st ∧ (∀ (r2 : Int) (s2 : zS), en_cDeny (0) st r2 s2 → ((r2 = (0 : Int) ∨ r2 = (1 : Int)) ∧ Q (some (.inl r2)) s2))))) ∧ (¬ (x < (0 : Int)) → ((x ≤ st 1 1 → (1 = 1 ∧ (rq_cCut x st ∧ (∀ (s3 : zS), en_cCut x st s3 → ((1 = (0 : Int) ∨ 1 = (1 : Int)) ∧ Q (some (.inl 1)) s3))))) ∧ (¬ (x ≤ st 1 1) → (0 = 0 ∧ (rq_cDeny (0) st ∧ (∀ (r4 : Int) (s4 : zS), en_cDeny (0) st r4 s4 → ((r4 = (0 : Int) ∨ r4 = (1 : Int)) ∧ Q (some (.inl r4)) s4))))))))
  refine ⟨fun h5 => ?_, fun h5 => ?_⟩
  · refine ⟨rfl, ⟨hG, (show 0 ≤ (0) ∧ (0) ≤ 5 from by omega)⟩, fun r2 s2 q2 => ?_⟩
    obtain ⟨gs2, fs2, e2⟩ := q2
    change r2 = 0 at e2
    refine ⟨by omega, ?_⟩
    have e6 : s2 1 1 = st 1 1 := fs2 1 1 rfl rfl
    exact hQ _ _ ⟨gs2, (fr_tr (fr_rf _ _) fs2 rfl), (zJ_fr rfl fs2 hJ), (show (x < 0 ∨ st 1 1 < x → r2 = 0 ∧ s2 1 1 = st 1 1) ∧ (0 ≤ x ∧ x ≤ st 1 1 → r2 = 1 ∧ s2 1 1 = x) from by omega)⟩
  · refine ⟨fun h7 => ?_, fun h7 => ?_⟩
    · refine ⟨rfl, hG, fun s3 q3 => ?_⟩
      obtain ⟨gs3, fs3, t3⟩ := q3
      change (0 ≤ x ∧ x < st 1 1 → s3 1 1 = x) ∧ (¬ (0 ≤ x ∧ x < st 1 1) → s3 1 1 = st 1 1) at t3
      have g8 := g_tsize gs3
      refine ⟨by omega, ?_⟩
      exact hQ _ _ ⟨gs3, (fr_tr (fr_rf _ _) fs3 rfl), (zJ_fr rfl fs3 hJ), (show (x < 0 ∨ st 1 1 < x → (1 : Int) = 0 ∧ s3 1 1 = st 1 1) ∧ (0 ≤ x ∧ x ≤ st 1 1 → (1 : Int) = 1 ∧ s3 1 1 = x) from by omega)⟩
    · refine ⟨rfl, ⟨hG, (show 0 ≤ (0) ∧ (0) ≤ 5 from by omega)⟩, fun r4 s4 q4 => ?_⟩
      obtain ⟨gs4, fs4, e4⟩ := q4
      change r4 = 0 at e4
      refine ⟨by omega, ?_⟩
      have e9 : s4 1 1 = st 1 1 := fs4 1 1 rfl rfl
      exact hQ _ _ ⟨gs4, (fr_tr (fr_rf _ _) fs4 rfl), (zJ_fr rfl fs4 hJ), (show (x < 0 ∨ st 1 1 < x → r4 = 0 ∧ s4 1 1 = st 1 1) ∧ (0 ≤ x ∧ x ≤ st 1 1 → r4 = 1 ∧ s4 1 1 = x) from by omega)⟩
theorem k_bEnd_m (hTb : aTb zSh rx_tb cl) {D : Nat} (hD : 2 ≤ D) : ∀ as st (Q Q' : zQ), (∀ r st', Q r st' → Q' r st') → k_bEnd 88 as st Q → cl D 88 as st Q' := by
  intro as st Q Q' hQ h
  unfold k_bEnd at h
  split at h
  · obtain ⟨rfl, h⟩ := h
    exact c_bEnd hTb hD (ct_bEnd_m hQ h)
  · exact h.elim
end LWE
