/-! printed by wip/p32/libaa.py: both feeds -/
/-- twenty bytes more -/
def FD (f g : Nat → Int) (n a b c d e : Int) : Prop := ∃ g1 g2 g3 g4 : Nat → Int, PN f g1 n a ∧ PN g1 g2 (n + 4) b ∧ PN g2 g3 (n + 8) c ∧ PN g3 g4 (n + 12) d ∧ PN g4 g (n + 16) e
/-- the texts are alike below n -/
def TA (r c : Nat → Int) (n : Int) : Prop := ∀ i : Nat, (i : Int) < n → r i % 256 = c i % 256
theorem TA_p {r c r1 c1 : Nat → Int} {n v : Int} (h0 : 0 ≤ n) (h : TA r c n) (hr : PN r r1 n v) (hc : PN c c1 n v) : TA r1 c1 (n + 4) := by
  obtain ⟨a1, a2, a3, a4, a5⟩ := hr
  obtain ⟨b1, b2, b3, b4, b5⟩ := hc
  intro i hi
  by_cases q : (i : Int) < n
  · rw [a1 i q, b1 i q]; exact h i q
  · rcases (show i = n.toNat ∨ i = (n + 1).toNat ∨ i = (n + 2).toNat ∨ i = (n + 3).toNat by omega) with e | e | e | e
    · rw [e, a2, b2]
    · rw [e, a3, b3]
    · rw [e, a4, b4]
    · rw [e, a5, b5]
theorem TA_fd {r c r1 c1 : Nat → Int} {n a b x d e : Int} (h0 : 0 ≤ n) (h : TA r c n) (hr : FD r r1 n a b x d e) (hc : FD c c1 n a b x d e) : TA r1 c1 (n + 20) := by
  obtain ⟨p1, p2, p3, p4, hp⟩ := hr
  obtain ⟨q1, q2, q3, q4, hq⟩ := hc
  have z1 := TA_p h0 h hp.1 hq.1
  have z2 := TA_p (by omega) z1 hp.2.1 hq.2.1
  rw [show n + 4 + 4 = n + 8 by omega] at z2
  have z3 := TA_p (by omega) z2 hp.2.2.1 hq.2.2.1
  rw [show n + 8 + 4 = n + 12 by omega] at z3
  have z4 := TA_p (by omega) z3 hp.2.2.2.1 hq.2.2.2.1
  rw [show n + 12 + 4 = n + 16 by omega] at z4
  have z5 := TA_p (by omega) z4 hp.2.2.2.2 hq.2.2.2.2
  rw [show n + 16 + 4 = n + 20 by omega] at z5
  exact z5
def m_bFeed : aM := ([(1, 1)], [2, 121])
def rq_bFeed (a : Int) (b : Int) (c : Int) (d0 : Int) (e0 : Int) (st : zS) : Prop := gInv zgt st ∧ zJ st
def en_bFeed (a : Int) (b : Int) (c : Int) (d0 : Int) (e0 : Int) (st : zS) (r : Int) (s1 : zS) : Prop := gInv zgt s1 ∧ aFr m_bFeed st s1 ∧ zJ s1 ∧ ((1580 < st 1 1 → r = -1 ∧ s1 1 1 = st 1 1) ∧ (st 1 1 ≤ 1580 → r = st 1 1 + 20 ∧ s1 1 1 = st 1 1 + 20)) ∧ ((st 1 1 ≤ 1580 → FD (st 2) (s1 2) (st 1 1) a b c d0 e0) ∧ (1580 < st 1 1 → ∀ i : Nat, s1 2 i = st 2 i))
def ct_bFeed (a : Int) (b : Int) (c : Int) (d0 : Int) (e0 : Int) (st : zS) (Q : zQ) : Prop := rq_bFeed a b c d0 e0 st ∧ (∀ (r : Int) (s1 : zS), en_bFeed a b c d0 e0 st r s1 → Q (some (.inl r)) s1)
theorem ct_bFeed_m {a b c d0 e0 : Int} {st : zS} {Q Q' : zQ} (hQ : ∀ r st', Q r st' → Q' r st') (h : ct_bFeed a b c d0 e0 st Q) : ct_bFeed a b c d0 e0 st Q' := ⟨h.1, fun x0 x1 x2 => hQ _ _ (h.2 x0 x1 x2)⟩
def k_bFeed : zCall := fun _ as st Q => match as with
  | [.inr (.inr (.inl z_o)), .inl a, .inl b, .inl c, .inl d0, .inl e0] => z_o = 0 ∧ ct_bFeed a b c d0 e0 st Q
  | _ => False
theorem k_bFeed_mon : zmon k_bFeed := by
  intro nu as st Q Q' hQ h
  unfold k_bFeed at h ⊢
  split at h
  · exact ⟨h.1, ct_bFeed_m hQ h.2⟩
  · exact h.elim
def m_dFeed : aM := ([(170, 1)], [171, 198])
def rq_dFeed (a : Int) (b : Int) (c : Int) (d0 : Int) (e0 : Int) (st : zS) : Prop := gInv zgt st ∧ zJ st
def en_dFeed (a : Int) (b : Int) (c : Int) (d0 : Int) (e0 : Int) (st : zS) (r : Int) (s1 : zS) : Prop := gInv zgt s1 ∧ aFr m_dFeed st s1 ∧ zJ s1 ∧ ((1580 < st 170 1 → r = -1 ∧ s1 170 1 = st 170 1) ∧ (st 170 1 ≤ 1580 → r = st 170 1 + 20 ∧ s1 170 1 = st 170 1 + 20)) ∧ ((st 170 1 ≤ 1580 → FD (st 171) (s1 171) (st 170 1) a b c d0 e0) ∧ (1580 < st 170 1 → ∀ i : Nat, s1 171 i = st 171 i))
def ct_dFeed (a : Int) (b : Int) (c : Int) (d0 : Int) (e0 : Int) (st : zS) (Q : zQ) : Prop := rq_dFeed a b c d0 e0 st ∧ (∀ (r : Int) (s1 : zS), en_dFeed a b c d0 e0 st r s1 → Q (some (.inl r)) s1)
theorem ct_dFeed_m {a b c d0 e0 : Int} {st : zS} {Q Q' : zQ} (hQ : ∀ r st', Q r st' → Q' r st') (h : ct_dFeed a b c d0 e0 st Q) : ct_dFeed a b c d0 e0 st Q' := ⟨h.1, fun x0 x1 x2 => hQ _ _ (h.2 x0 x1 x2)⟩
def k_dFeed : zCall := fun _ as st Q => match as with
  | [.inr (.inr (.inl z_o)), .inl a, .inl b, .inl c, .inl d0, .inl e0] => z_o = 170 ∧ ct_dFeed a b c d0 e0 st Q
  | _ => False
theorem k_dFeed_mon : zmon k_dFeed := by
  intro nu as st Q Q' hQ h
  unfold k_dFeed at h ⊢
  split at h
  · exact ⟨h.1, ct_dFeed_m hQ h.2⟩
  · exact h.elim
section R98c
variable {cl : Nat → zCall}
set_option maxHeartbeats 40000000 in
set_option maxRecDepth 100000 in
theorem c_bFeed (hTb : aTb zSh rx_tb cl) {D : Nat} (hD : 3 ≤ D) {a b c d0 e0 : Int} {st : zS} {Q : zQ} (h : ct_bFeed a b c d0 e0 st Q) : cl D 138 [.inr (.inr (.inl 0)), .inl a, .inl b, .inl c, .inl d0, .inl e0] st Q := by
  obtain ⟨d, rfl⟩ : ∃ d, D = d + 1 := ⟨D - 1, by omega⟩
  refine hTb d 138 (rx_m138, 6, 0, 0, 1) rfl _ _ _ (Nat.le_of_ble_eq_true rfl) (fun K hcl hsf hsl => ?_)
  have hcm : zmo (wcL [(163, k_cRefuse), (86, k_bPutNumber)]) (cl d) := (wcL_m (wm_cons (k_cRefuse_m hTb (by omega)) (wm_cons (k_bPutNumber_m hTb (by omega)) wm_nil)))
  obtain ⟨hR, hQ⟩ := h
  obtain ⟨hG, hJ⟩ := hR
  have g1 := g_tsize hG
  refine yr1_ok (Rt := Q) (wc := (wcL [(163, k_cRefuse), (86, k_bPutNumber)])) (stp := []) hcm hcl [] 55 ?_
  show ((-2147483648 ≤ (st 1 1) + 20 ∧ (st 1 1) + 20 ≤ 2147483647) ∧ (((st 1 1) + 20 ≤ (1600 : Int) → (1 = 1 ∧ (rq_bPutNumber a st ∧ (∀ (s2 : zS), en_bPutNumber a st s2 → (1 = 1 ∧ (rq_bPutNumber b s2 ∧ (∀ (s3 : zS), en_bPutNumber b s2 s3 → (1 = 1 ∧ (rq_bPutNumber c s3 ∧ (∀ (s4 : zS), en_bPutNumber c s3 s4 → (1 = 1 ∧ (rq_bPutNumber d0 s4 ∧ (∀ (s5 : zS), en_bPutNumber d0 s4 s5 → (1 = 1 ∧ (rq_bPutNumber e0 s5 ∧ (∀ (s6 : zS), en_bPutNumber e0 s5 s6 → Q (some (.inl (s6 1 1))) s6)))))))))))))))) ∧ (¬ ((st 1 1) + 20 ≤ (1600 : Int)) → (0 = 0 ∧ (rq_cRefuse (0) st ∧ (∀ (r7 : Int) (s7 : zS), en_cRefuse (0) st r7 s7 → Q (some (.inl r7)) s7))))))
  refine ⟨by omega, ?_⟩
  refine ⟨fun h8 => ?_, fun h8 => ?_⟩
  · refine ⟨rfl, ⟨hG, (show st 1 1 ≤ 1596 from by omega)⟩, fun s2 q2 => ?_⟩
    obtain ⟨gs2, fs2, t2, y2⟩ := q2
    change s2 1 1 = st 1 1 + 4 at t2
    have g9 := g_tsize gs2
    change PN (st 2) (s2 2) (st 1 1) a at y2
    refine ⟨rfl, ⟨gs2, (show s2 1 1 ≤ 1596 from by omega)⟩, fun s3 q3 => ?_⟩
    obtain ⟨gs3, fs3, t3, y3⟩ := q3
    change s3 1 1 = s2 1 1 + 4 at t3
    have g10 := g_tsize gs3
    change PN (s2 2) (s3 2) (s2 1 1) b at y3
    refine ⟨rfl, ⟨gs3, (show s3 1 1 ≤ 1596 from by omega)⟩, fun s4 q4 => ?_⟩
    obtain ⟨gs4, fs4, t4, y4⟩ := q4
    change s4 1 1 = s3 1 1 + 4 at t4
    have g11 := g_tsize gs4
    change PN (s3 2) (s4 2) (s3 1 1) c at y4
    refine ⟨rfl, ⟨gs4, (show s4 1 1 ≤ 1596 from by omega)⟩, fun s5 q5 => ?_⟩
    obtain ⟨gs5, fs5, t5, y5⟩ := q5
    change s5 1 1 = s4 1 1 + 4 at t5
    have g12 := g_tsize gs5
    change PN (s4 2) (s5 2) (s4 1 1) d0 at y5
    refine ⟨rfl, ⟨gs5, (show s5 1 1 ≤ 1596 from by omega)⟩, fun s6 q6 => ?_⟩
    obtain ⟨gs6, fs6, t6, y6⟩ := q6
    change s6 1 1 = s5 1 1 + 4 at t6
    have g13 := g_tsize gs6
    change PN (s5 2) (s6 2) (s5 1 1) e0 at y6
    exact hQ _ _ ⟨gs6, (fr_tr (fr_tr (fr_tr (fr_tr (fr_tr (fr_rf _ _) fs2 rfl) fs3 rfl) fs4 rfl) fs5 rfl) fs6 rfl), (zJ_fr rfl fs6 (zJ_fr rfl fs5 (zJ_fr rfl fs4 (zJ_fr rfl fs3 (zJ_fr rfl fs2 hJ))))), (show (1580 < st 1 1 → (s6 1 1) = -1 ∧ s6 1 1 = st 1 1) ∧ (st 1 1 ≤ 1580 → (s6 1 1) = st 1 1 + 20 ∧ s6 1 1 = st 1 1 + 20) from by omega), (show (st 1 1 ≤ 1580 → FD (st 2) (s6 2) (st 1 1) a b c d0 e0) ∧ (1580 < st 1 1 → ∀ i : Nat, s6 2 i = st 2 i) from ⟨fun _ => by
        have a1 := y2
        have a2 := y3
        rw [show s2 1 1 = st 1 1 + 4 by omega] at a2
        have a3 := y4
        rw [show s3 1 1 = st 1 1 + 8 by omega] at a3
        have a4 := y5
        rw [show s4 1 1 = st 1 1 + 12 by omega] at a4
        have a5 := y6
        rw [show s5 1 1 = st 1 1 + 16 by omega] at a5
        exact ⟨s2 2, s3 2, s4 2, s5 2, a1, a2, a3, a4, a5⟩, fun z => by omega⟩)⟩
  · refine ⟨rfl, ⟨hG, (show 0 ≤ (0) ∧ (0) ≤ 5 from by omega)⟩, fun r7 s7 q7 => ?_⟩
    obtain ⟨gs7, fs7, e7⟩ := q7
    change r7 = -1 at e7
    have e14 : s7 1 1 = st 1 1 := fs7 1 1 rfl rfl
    exact hQ _ _ ⟨gs7, (fr_tr (fr_rf _ _) fs7 rfl), (zJ_fr rfl fs7 hJ), (show (1580 < st 1 1 → r7 = -1 ∧ s7 1 1 = st 1 1) ∧ (st 1 1 ≤ 1580 → r7 = st 1 1 + 20 ∧ s7 1 1 = st 1 1 + 20) from by omega), (show (st 1 1 ≤ 1580 → FD (st 2) (s7 2) (st 1 1) a b c d0 e0) ∧ (1580 < st 1 1 → ∀ i : Nat, s7 2 i = st 2 i) from ⟨fun z => by omega, fun _ i => fs7 2 i rfl rfl⟩)⟩
theorem k_bFeed_m (hTb : aTb zSh rx_tb cl) {D : Nat} (hD : 3 ≤ D) : ∀ as st (Q Q' : zQ), (∀ r st', Q r st' → Q' r st') → k_bFeed 138 as st Q → cl D 138 as st Q' := by
  intro as st Q Q' hQ h
  unfold k_bFeed at h
  split at h
  · obtain ⟨rfl, h⟩ := h
    exact c_bFeed hTb hD (ct_bFeed_m hQ h)
  · exact h.elim
set_option maxHeartbeats 40000000 in
set_option maxRecDepth 100000 in
theorem c_dFeed (hTb : aTb zSh rx_tb cl) {D : Nat} (hD : 2 ≤ D) {a b c d0 e0 : Int} {st : zS} {Q : zQ} (h : ct_dFeed a b c d0 e0 st Q) : cl D 139 [.inr (.inr (.inl 170)), .inl a, .inl b, .inl c, .inl d0, .inl e0] st Q := by
  obtain ⟨d, rfl⟩ : ∃ d, D = d + 1 := ⟨D - 1, by omega⟩
  refine hTb d 139 (rx_m139, 6, 0, 0, 1) rfl _ _ _ (Nat.le_of_ble_eq_true rfl) (fun K hcl hsf hsl => ?_)
  have hcm : zmo (wcL [(58, k_refuses), (87, k_dPut)]) (cl d) := (wcL_m (wm_cons (k_refuses_m hTb (by omega)) (wm_cons (k_dPut_m hTb (by omega)) wm_nil)))
  obtain ⟨hR, hQ⟩ := h
  obtain ⟨hG, hJ⟩ := hR
  have g1 := g_taped hG
  refine yr1_ok (Rt := Q) (wc := (wcL [(58, k_refuses), (87, k_dPut)])) (stp := []) hcm hcl [] 48 ?_
  show ((-2147483648 ≤ (st 170 1) + 20 ∧ (st 170 1) + 20 ≤ 2147483647) ∧ (((st 170 1) + 20 ≤ (1600 : Int) → (170 = 170 ∧ (rq_dPut a st ∧ (∀ (s2 : zS), en_dPut a st s2 → (170 = 170 ∧ (rq_dPut b s2 ∧ (∀ (s3 : zS), en_dPut b s2 s3 → (170 = 170 ∧ (rq_dPut c s3 ∧ (∀ (s4 : zS), en_dPut c s3 s4 → (170 = 170 ∧ (rq_dPut d0 s4 ∧ (∀ (s5 : zS), en_dPut d0 s4 s5 → (170 = 170 ∧ (rq_dPut e0 s5 ∧ (∀ (s6 : zS), en_dPut e0 s5 s6 → Q (some (.inl (s6 170 1))) s6)))))))))))))))) ∧ (¬ ((st 170 1) + 20 ≤ (1600 : Int)) → (170 = 170 ∧ (rq_refuses (0) st ∧ (∀ (r7 : Int) (s7 : zS), en_refuses (0) st r7 s7 → Q (some (.inl r7)) s7))))))
  refine ⟨by omega, ?_⟩
  refine ⟨fun h8 => ?_, fun h8 => ?_⟩
  · refine ⟨rfl, ⟨hG, (show st 170 1 ≤ 1596 from by omega)⟩, fun s2 q2 => ?_⟩
    obtain ⟨gs2, fs2, t2, y2⟩ := q2
    change s2 170 1 = st 170 1 + 4 at t2
    have g9 := g_taped gs2
    change PN (st 171) (s2 171) (st 170 1) a at y2
    refine ⟨rfl, ⟨gs2, (show s2 170 1 ≤ 1596 from by omega)⟩, fun s3 q3 => ?_⟩
    obtain ⟨gs3, fs3, t3, y3⟩ := q3
    change s3 170 1 = s2 170 1 + 4 at t3
    have g10 := g_taped gs3
    change PN (s2 171) (s3 171) (s2 170 1) b at y3
    refine ⟨rfl, ⟨gs3, (show s3 170 1 ≤ 1596 from by omega)⟩, fun s4 q4 => ?_⟩
    obtain ⟨gs4, fs4, t4, y4⟩ := q4
    change s4 170 1 = s3 170 1 + 4 at t4
    have g11 := g_taped gs4
    change PN (s3 171) (s4 171) (s3 170 1) c at y4
    refine ⟨rfl, ⟨gs4, (show s4 170 1 ≤ 1596 from by omega)⟩, fun s5 q5 => ?_⟩
    obtain ⟨gs5, fs5, t5, y5⟩ := q5
    change s5 170 1 = s4 170 1 + 4 at t5
    have g12 := g_taped gs5
    change PN (s4 171) (s5 171) (s4 170 1) d0 at y5
    refine ⟨rfl, ⟨gs5, (show s5 170 1 ≤ 1596 from by omega)⟩, fun s6 q6 => ?_⟩
    obtain ⟨gs6, fs6, t6, y6⟩ := q6
    change s6 170 1 = s5 170 1 + 4 at t6
    have g13 := g_taped gs6
    change PN (s5 171) (s6 171) (s5 170 1) e0 at y6
    exact hQ _ _ ⟨gs6, (fr_tr (fr_tr (fr_tr (fr_tr (fr_tr (fr_rf _ _) fs2 rfl) fs3 rfl) fs4 rfl) fs5 rfl) fs6 rfl), (zJ_fr rfl fs6 (zJ_fr rfl fs5 (zJ_fr rfl fs4 (zJ_fr rfl fs3 (zJ_fr rfl fs2 hJ))))), (show (1580 < st 170 1 → (s6 170 1) = -1 ∧ s6 170 1 = st 170 1) ∧ (st 170 1 ≤ 1580 → (s6 170 1) = st 170 1 + 20 ∧ s6 170 1 = st 170 1 + 20) from by omega), (show (st 170 1 ≤ 1580 → FD (st 171) (s6 171) (st 170 1) a b c d0 e0) ∧ (1580 < st 170 1 → ∀ i : Nat, s6 171 i = st 171 i) from ⟨fun _ => by
        have a1 := y2
        have a2 := y3
        rw [show s2 170 1 = st 170 1 + 4 by omega] at a2
        have a3 := y4
        rw [show s3 170 1 = st 170 1 + 8 by omega] at a3
        have a4 := y5
        rw [show s4 170 1 = st 170 1 + 12 by omega] at a4
        have a5 := y6
        rw [show s5 170 1 = st 170 1 + 16 by omega] at a5
        exact ⟨s2 171, s3 171, s4 171, s5 171, a1, a2, a3, a4, a5⟩, fun z => by omega⟩)⟩
  · refine ⟨rfl, ⟨hG, (show 0 ≤ (0) ∧ (0) ≤ 5 from by omega)⟩, fun r7 s7 q7 => ?_⟩
    obtain ⟨gs7, fs7, e7⟩ := q7
    change r7 = -1 at e7
    have e14 : s7 170 1 = st 170 1 := fs7 170 1 rfl rfl
    exact hQ _ _ ⟨gs7, (fr_tr (fr_rf _ _) fs7 rfl), (zJ_fr rfl fs7 hJ), (show (1580 < st 170 1 → r7 = -1 ∧ s7 170 1 = st 170 1) ∧ (st 170 1 ≤ 1580 → r7 = st 170 1 + 20 ∧ s7 170 1 = st 170 1 + 20) from by omega), (show (st 170 1 ≤ 1580 → FD (st 171) (s7 171) (st 170 1) a b c d0 e0) ∧ (1580 < st 170 1 → ∀ i : Nat, s7 171 i = st 171 i) from ⟨fun z => by omega, fun _ i => fs7 171 i rfl rfl⟩)⟩
theorem k_dFeed_m (hTb : aTb zSh rx_tb cl) {D : Nat} (hD : 2 ≤ D) : ∀ as st (Q Q' : zQ), (∀ r st', Q r st' → Q' r st') → k_dFeed 139 as st Q → cl D 139 as st Q' := by
  intro as st Q Q' hQ h
  unfold k_dFeed at h
  split at h
  · obtain ⟨rfl, h⟩ := h
    exact c_dFeed hTb hD (ct_dFeed_m hQ h)
  · exact h.elim
end R98c
