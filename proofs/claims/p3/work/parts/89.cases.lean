/-! printed by wip/p32/libu.py p3: the law's cases -/
def zT (st : zS) : Prop := zI st ∧ st 1 1 = st 170 1
theorem z0_T : zT z0 := ⟨z0_I, by decide +kernel⟩
def kT (s : aS) : zCall := fun _ as st Q => aTs s.1 as ∧ zT st ∧ ∀ (r : Int) (s1 : zS), zT s1 → Q (some (.inl r)) s1
theorem kT_m {cl : Nat → zCall} {D nu : Nat} {s : aS} (hS : aSp zgt cl D nu s) (hn : s.2.2.2.2.1 = 0) (hd : s.2.2.2.1 ≤ D) (hj : jfree s.2.1 = true) {b : aB} (hr : s.2.2.1 = some (.inl b)) (k1 : amf s.2.1 1 1 = false) (k2 : ama s.2.1 1 = false) (k3 : amf s.2.1 170 1 = false) (k4 : ama s.2.1 170 = false) : ∀ as st (Q Q' : zQ), (∀ r st', Q r st' → Q' r st') → kT s nu as st Q → cl D nu as st Q' := by
  intro as st Q Q' hQ h
  obtain ⟨h1, h2, h3⟩ := h
  refine hS as st h1 h2.1.1 ⟨fun _ => by omega, fun q => absurd hn q⟩ Q' (fun rz st' g f r => ?_)
  rw [hr] at r
  rcases rz with _ | (z | (z | z))
  · exact absurd r id
  · exact hQ _ _ (h3 z st' ⟨⟨g, zJ_fr hj f h2.1.2⟩, (f 1 1 k1 k2).trans (h2.2.trans (f 170 1 k3 k4).symm)⟩)
  · exact absurd r id
  · exact absurd r id
def kTz : zCall := fun _ as st Q => match as with
  | [.inr (.inr (.inl o))] => o = 0 ∧ zI st ∧ ∀ (r : Int) (s1 : zS), (zI s1 ∧ s1 1 1 = 0 ∧ s1 170 1 = st 170 1) → Q (some (.inl r)) s1
  | _ => False
theorem kTz_town {cl : Nat → zCall} {D : Nat} (hTb : aTb zSh rx_tb cl) (hd : 131 ≤ D) : ∀ as st (Q Q' : zQ), (∀ r st', Q r st' → Q' r st') → kTz 140 as st Q → cl D 140 as st Q' := by
  intro as st Q Q' hQ h
  unfold kTz at h
  split at h
  · obtain ⟨rfl, h2, h3⟩ := h
    exact s_town2 hTb hd h2 (fun r s1 a b c => hQ _ _ (h3 r s1 ⟨a, b, c⟩))
  · exact h.elim
theorem kTz_half {cl : Nat → zCall} {D : Nat} (hTb : aTb zSh rx_tb cl) (hd : 4 ≤ D) : ∀ as st (Q Q' : zQ), (∀ r st', Q r st' → Q' r st') → kTz 161 as st Q → cl D 161 as st Q' := by
  intro as st Q Q' hQ h
  unfold kTz at h
  split at h
  · obtain ⟨rfl, h2, h3⟩ := h
    refine s_half2 hTb D [.inr (.inr (.inl 0))] st ⟨rfl, True.intro⟩ h2.1 ⟨fun _ => by show (4 : Int) ≤ (D : Int); omega, fun q => absurd rfl q⟩ Q' (fun rz st' g f r z => ?_)
    rcases rz with _ | (x | (x | x))
    · exact absurd r id
    · exact hQ _ _ (h3 x st' ⟨⟨g, zJ_fr rfl f h2.2⟩, z, f 170 1 rfl rfl⟩)
    · exact absurd r id
    · exact absurd r id
  · exact h.elim
theorem kTz_on {cl : Nat → zCall} {D : Nat} (hTb : aTb zSh rx_tb cl) (hd : 8 ≤ D) : ∀ as st (Q Q' : zQ), (∀ r st', Q r st' → Q' r st') → kTz 174 as st Q → cl D 174 as st Q' := by
  intro as st Q Q' hQ h
  unfold kTz at h
  split at h
  · obtain ⟨rfl, h2, h3⟩ := h
    refine s_on2 hTb (z_all hTb) D [.inr (.inr (.inl 0))] st ⟨rfl, True.intro⟩ h2.1 ⟨fun _ => by show (8 : Int) ≤ (D : Int); omega, fun q => absurd rfl q⟩ Q' (fun rz st' g f r z => ?_)
    rcases rz with _ | (x | (x | x))
    · exact absurd r id
    · exact hQ _ _ (h3 x st' ⟨⟨g, zJ_fr rfl f h2.2⟩, z, f 170 1 rfl rfl⟩)
    · exact absurd r id
    · exact absurd r id
  · exact h.elim
section LCS
variable {cl : Nat → zCall} {N : Nat} {xs : Nat → Int32} {K : zG}
set_option maxRecDepth 100000 in
set_option maxHeartbeats 4000000 in
theorem lcase0 (hTb : aTb zSh rx_tb cl) (hcl : lcl N xs (cl 200) K) {i : Int} (h0 : 0 ≤ i) (h1 : i + 6 ≤ (N : Int)) (hN : N ≤ 3072) {st : zS} (hI : zT st) (ih : ∀ s1, zT s1 → K (rx_find rx_mL 18) [(3, .inl (i + 6)), (2, .inr (.inr (.inl 170))), (1, .inr (.inr (.inl 0))), (0, .inr (.inr (.inr 0)))] [] s1) : K (rx_find rx_mL 192) [(3, .inl i), (2, .inr (.inr (.inl 170))), (1, .inr (.inr (.inl 0))), (0, .inr (.inr (.inr 0)))] [] st := by
  have hcm : zmo (wcL [(138, k_cFeed), (139, k_feed)]) (cl 200) := wcL_m (wm_cons (k_cFeed_m hTb (by omega)) (wm_cons (k_feed_m hTb (by omega)) wm_nil))
  refine lr1_ok (wc := (wcL [(138, k_cFeed), (139, k_feed)])) (stp := [18]) hcm hcl 80 ?_
  show ((-2147483648 ≤ i + (1 : Int) ∧ i + (1 : Int) ≤ 2147483647) ∧ (0 = 0 ∧ ((0 ≤ i + (1 : Int) ∧ i + (1 : Int) < (N : Int)) ∧ ((-2147483648 ≤ i + (2 : Int) ∧ i + (2 : Int) ≤ 2147483647) ∧ (0 = 0 ∧ ((0 ≤ i + (2 : Int) ∧ i + (2 : Int) < (N : Int)) ∧ ((-2147483648 ≤ i + (3 : Int) ∧ i + (3 : Int) ≤ 2147483647) ∧ (0 = 0 ∧ ((0 ≤ i + (3 : Int) ∧ i + (3 : Int) < (N : Int)) ∧ ((-2147483648 ≤ i + (4 : Int) ∧ i + (4 : Int) ≤ 2147483647) ∧ (0 = 0 ∧ ((0 ≤ i + (4 : Int) ∧ i + (4 : Int) < (N : Int)) ∧ ((-2147483648 ≤ i + (5 : Int) ∧ i + (5 : Int) ≤ 2147483647) ∧ (0 = 0 ∧ ((0 ≤ i + (5 : Int) ∧ i + (5 : Int) < (N : Int)) ∧ (0 = 0 ∧ (rq_cFeed ((xs (i + (1 : Int) : Int).toNat).toInt) ((xs (i + (2 : Int) : Int).toNat).toInt) ((xs (i + (3 : Int) : Int).toNat).toInt) ((xs (i + (4 : Int) : Int).toNat).toInt) ((xs (i + (5 : Int) : Int).toNat).toInt) st ∧ (∀ (r1 : Int) (s1 : zS), en_cFeed ((xs (i + (1 : Int) : Int).toNat).toInt) ((xs (i + (2 : Int) : Int).toNat).toInt) ((xs (i + (3 : Int) : Int).toNat).toInt) ((xs (i + (4 : Int) : Int).toNat).toInt) ((xs (i + (5 : Int) : Int).toNat).toInt) st r1 s1 → ((-2147483648 ≤ i + (1 : Int) ∧ i + (1 : Int) ≤ 2147483647) ∧ (0 = 0 ∧ ((0 ≤ i + (1 : Int) ∧ i + (1 : Int) < (N : Int)) ∧ ((-2147483648 ≤ i + (2 : Int) ∧ i + (2 : Int) ≤ 2147483647) ∧ (0 = 0 ∧ ((0 ≤ i + (2 : Int) ∧ i + (2 : Int) < (N : Int)) ∧ ((-2147483648 ≤ i + (3 : Int) ∧ i + (3 : Int) ≤ 2147483647) ∧ (0 = 0 ∧ ((0 ≤ i + (3 : Int) ∧ i + (3 : Int) < (N : Int)) ∧ ((-2147483648 ≤ i + (4 : Int) ∧ i + (4 : Int) ≤ 2147483647) ∧ (0 = 0 ∧ ((0 ≤ i + (4 : Int) ∧ i + (4 : Int) < (N : Int)) ∧ ((-2147483648 ≤ i + (5 : Int) ∧ i + (5 : Int) ≤ 2147483647) ∧ (0 = 0 ∧ ((0 ≤ i + (5 : Int) ∧ i + (5 : Int) < (N : Int)) ∧ (170 = 170 ∧ (rq_feed ((xs (i + (1 : Int) : Int).toNat).toInt) ((xs (i + (2 : Int) : Int).toNat).toInt) ((xs (i + (3 : Int) : Int).toNat).toInt) ((xs (i + (4 : Int) : Int).toNat).toInt) ((xs (i + (5 : Int) : Int).toNat).toInt) s1 ∧ (∀ (r2 : Int) (s2 : zS), en_feed ((xs (i + (1 : Int) : Int).toNat).toInt) ((xs (i + (2 : Int) : Int).toNat).toInt) ((xs (i + (3 : Int) : Int).toNat).toInt) ((xs (i + (4 : Int) : Int).toNat).toInt) ((xs (i + (5 : Int) : Int).toNat).toInt) s1 r2 s2 → ((-2147483648 ≤ i + 6 ∧ i + 6 ≤ 2147483647) ∧ K (rx_find rx_mL 18) [(3, .inl (i + 6)), (2, .inr (.inr (.inl 170))), (1, .inr (.inr (.inl 0))), (0, .inr (.inr (.inr 0)))] [] s2)))))))))))))))))))))))))))))))))))))
  refine ⟨⟨by omega, by omega⟩, ?_⟩
  refine ⟨rfl, ⟨by omega, by omega⟩, ?_⟩
  refine ⟨⟨by omega, by omega⟩, ?_⟩
  refine ⟨rfl, ⟨by omega, by omega⟩, ?_⟩
  refine ⟨⟨by omega, by omega⟩, ?_⟩
  refine ⟨rfl, ⟨by omega, by omega⟩, ?_⟩
  refine ⟨⟨by omega, by omega⟩, ?_⟩
  refine ⟨rfl, ⟨by omega, by omega⟩, ?_⟩
  refine ⟨⟨by omega, by omega⟩, ?_⟩
  refine ⟨rfl, ⟨by omega, by omega⟩, ?_⟩
  refine ⟨rfl, hI.1, fun r1 s1 q1 => ?_⟩
  refine ⟨⟨by omega, by omega⟩, ?_⟩
  refine ⟨rfl, ⟨by omega, by omega⟩, ?_⟩
  refine ⟨⟨by omega, by omega⟩, ?_⟩
  refine ⟨rfl, ⟨by omega, by omega⟩, ?_⟩
  refine ⟨⟨by omega, by omega⟩, ?_⟩
  refine ⟨rfl, ⟨by omega, by omega⟩, ?_⟩
  refine ⟨⟨by omega, by omega⟩, ?_⟩
  refine ⟨rfl, ⟨by omega, by omega⟩, ?_⟩
  refine ⟨⟨by omega, by omega⟩, ?_⟩
  refine ⟨rfl, ⟨by omega, by omega⟩, ?_⟩
  refine ⟨rfl, ⟨q1.1, q1.2.1⟩, fun r2 s2 q2 => ?_⟩
  have z1 : (1580 < st 1 1 → r1 = -1 ∧ s1 1 1 = st 1 1) ∧ (st 1 1 ≤ 1580 → r1 = st 1 1 + 20 ∧ s1 1 1 = st 1 1 + 20) := q1.2.2.2
  have z2 : s1 170 1 = st 170 1 := q1.2.2.1
  have z3 : (1580 < s1 170 1 → r2 = -1 ∧ s2 170 1 = s1 170 1) ∧ (s1 170 1 ≤ 1580 → r2 = s1 170 1 + 20 ∧ s2 170 1 = s1 170 1 + 20) := q2.2.2.2
  have z4 : s2 1 1 = s1 1 1 := q2.2.2.1
  have z5 : st 1 1 = st 170 1 := hI.2
  refine ⟨⟨by omega, by omega⟩, ?_⟩
  exact ih s2 ⟨⟨q2.1, q2.2.1⟩, by omega⟩
set_option maxRecDepth 100000 in
set_option maxHeartbeats 4000000 in
theorem lcase1 (hTb : aTb zSh rx_tb cl) (hcl : lcl N xs (cl 200) K) {i : Int} (h0 : 0 ≤ i) (h1 : i + 6 ≤ (N : Int)) (hN : N ≤ 3072) {st : zS} (hI : zT st) (ih : ∀ s1, zT s1 → K (rx_find rx_mL 18) [(3, .inl (i + 6)), (2, .inr (.inr (.inl 170))), (1, .inr (.inr (.inl 0))), (0, .inr (.inr (.inr 0)))] [] s1) : K (rx_find rx_mL 255) [(3, .inl i), (2, .inr (.inr (.inl 170))), (1, .inr (.inr (.inl 0))), (0, .inr (.inr (.inr 0)))] [] st := by
  have hcm : zmo (wcL [(88, k_cEnd), (105, k_end)]) (cl 200) := wcL_m (wm_cons (k_cEnd_m hTb (by omega)) (wm_cons (k_end_m hTb (by omega)) wm_nil))
  refine lr1_ok (wc := (wcL [(88, k_cEnd), (105, k_end)])) (stp := [18]) hcm hcl 80 ?_
  show ((-2147483648 ≤ i + (1 : Int) ∧ i + (1 : Int) ≤ 2147483647) ∧ (0 = 0 ∧ ((0 ≤ i + (1 : Int) ∧ i + (1 : Int) < (N : Int)) ∧ (0 = 0 ∧ (rq_cEnd ((xs (i + (1 : Int) : Int).toNat).toInt) st ∧ (∀ (r1 : Int) (s1 : zS), en_cEnd ((xs (i + (1 : Int) : Int).toNat).toInt) st r1 s1 → ((-2147483648 ≤ i + (1 : Int) ∧ i + (1 : Int) ≤ 2147483647) ∧ (0 = 0 ∧ ((0 ≤ i + (1 : Int) ∧ i + (1 : Int) < (N : Int)) ∧ (170 = 170 ∧ (rq_end ((xs (i + (1 : Int) : Int).toNat).toInt) s1 ∧ (∀ (r2 : Int) (s2 : zS), en_end ((xs (i + (1 : Int) : Int).toNat).toInt) s1 r2 s2 → ((r1 = r2 → ((-2147483648 ≤ i + 6 ∧ i + 6 ≤ 2147483647) ∧ K (rx_find rx_mL 18) [(3, .inl (i + 6)), (2, .inr (.inr (.inl 170))), (1, .inr (.inr (.inl 0))), (0, .inr (.inr (.inr 0)))] [] s2)) ∧ (¬ (r1 = r2) → ((0 : Int) = 1)))))))))))))))
  refine ⟨⟨by omega, by omega⟩, ?_⟩
  refine ⟨rfl, ⟨by omega, by omega⟩, ?_⟩
  refine ⟨rfl, hI.1, fun r1 s1 q1 => ?_⟩
  refine ⟨⟨by omega, by omega⟩, ?_⟩
  refine ⟨rfl, ⟨by omega, by omega⟩, ?_⟩
  refine ⟨rfl, ⟨q1.1, q1.2.1⟩, fun r2 s2 q2 => ?_⟩
  have z1 : ((xs (i + (1 : Int) : Int).toNat).toInt < 0 ∨ st 1 1 < (xs (i + (1 : Int) : Int).toNat).toInt → r1 = 0 ∧ s1 1 1 = st 1 1) ∧ (0 ≤ (xs (i + (1 : Int) : Int).toNat).toInt ∧ (xs (i + (1 : Int) : Int).toNat).toInt ≤ st 1 1 → r1 = 1 ∧ s1 1 1 = (xs (i + (1 : Int) : Int).toNat).toInt) := q1.2.2.2
  have z2 : s1 170 1 = st 170 1 := q1.2.2.1
  have z3 : ((xs (i + (1 : Int) : Int).toNat).toInt < 0 ∨ s1 170 1 < (xs (i + (1 : Int) : Int).toNat).toInt → r2 = 0 ∧ s2 170 1 = s1 170 1) ∧ (0 ≤ (xs (i + (1 : Int) : Int).toNat).toInt ∧ (xs (i + (1 : Int) : Int).toNat).toInt ≤ s1 170 1 → r2 = 1 ∧ s2 170 1 = (xs (i + (1 : Int) : Int).toNat).toInt) := q2.2.2.2
  have z4 : s2 1 1 = s1 1 1 := q2.2.2.1
  have z5 : st 1 1 = st 170 1 := hI.2
  refine ⟨fun hb => ?_, fun hb => ?_⟩
  · refine ⟨⟨by omega, by omega⟩, ?_⟩
    exact ih s2 ⟨⟨q2.1, q2.2.1⟩, by omega⟩
  · exfalso
    omega
set_option maxRecDepth 100000 in
set_option maxHeartbeats 4000000 in
theorem lcase2 (hTb : aTb zSh rx_tb cl) (hcl : lcl N xs (cl 200) K) {i : Int} (h0 : 0 ≤ i) (h1 : i + 6 ≤ (N : Int)) (hN : N ≤ 3072) {st : zS} (hI : zT st) (ih : ∀ s1, zT s1 → K (rx_find rx_mL 18) [(3, .inl (i + 6)), (2, .inr (.inr (.inl 170))), (1, .inr (.inr (.inl 0))), (0, .inr (.inr (.inr 0)))] [] s1) : K (rx_find rx_mL 278) [(3, .inl i), (2, .inr (.inr (.inl 170))), (1, .inr (.inr (.inl 0))), (0, .inr (.inr (.inr 0)))] [] st := by
  have hcm : zmo (wcL [(140, kTz), (148, k_town)]) (cl 200) := wcL_m (wm_cons (kTz_town hTb (by omega)) (wm_cons (k_town_m hTb (by omega)) wm_nil))
  refine lr1_ok (wc := (wcL [(140, kTz), (148, k_town)])) (stp := [18]) hcm hcl 80 ?_
  show (0 = 0 ∧ (zI st ∧ (∀ (r1 : Int) (s1 : zS), (zI s1 ∧ s1 1 1 = 0 ∧ s1 170 1 = st 170 1) → (170 = 170 ∧ (rq_town  s1 ∧ (∀ (r2 : Int) (s2 : zS), en_town  s1 r2 s2 → ((-2147483648 ≤ i + 6 ∧ i + 6 ≤ 2147483647) ∧ K (rx_find rx_mL 18) [(3, .inl (i + 6)), (2, .inr (.inr (.inl 170))), (1, .inr (.inr (.inl 0))), (0, .inr (.inr (.inr 0)))] [] s2)))))))
  refine ⟨rfl, hI.1, fun r1 s1 q1 => ?_⟩
  refine ⟨rfl, q1.1, fun r2 s2 q2 => ?_⟩
  refine ⟨⟨by omega, by omega⟩, ?_⟩
  exact ih s2 ⟨⟨q2.1, q2.2.1⟩, q2.2.2.1.trans (q1.2.1.trans q2.2.2.2.symm)⟩
set_option maxRecDepth 100000 in
set_option maxHeartbeats 4000000 in
theorem lcase3 (hTb : aTb zSh rx_tb cl) (hcl : lcl N xs (cl 200) K) {i : Int} (h0 : 0 ≤ i) (h1 : i + 6 ≤ (N : Int)) (hN : N ≤ 3072) {st : zS} (hI : zT st) (ih : ∀ s1, zT s1 → K (rx_find rx_mL 18) [(3, .inl (i + 6)), (2, .inr (.inr (.inl 170))), (1, .inr (.inr (.inl 0))), (0, .inr (.inr (.inr 0)))] [] s1) : K (rx_find rx_mL 291) [(3, .inl i), (2, .inr (.inr (.inl 170))), (1, .inr (.inr (.inl 0))), (0, .inr (.inr (.inr 0)))] [] st := by
  have hcm : zmo (wcL [(71, (kT zu_3)), (92, k_fault)]) (cl 200) := wcL_m (wm_cons (kT_m (z_all hTb 200 71 (none, [zu_3]) zu_3 rfl List.mem_cons_self) rfl (by decide) (by decide +kernel) rfl rfl rfl rfl rfl) (wm_cons (k_fault_m hTb (by omega)) wm_nil))
  refine lr1_ok (wc := (wcL [(71, (kT zu_3)), (92, k_fault)])) (stp := [18]) hcm hcl 80 ?_
  show ((-2147483648 ≤ i + (1 : Int) ∧ i + (1 : Int) ≤ 2147483647) ∧ (0 = 0 ∧ ((0 ≤ i + (1 : Int) ∧ i + (1 : Int) < (N : Int)) ∧ (aTs zu_3.1 [.inr (.inr (.inl 0)), .inl ((xs (i + (1 : Int) : Int).toNat).toInt)] ∧ (zT st ∧ (∀ (r1 : Int) (s1 : zS), zT s1 → ((-2147483648 ≤ i + (1 : Int) ∧ i + (1 : Int) ≤ 2147483647) ∧ (0 = 0 ∧ ((0 ≤ i + (1 : Int) ∧ i + (1 : Int) < (N : Int)) ∧ (170 = 170 ∧ (rq_fault ((xs (i + (1 : Int) : Int).toNat).toInt) s1 ∧ (∀ (r2 : Int) (s2 : zS), en_fault ((xs (i + (1 : Int) : Int).toNat).toInt) s1 r2 s2 → ((-2147483648 ≤ i + 6 ∧ i + 6 ≤ 2147483647) ∧ K (rx_find rx_mL 18) [(3, .inl (i + 6)), (2, .inr (.inr (.inl 170))), (1, .inr (.inr (.inl 0))), (0, .inr (.inr (.inr 0)))] [] s2)))))))))))))
  refine ⟨⟨by omega, by omega⟩, ?_⟩
  refine ⟨rfl, ⟨by omega, by omega⟩, ?_⟩
  refine ⟨⟨rfl, zsI_toInt _, True.intro⟩, hI, fun r1 s1 q1 => ?_⟩
  refine ⟨⟨by omega, by omega⟩, ?_⟩
  refine ⟨rfl, ⟨by omega, by omega⟩, ?_⟩
  refine ⟨rfl, q1.1, fun r2 s2 q2 => ?_⟩
  refine ⟨⟨by omega, by omega⟩, ?_⟩
  exact ih s2 ⟨⟨q2.1, q2.2.1⟩, q2.2.2.2.trans (q1.2.trans q2.2.2.1.symm)⟩
set_option maxRecDepth 100000 in
set_option maxHeartbeats 4000000 in
theorem lcase4 (hTb : aTb zSh rx_tb cl) (hcl : lcl N xs (cl 200) K) {i : Int} (h0 : 0 ≤ i) (h1 : i + 6 ≤ (N : Int)) (hN : N ≤ 3072) {st : zS} (hI : zT st) (ih : ∀ s1, zT s1 → K (rx_find rx_mL 18) [(3, .inl (i + 6)), (2, .inr (.inr (.inl 170))), (1, .inr (.inr (.inl 0))), (0, .inr (.inr (.inr 0)))] [] s1) : K (rx_find rx_mL 314) [(3, .inl i), (2, .inr (.inr (.inl 170))), (1, .inr (.inr (.inl 0))), (0, .inr (.inr (.inr 0)))] [] st := by
  have hcm : zmo (wcL [(49, (kT zu_4)), (62, k_has)]) (cl 200) := wcL_m (wm_cons (kT_m (z_all hTb 200 49 (none, [zu_4]) zu_4 rfl List.mem_cons_self) rfl (by decide) (by decide +kernel) rfl rfl rfl rfl rfl) (wm_cons (k_has_m hTb (by omega)) wm_nil))
  refine lr1_ok (wc := (wcL [(49, (kT zu_4)), (62, k_has)])) (stp := [18]) hcm hcl 80 ?_
  show ((-2147483648 ≤ i + (1 : Int) ∧ i + (1 : Int) ≤ 2147483647) ∧ (0 = 0 ∧ ((0 ≤ i + (1 : Int) ∧ i + (1 : Int) < (N : Int)) ∧ (aTs zu_4.1 [.inr (.inr (.inl 0)), .inl ((xs (i + (1 : Int) : Int).toNat).toInt)] ∧ (zT st ∧ (∀ (r1 : Int) (s1 : zS), zT s1 → ((-2147483648 ≤ i + (1 : Int) ∧ i + (1 : Int) ≤ 2147483647) ∧ (0 = 0 ∧ ((0 ≤ i + (1 : Int) ∧ i + (1 : Int) < (N : Int)) ∧ (170 = 170 ∧ (rq_has ((xs (i + (1 : Int) : Int).toNat).toInt) s1 ∧ (∀ (r2 : Int) (s2 : zS), en_has ((xs (i + (1 : Int) : Int).toNat).toInt) s1 r2 s2 → ((-2147483648 ≤ i + 6 ∧ i + 6 ≤ 2147483647) ∧ K (rx_find rx_mL 18) [(3, .inl (i + 6)), (2, .inr (.inr (.inl 170))), (1, .inr (.inr (.inl 0))), (0, .inr (.inr (.inr 0)))] [] s2)))))))))))))
  refine ⟨⟨by omega, by omega⟩, ?_⟩
  refine ⟨rfl, ⟨by omega, by omega⟩, ?_⟩
  refine ⟨⟨rfl, zsI_toInt _, True.intro⟩, hI, fun r1 s1 q1 => ?_⟩
  refine ⟨⟨by omega, by omega⟩, ?_⟩
  refine ⟨rfl, ⟨by omega, by omega⟩, ?_⟩
  refine ⟨rfl, q1.1, fun r2 s2 q2 => ?_⟩
  refine ⟨⟨by omega, by omega⟩, ?_⟩
  exact ih s2 ⟨⟨q2.1, q2.2.1⟩, q2.2.2.2.trans (q1.2.trans q2.2.2.1.symm)⟩
set_option maxRecDepth 100000 in
set_option maxHeartbeats 4000000 in
theorem lcase5 (hTb : aTb zSh rx_tb cl) (hcl : lcl N xs (cl 200) K) {i : Int} (h0 : 0 ≤ i) (h1 : i + 6 ≤ (N : Int)) (hN : N ≤ 3072) {st : zS} (hI : zT st) (ih : ∀ s1, zT s1 → K (rx_find rx_mL 18) [(3, .inl (i + 6)), (2, .inr (.inr (.inl 170))), (1, .inr (.inr (.inl 0))), (0, .inr (.inr (.inr 0)))] [] s1) : K (rx_find rx_mL 337) [(3, .inl i), (2, .inr (.inr (.inl 170))), (1, .inr (.inr (.inl 0))), (0, .inr (.inr (.inr 0)))] [] st := by
  have hcm : zmo (wcL [(44, (kT zu_5)), (46, k_letter)]) (cl 200) := wcL_m (wm_cons (kT_m (z_all hTb 200 44 (none, [zu_5]) zu_5 rfl List.mem_cons_self) rfl (by decide) (by decide +kernel) rfl rfl rfl rfl rfl) (wm_cons (k_letter_m hTb (by omega)) wm_nil))
  refine lr1_ok (wc := (wcL [(44, (kT zu_5)), (46, k_letter)])) (stp := [18]) hcm hcl 80 ?_
  show ((-2147483648 ≤ i + (1 : Int) ∧ i + (1 : Int) ≤ 2147483647) ∧ (0 = 0 ∧ ((0 ≤ i + (1 : Int) ∧ i + (1 : Int) < (N : Int)) ∧ ((-2147483648 ≤ i + (2 : Int) ∧ i + (2 : Int) ≤ 2147483647) ∧ (0 = 0 ∧ ((0 ≤ i + (2 : Int) ∧ i + (2 : Int) < (N : Int)) ∧ ((-2147483648 ≤ i + (3 : Int) ∧ i + (3 : Int) ≤ 2147483647) ∧ (0 = 0 ∧ ((0 ≤ i + (3 : Int) ∧ i + (3 : Int) < (N : Int)) ∧ (aTs zu_5.1 [.inr (.inr (.inl 0)), .inl ((xs (i + (1 : Int) : Int).toNat).toInt), .inl ((xs (i + (2 : Int) : Int).toNat).toInt), .inl ((xs (i + (3 : Int) : Int).toNat).toInt)] ∧ (zT st ∧ (∀ (r1 : Int) (s1 : zS), zT s1 → ((-2147483648 ≤ i + (1 : Int) ∧ i + (1 : Int) ≤ 2147483647) ∧ (0 = 0 ∧ ((0 ≤ i + (1 : Int) ∧ i + (1 : Int) < (N : Int)) ∧ ((-2147483648 ≤ i + (2 : Int) ∧ i + (2 : Int) ≤ 2147483647) ∧ (0 = 0 ∧ ((0 ≤ i + (2 : Int) ∧ i + (2 : Int) < (N : Int)) ∧ ((-2147483648 ≤ i + (3 : Int) ∧ i + (3 : Int) ≤ 2147483647) ∧ (0 = 0 ∧ ((0 ≤ i + (3 : Int) ∧ i + (3 : Int) < (N : Int)) ∧ (170 = 170 ∧ (rq_letter ((xs (i + (1 : Int) : Int).toNat).toInt) ((xs (i + (2 : Int) : Int).toNat).toInt) ((xs (i + (3 : Int) : Int).toNat).toInt) s1 ∧ (∀ (r2 : Int) (s2 : zS), en_letter ((xs (i + (1 : Int) : Int).toNat).toInt) ((xs (i + (2 : Int) : Int).toNat).toInt) ((xs (i + (3 : Int) : Int).toNat).toInt) s1 r2 s2 → ((-2147483648 ≤ i + 6 ∧ i + 6 ≤ 2147483647) ∧ K (rx_find rx_mL 18) [(3, .inl (i + 6)), (2, .inr (.inr (.inl 170))), (1, .inr (.inr (.inl 0))), (0, .inr (.inr (.inr 0)))] [] s2)))))))))))))))))))))))))
  refine ⟨⟨by omega, by omega⟩, ?_⟩
  refine ⟨rfl, ⟨by omega, by omega⟩, ?_⟩
  refine ⟨⟨by omega, by omega⟩, ?_⟩
  refine ⟨rfl, ⟨by omega, by omega⟩, ?_⟩
  refine ⟨⟨by omega, by omega⟩, ?_⟩
  refine ⟨rfl, ⟨by omega, by omega⟩, ?_⟩
  refine ⟨⟨rfl, zsI_toInt _, zsI_toInt _, zsI_toInt _, True.intro⟩, hI, fun r1 s1 q1 => ?_⟩
  refine ⟨⟨by omega, by omega⟩, ?_⟩
  refine ⟨rfl, ⟨by omega, by omega⟩, ?_⟩
  refine ⟨⟨by omega, by omega⟩, ?_⟩
  refine ⟨rfl, ⟨by omega, by omega⟩, ?_⟩
  refine ⟨⟨by omega, by omega⟩, ?_⟩
  refine ⟨rfl, ⟨by omega, by omega⟩, ?_⟩
  refine ⟨rfl, q1.1, fun r2 s2 q2 => ?_⟩
  refine ⟨⟨by omega, by omega⟩, ?_⟩
  exact ih s2 ⟨⟨q2.1, q2.2.1⟩, q2.2.2.2.trans (q1.2.trans q2.2.2.1.symm)⟩
set_option maxRecDepth 100000 in
set_option maxHeartbeats 4000000 in
theorem lcase6 (hTb : aTb zSh rx_tb cl) (hcl : lcl N xs (cl 200) K) {i : Int} (h0 : 0 ≤ i) (h1 : i + 6 ≤ (N : Int)) (hN : N ≤ 3072) {st : zS} (hI : zT st) (ih : ∀ s1, zT s1 → K (rx_find rx_mL 18) [(3, .inl (i + 6)), (2, .inr (.inr (.inl 170))), (1, .inr (.inr (.inl 0))), (0, .inr (.inr (.inr 0)))] [] s1) : K (rx_find rx_mL 380) [(3, .inl i), (2, .inr (.inr (.inl 170))), (1, .inr (.inr (.inl 0))), (0, .inr (.inr (.inr 0)))] [] st := by
  have hcm : zmo (wcL [(106, (kT zu_6)), (125, k_street)]) (cl 200) := wcL_m (wm_cons (kT_m (z_all hTb 200 106 (none, [zu_6]) zu_6 rfl List.mem_cons_self) rfl (by decide) (by decide +kernel) rfl rfl rfl rfl rfl) (wm_cons (k_street_m hTb (by omega)) wm_nil))
  refine lr1_ok (wc := (wcL [(106, (kT zu_6)), (125, k_street)])) (stp := [18]) hcm hcl 80 ?_
  show ((-2147483648 ≤ i + (1 : Int) ∧ i + (1 : Int) ≤ 2147483647) ∧ (0 = 0 ∧ ((0 ≤ i + (1 : Int) ∧ i + (1 : Int) < (N : Int)) ∧ ((-2147483648 ≤ i + (2 : Int) ∧ i + (2 : Int) ≤ 2147483647) ∧ (0 = 0 ∧ ((0 ≤ i + (2 : Int) ∧ i + (2 : Int) < (N : Int)) ∧ (aTs zu_6.1 [.inr (.inr (.inl 0)), .inl ((xs (i + (1 : Int) : Int).toNat).toInt), .inl ((xs (i + (2 : Int) : Int).toNat).toInt)] ∧ (zT st ∧ (∀ (r1 : Int) (s1 : zS), zT s1 → ((-2147483648 ≤ i + (1 : Int) ∧ i + (1 : Int) ≤ 2147483647) ∧ (0 = 0 ∧ ((0 ≤ i + (1 : Int) ∧ i + (1 : Int) < (N : Int)) ∧ ((-2147483648 ≤ i + (2 : Int) ∧ i + (2 : Int) ≤ 2147483647) ∧ (0 = 0 ∧ ((0 ≤ i + (2 : Int) ∧ i + (2 : Int) < (N : Int)) ∧ (170 = 170 ∧ (rq_street ((xs (i + (1 : Int) : Int).toNat).toInt) ((xs (i + (2 : Int) : Int).toNat).toInt) s1 ∧ (∀ (r2 : Int) (s2 : zS), en_street ((xs (i + (1 : Int) : Int).toNat).toInt) ((xs (i + (2 : Int) : Int).toNat).toInt) s1 r2 s2 → ((-2147483648 ≤ i + 6 ∧ i + 6 ≤ 2147483647) ∧ K (rx_find rx_mL 18) [(3, .inl (i + 6)), (2, .inr (.inr (.inl 170))), (1, .inr (.inr (.inl 0))), (0, .inr (.inr (.inr 0)))] [] s2)))))))))))))))))))
  refine ⟨⟨by omega, by omega⟩, ?_⟩
  refine ⟨rfl, ⟨by omega, by omega⟩, ?_⟩
  refine ⟨⟨by omega, by omega⟩, ?_⟩
  refine ⟨rfl, ⟨by omega, by omega⟩, ?_⟩
  refine ⟨⟨rfl, zsI_toInt _, zsI_toInt _, True.intro⟩, hI, fun r1 s1 q1 => ?_⟩
  refine ⟨⟨by omega, by omega⟩, ?_⟩
  refine ⟨rfl, ⟨by omega, by omega⟩, ?_⟩
  refine ⟨⟨by omega, by omega⟩, ?_⟩
  refine ⟨rfl, ⟨by omega, by omega⟩, ?_⟩
  refine ⟨rfl, q1.1, fun r2 s2 q2 => ?_⟩
  refine ⟨⟨by omega, by omega⟩, ?_⟩
  exact ih s2 ⟨⟨q2.1, q2.2.1⟩, q2.2.2.2.trans (q1.2.trans q2.2.2.1.symm)⟩
set_option maxRecDepth 100000 in
set_option maxHeartbeats 4000000 in
theorem lcase7 (hTb : aTb zSh rx_tb cl) (hcl : lcl N xs (cl 200) K) {i : Int} (h0 : 0 ≤ i) (h1 : i + 6 ≤ (N : Int)) (hN : N ≤ 3072) {st : zS} (hI : zT st) (ih : ∀ s1, zT s1 → K (rx_find rx_mL 18) [(3, .inl (i + 6)), (2, .inr (.inr (.inl 170))), (1, .inr (.inr (.inl 0))), (0, .inr (.inr (.inr 0)))] [] s1) : K (rx_find rx_mL 413) [(3, .inl i), (2, .inr (.inr (.inl 170))), (1, .inr (.inr (.inl 0))), (0, .inr (.inr (.inr 0)))] [] st := by
  have hcm : zmo (wcL [(107, (kT zu_7)), (126, k_way)]) (cl 200) := wcL_m (wm_cons (kT_m (z_all hTb 200 107 (none, [zu_7]) zu_7 rfl List.mem_cons_self) rfl (by decide) (by decide +kernel) rfl rfl rfl rfl rfl) (wm_cons (k_way_m hTb (by omega)) wm_nil))
  refine lr1_ok (wc := (wcL [(107, (kT zu_7)), (126, k_way)])) (stp := [18]) hcm hcl 80 ?_
  show ((-2147483648 ≤ i + (1 : Int) ∧ i + (1 : Int) ≤ 2147483647) ∧ (0 = 0 ∧ ((0 ≤ i + (1 : Int) ∧ i + (1 : Int) < (N : Int)) ∧ ((-2147483648 ≤ i + (2 : Int) ∧ i + (2 : Int) ≤ 2147483647) ∧ (0 = 0 ∧ ((0 ≤ i + (2 : Int) ∧ i + (2 : Int) < (N : Int)) ∧ (aTs zu_7.1 [.inr (.inr (.inl 0)), .inl ((xs (i + (1 : Int) : Int).toNat).toInt), .inl ((xs (i + (2 : Int) : Int).toNat).toInt)] ∧ (zT st ∧ (∀ (r1 : Int) (s1 : zS), zT s1 → ((-2147483648 ≤ i + (1 : Int) ∧ i + (1 : Int) ≤ 2147483647) ∧ (0 = 0 ∧ ((0 ≤ i + (1 : Int) ∧ i + (1 : Int) < (N : Int)) ∧ ((-2147483648 ≤ i + (2 : Int) ∧ i + (2 : Int) ≤ 2147483647) ∧ (0 = 0 ∧ ((0 ≤ i + (2 : Int) ∧ i + (2 : Int) < (N : Int)) ∧ (170 = 170 ∧ (rq_way ((xs (i + (1 : Int) : Int).toNat).toInt) ((xs (i + (2 : Int) : Int).toNat).toInt) s1 ∧ (∀ (r2 : Int) (s2 : zS), en_way ((xs (i + (1 : Int) : Int).toNat).toInt) ((xs (i + (2 : Int) : Int).toNat).toInt) s1 r2 s2 → ((-2147483648 ≤ i + 6 ∧ i + 6 ≤ 2147483647) ∧ K (rx_find rx_mL 18) [(3, .inl (i + 6)), (2, .inr (.inr (.inl 170))), (1, .inr (.inr (.inl 0))), (0, .inr (.inr (.inr 0)))] [] s2)))))))))))))))))))
  refine ⟨⟨by omega, by omega⟩, ?_⟩
  refine ⟨rfl, ⟨by omega, by omega⟩, ?_⟩
  refine ⟨⟨by omega, by omega⟩, ?_⟩
  refine ⟨rfl, ⟨by omega, by omega⟩, ?_⟩
  refine ⟨⟨rfl, zsI_toInt _, zsI_toInt _, True.intro⟩, hI, fun r1 s1 q1 => ?_⟩
  refine ⟨⟨by omega, by omega⟩, ?_⟩
  refine ⟨rfl, ⟨by omega, by omega⟩, ?_⟩
  refine ⟨⟨by omega, by omega⟩, ?_⟩
  refine ⟨rfl, ⟨by omega, by omega⟩, ?_⟩
  refine ⟨rfl, q1.1, fun r2 s2 q2 => ?_⟩
  refine ⟨⟨by omega, by omega⟩, ?_⟩
  exact ih s2 ⟨⟨q2.1, q2.2.1⟩, q2.2.2.2.trans (q1.2.trans q2.2.2.1.symm)⟩
set_option maxRecDepth 100000 in
set_option maxHeartbeats 4000000 in
theorem lcase8 (hTb : aTb zSh rx_tb cl) (hcl : lcl N xs (cl 200) K) {i : Int} (h0 : 0 ≤ i) (h1 : i + 6 ≤ (N : Int)) (hN : N ≤ 3072) {st : zS} (hI : zT st) (ih : ∀ s1, zT s1 → K (rx_find rx_mL 18) [(3, .inl (i + 6)), (2, .inr (.inr (.inl 170))), (1, .inr (.inr (.inl 0))), (0, .inr (.inr (.inr 0)))] [] s1) : K (rx_find rx_mL 446) [(3, .inl i), (2, .inr (.inr (.inl 170))), (1, .inr (.inr (.inl 0))), (0, .inr (.inr (.inr 0)))] [] st := by
  have hcm : zmo (wcL [(108, (kT zu_8)), (127, k_thing)]) (cl 200) := wcL_m (wm_cons (kT_m (z_all hTb 200 108 (none, [zu_8]) zu_8 rfl List.mem_cons_self) rfl (by decide) (by decide +kernel) rfl rfl rfl rfl rfl) (wm_cons (k_thing_m hTb (by omega)) wm_nil))
  refine lr1_ok (wc := (wcL [(108, (kT zu_8)), (127, k_thing)])) (stp := [18]) hcm hcl 80 ?_
  show ((-2147483648 ≤ i + (1 : Int) ∧ i + (1 : Int) ≤ 2147483647) ∧ (0 = 0 ∧ ((0 ≤ i + (1 : Int) ∧ i + (1 : Int) < (N : Int)) ∧ ((-2147483648 ≤ i + (2 : Int) ∧ i + (2 : Int) ≤ 2147483647) ∧ (0 = 0 ∧ ((0 ≤ i + (2 : Int) ∧ i + (2 : Int) < (N : Int)) ∧ (aTs zu_8.1 [.inr (.inr (.inl 0)), .inl ((xs (i + (1 : Int) : Int).toNat).toInt), .inl ((xs (i + (2 : Int) : Int).toNat).toInt)] ∧ (zT st ∧ (∀ (r1 : Int) (s1 : zS), zT s1 → ((-2147483648 ≤ i + (1 : Int) ∧ i + (1 : Int) ≤ 2147483647) ∧ (0 = 0 ∧ ((0 ≤ i + (1 : Int) ∧ i + (1 : Int) < (N : Int)) ∧ ((-2147483648 ≤ i + (2 : Int) ∧ i + (2 : Int) ≤ 2147483647) ∧ (0 = 0 ∧ ((0 ≤ i + (2 : Int) ∧ i + (2 : Int) < (N : Int)) ∧ (170 = 170 ∧ (rq_thing ((xs (i + (1 : Int) : Int).toNat).toInt) ((xs (i + (2 : Int) : Int).toNat).toInt) s1 ∧ (∀ (r2 : Int) (s2 : zS), en_thing ((xs (i + (1 : Int) : Int).toNat).toInt) ((xs (i + (2 : Int) : Int).toNat).toInt) s1 r2 s2 → ((-2147483648 ≤ i + 6 ∧ i + 6 ≤ 2147483647) ∧ K (rx_find rx_mL 18) [(3, .inl (i + 6)), (2, .inr (.inr (.inl 170))), (1, .inr (.inr (.inl 0))), (0, .inr (.inr (.inr 0)))] [] s2)))))))))))))))))))
  refine ⟨⟨by omega, by omega⟩, ?_⟩
  refine ⟨rfl, ⟨by omega, by omega⟩, ?_⟩
  refine ⟨⟨by omega, by omega⟩, ?_⟩
  refine ⟨rfl, ⟨by omega, by omega⟩, ?_⟩
  refine ⟨⟨rfl, zsI_toInt _, zsI_toInt _, True.intro⟩, hI, fun r1 s1 q1 => ?_⟩
  refine ⟨⟨by omega, by omega⟩, ?_⟩
  refine ⟨rfl, ⟨by omega, by omega⟩, ?_⟩
  refine ⟨⟨by omega, by omega⟩, ?_⟩
  refine ⟨rfl, ⟨by omega, by omega⟩, ?_⟩
  refine ⟨rfl, q1.1, fun r2 s2 q2 => ?_⟩
  refine ⟨⟨by omega, by omega⟩, ?_⟩
  exact ih s2 ⟨⟨q2.1, q2.2.1⟩, q2.2.2.2.trans (q1.2.trans q2.2.2.1.symm)⟩
set_option maxRecDepth 100000 in
set_option maxHeartbeats 4000000 in
theorem lcase9 (hTb : aTb zSh rx_tb cl) (hcl : lcl N xs (cl 200) K) {i : Int} (h0 : 0 ≤ i) (h1 : i + 6 ≤ (N : Int)) (hN : N ≤ 3072) {st : zS} (hI : zT st) (ih : ∀ s1, zT s1 → K (rx_find rx_mL 18) [(3, .inl (i + 6)), (2, .inr (.inr (.inl 170))), (1, .inr (.inr (.inl 0))), (0, .inr (.inr (.inr 0)))] [] s1) : K (rx_find rx_mL 479) [(3, .inl i), (2, .inr (.inr (.inl 170))), (1, .inr (.inr (.inl 0))), (0, .inr (.inr (.inr 0)))] [] st := by
  have hcm : zmo (wcL [(109, (kT zu_9)), (128, k_step)]) (cl 200) := wcL_m (wm_cons (kT_m (z_all hTb 200 109 (none, [zu_9]) zu_9 rfl List.mem_cons_self) rfl (by decide) (by decide +kernel) rfl rfl rfl rfl rfl) (wm_cons (k_step_m hTb (by omega)) wm_nil))
  refine lr1_ok (wc := (wcL [(109, (kT zu_9)), (128, k_step)])) (stp := [18]) hcm hcl 80 ?_
  show ((-2147483648 ≤ i + (1 : Int) ∧ i + (1 : Int) ≤ 2147483647) ∧ (0 = 0 ∧ ((0 ≤ i + (1 : Int) ∧ i + (1 : Int) < (N : Int)) ∧ ((-2147483648 ≤ i + (2 : Int) ∧ i + (2 : Int) ≤ 2147483647) ∧ (0 = 0 ∧ ((0 ≤ i + (2 : Int) ∧ i + (2 : Int) < (N : Int)) ∧ (aTs zu_9.1 [.inr (.inr (.inl 0)), .inl ((xs (i + (1 : Int) : Int).toNat).toInt), .inl ((xs (i + (2 : Int) : Int).toNat).toInt)] ∧ (zT st ∧ (∀ (r1 : Int) (s1 : zS), zT s1 → ((-2147483648 ≤ i + (1 : Int) ∧ i + (1 : Int) ≤ 2147483647) ∧ (0 = 0 ∧ ((0 ≤ i + (1 : Int) ∧ i + (1 : Int) < (N : Int)) ∧ ((-2147483648 ≤ i + (2 : Int) ∧ i + (2 : Int) ≤ 2147483647) ∧ (0 = 0 ∧ ((0 ≤ i + (2 : Int) ∧ i + (2 : Int) < (N : Int)) ∧ (170 = 170 ∧ (rq_step ((xs (i + (1 : Int) : Int).toNat).toInt) ((xs (i + (2 : Int) : Int).toNat).toInt) s1 ∧ (∀ (r2 : Int) (s2 : zS), en_step ((xs (i + (1 : Int) : Int).toNat).toInt) ((xs (i + (2 : Int) : Int).toNat).toInt) s1 r2 s2 → ((-2147483648 ≤ i + 6 ∧ i + 6 ≤ 2147483647) ∧ K (rx_find rx_mL 18) [(3, .inl (i + 6)), (2, .inr (.inr (.inl 170))), (1, .inr (.inr (.inl 0))), (0, .inr (.inr (.inr 0)))] [] s2)))))))))))))))))))
  refine ⟨⟨by omega, by omega⟩, ?_⟩
  refine ⟨rfl, ⟨by omega, by omega⟩, ?_⟩
  refine ⟨⟨by omega, by omega⟩, ?_⟩
  refine ⟨rfl, ⟨by omega, by omega⟩, ?_⟩
  refine ⟨⟨rfl, zsI_toInt _, zsI_toInt _, True.intro⟩, hI, fun r1 s1 q1 => ?_⟩
  refine ⟨⟨by omega, by omega⟩, ?_⟩
  refine ⟨rfl, ⟨by omega, by omega⟩, ?_⟩
  refine ⟨⟨by omega, by omega⟩, ?_⟩
  refine ⟨rfl, ⟨by omega, by omega⟩, ?_⟩
  refine ⟨rfl, q1.1, fun r2 s2 q2 => ?_⟩
  refine ⟨⟨by omega, by omega⟩, ?_⟩
  exact ih s2 ⟨⟨q2.1, q2.2.1⟩, q2.2.2.2.trans (q1.2.trans q2.2.2.1.symm)⟩
set_option maxRecDepth 100000 in
set_option maxHeartbeats 4000000 in
theorem lcase10 (hTb : aTb zSh rx_tb cl) (hcl : lcl N xs (cl 200) K) {i : Int} (h0 : 0 ≤ i) (h1 : i + 6 ≤ (N : Int)) (hN : N ≤ 3072) {st : zS} (hI : zT st) (ih : ∀ s1, zT s1 → K (rx_find rx_mL 18) [(3, .inl (i + 6)), (2, .inr (.inr (.inl 170))), (1, .inr (.inr (.inl 0))), (0, .inr (.inr (.inr 0)))] [] s1) : K (rx_find rx_mL 512) [(3, .inl i), (2, .inr (.inr (.inl 170))), (1, .inr (.inr (.inl 0))), (0, .inr (.inr (.inr 0)))] [] st := by
  have hcm : zmo (wcL [(63, (kT zu_10)), (77, k_year)]) (cl 200) := wcL_m (wm_cons (kT_m (z_all hTb 200 63 (none, [zu_10]) zu_10 rfl List.mem_cons_self) rfl (by decide) (by decide +kernel) rfl rfl rfl rfl rfl) (wm_cons (k_year_m hTb (by omega)) wm_nil))
  refine lr1_ok (wc := (wcL [(63, (kT zu_10)), (77, k_year)])) (stp := [18]) hcm hcl 80 ?_
  show ((-2147483648 ≤ i + (1 : Int) ∧ i + (1 : Int) ≤ 2147483647) ∧ (0 = 0 ∧ ((0 ≤ i + (1 : Int) ∧ i + (1 : Int) < (N : Int)) ∧ (aTs zu_10.1 [.inr (.inr (.inl 0)), .inl ((xs (i + (1 : Int) : Int).toNat).toInt)] ∧ (zT st ∧ (∀ (r1 : Int) (s1 : zS), zT s1 → ((-2147483648 ≤ i + (1 : Int) ∧ i + (1 : Int) ≤ 2147483647) ∧ (0 = 0 ∧ ((0 ≤ i + (1 : Int) ∧ i + (1 : Int) < (N : Int)) ∧ (170 = 170 ∧ (rq_year ((xs (i + (1 : Int) : Int).toNat).toInt) s1 ∧ (∀ (r2 : Int) (s2 : zS), en_year ((xs (i + (1 : Int) : Int).toNat).toInt) s1 r2 s2 → ((-2147483648 ≤ i + 6 ∧ i + 6 ≤ 2147483647) ∧ K (rx_find rx_mL 18) [(3, .inl (i + 6)), (2, .inr (.inr (.inl 170))), (1, .inr (.inr (.inl 0))), (0, .inr (.inr (.inr 0)))] [] s2)))))))))))))
  refine ⟨⟨by omega, by omega⟩, ?_⟩
  refine ⟨rfl, ⟨by omega, by omega⟩, ?_⟩
  refine ⟨⟨rfl, zsI_toInt _, True.intro⟩, hI, fun r1 s1 q1 => ?_⟩
  refine ⟨⟨by omega, by omega⟩, ?_⟩
  refine ⟨rfl, ⟨by omega, by omega⟩, ?_⟩
  refine ⟨rfl, q1.1, fun r2 s2 q2 => ?_⟩
  refine ⟨⟨by omega, by omega⟩, ?_⟩
  exact ih s2 ⟨⟨q2.1, q2.2.1⟩, q2.2.2.2.trans (q1.2.trans q2.2.2.1.symm)⟩
set_option maxRecDepth 100000 in
set_option maxHeartbeats 4000000 in
theorem lcase11 (hTb : aTb zSh rx_tb cl) (hcl : lcl N xs (cl 200) K) {i : Int} (h0 : 0 ≤ i) (h1 : i + 6 ≤ (N : Int)) (hN : N ≤ 3072) {st : zS} (hI : zT st) (ih : ∀ s1, zT s1 → K (rx_find rx_mL 18) [(3, .inl (i + 6)), (2, .inr (.inr (.inl 170))), (1, .inr (.inr (.inl 0))), (0, .inr (.inr (.inr 0)))] [] s1) : K (rx_find rx_mL 535) [(3, .inl i), (2, .inr (.inr (.inl 170))), (1, .inr (.inr (.inl 0))), (0, .inr (.inr (.inr 0)))] [] st := by
  have hcm : zmo (wcL [(64, (kT zu_11)), (65, k_goes)]) (cl 200) := wcL_m (wm_cons (kT_m (z_all hTb 200 64 (none, [zu_11]) zu_11 rfl List.mem_cons_self) rfl (by decide) (by decide +kernel) rfl rfl rfl rfl rfl) (wm_cons (k_goes_m hTb (by omega)) wm_nil))
  refine lr1_ok (wc := (wcL [(64, (kT zu_11)), (65, k_goes)])) (stp := [18]) hcm hcl 80 ?_
  show ((-2147483648 ≤ i + (1 : Int) ∧ i + (1 : Int) ≤ 2147483647) ∧ (0 = 0 ∧ ((0 ≤ i + (1 : Int) ∧ i + (1 : Int) < (N : Int)) ∧ ((-2147483648 ≤ i + (2 : Int) ∧ i + (2 : Int) ≤ 2147483647) ∧ (0 = 0 ∧ ((0 ≤ i + (2 : Int) ∧ i + (2 : Int) < (N : Int)) ∧ (aTs zu_11.1 [.inr (.inr (.inl 0)), .inl ((xs (i + (1 : Int) : Int).toNat).toInt), .inl ((xs (i + (2 : Int) : Int).toNat).toInt)] ∧ (zT st ∧ (∀ (r1 : Int) (s1 : zS), zT s1 → ((-2147483648 ≤ i + (1 : Int) ∧ i + (1 : Int) ≤ 2147483647) ∧ (0 = 0 ∧ ((0 ≤ i + (1 : Int) ∧ i + (1 : Int) < (N : Int)) ∧ ((-2147483648 ≤ i + (2 : Int) ∧ i + (2 : Int) ≤ 2147483647) ∧ (0 = 0 ∧ ((0 ≤ i + (2 : Int) ∧ i + (2 : Int) < (N : Int)) ∧ (170 = 170 ∧ (rq_goes ((xs (i + (1 : Int) : Int).toNat).toInt) ((xs (i + (2 : Int) : Int).toNat).toInt) s1 ∧ (∀ (r2 : Int) (s2 : zS), en_goes ((xs (i + (1 : Int) : Int).toNat).toInt) ((xs (i + (2 : Int) : Int).toNat).toInt) s1 r2 s2 → ((-2147483648 ≤ i + 6 ∧ i + 6 ≤ 2147483647) ∧ K (rx_find rx_mL 18) [(3, .inl (i + 6)), (2, .inr (.inr (.inl 170))), (1, .inr (.inr (.inl 0))), (0, .inr (.inr (.inr 0)))] [] s2)))))))))))))))))))
  refine ⟨⟨by omega, by omega⟩, ?_⟩
  refine ⟨rfl, ⟨by omega, by omega⟩, ?_⟩
  refine ⟨⟨by omega, by omega⟩, ?_⟩
  refine ⟨rfl, ⟨by omega, by omega⟩, ?_⟩
  refine ⟨⟨rfl, zsI_toInt _, zsI_toInt _, True.intro⟩, hI, fun r1 s1 q1 => ?_⟩
  refine ⟨⟨by omega, by omega⟩, ?_⟩
  refine ⟨rfl, ⟨by omega, by omega⟩, ?_⟩
  refine ⟨⟨by omega, by omega⟩, ?_⟩
  refine ⟨rfl, ⟨by omega, by omega⟩, ?_⟩
  refine ⟨rfl, q1.1, fun r2 s2 q2 => ?_⟩
  refine ⟨⟨by omega, by omega⟩, ?_⟩
  exact ih s2 ⟨⟨q2.1, q2.2.1⟩, q2.2.2.2.trans (q1.2.trans q2.2.2.1.symm)⟩
set_option maxRecDepth 100000 in
set_option maxHeartbeats 4000000 in
theorem lcase12 (hTb : aTb zSh rx_tb cl) (hcl : lcl N xs (cl 200) K) {i : Int} (h0 : 0 ≤ i) (h1 : i + 6 ≤ (N : Int)) (hN : N ≤ 3072) {st : zS} (hI : zT st) (ih : ∀ s1, zT s1 → K (rx_find rx_mL 18) [(3, .inl (i + 6)), (2, .inr (.inr (.inl 170))), (1, .inr (.inr (.inl 0))), (0, .inr (.inr (.inr 0)))] [] s1) : K (rx_find rx_mL 568) [(3, .inl i), (2, .inr (.inr (.inl 170))), (1, .inr (.inr (.inl 0))), (0, .inr (.inr (.inr 0)))] [] st := by
  have hcm : zmo (wcL [(153, (kT zu_12)), (154, k_wall)]) (cl 200) := wcL_m (wm_cons (kT_m (z_all hTb 200 153 (none, [zu_12]) zu_12 rfl List.mem_cons_self) rfl (by decide) (by decide +kernel) rfl rfl rfl rfl rfl) (wm_cons (k_wall_m hTb (by omega)) wm_nil))
  refine lr1_ok (wc := (wcL [(153, (kT zu_12)), (154, k_wall)])) (stp := [18]) hcm hcl 80 ?_
  show (aTs zu_12.1 [.inr (.inr (.inl 0))] ∧ (zT st ∧ (∀ (r1 : Int) (s1 : zS), zT s1 → (170 = 170 ∧ (rq_wall  s1 ∧ (∀ (r2 : Int) (s2 : zS), en_wall  s1 r2 s2 → ((-2147483648 ≤ i + 6 ∧ i + 6 ≤ 2147483647) ∧ K (rx_find rx_mL 18) [(3, .inl (i + 6)), (2, .inr (.inr (.inl 170))), (1, .inr (.inr (.inl 0))), (0, .inr (.inr (.inr 0)))] [] s2)))))))
  refine ⟨⟨rfl, True.intro⟩, hI, fun r1 s1 q1 => ?_⟩
  refine ⟨rfl, q1.1, fun r2 s2 q2 => ?_⟩
  refine ⟨⟨by omega, by omega⟩, ?_⟩
  exact ih s2 ⟨⟨q2.1, q2.2.1⟩, q2.2.2.2.trans (q1.2.trans q2.2.2.1.symm)⟩
set_option maxRecDepth 100000 in
set_option maxHeartbeats 4000000 in
theorem lcase13 (hTb : aTb zSh rx_tb cl) (hcl : lcl N xs (cl 200) K) {i : Int} (h0 : 0 ≤ i) (h1 : i + 6 ≤ (N : Int)) (hN : N ≤ 3072) {st : zS} (hI : zT st) (ih : ∀ s1, zT s1 → K (rx_find rx_mL 18) [(3, .inl (i + 6)), (2, .inr (.inr (.inl 170))), (1, .inr (.inr (.inl 0))), (0, .inr (.inr (.inr 0)))] [] s1) : K (rx_find rx_mL 581) [(3, .inl i), (2, .inr (.inr (.inl 170))), (1, .inr (.inr (.inl 0))), (0, .inr (.inr (.inr 0)))] [] st := by
  have hcm : zmo (wcL [(90, (kT zu_13)), (110, k_away)]) (cl 200) := wcL_m (wm_cons (kT_m (z_all hTb 200 90 (none, [zu_13]) zu_13 rfl List.mem_cons_self) rfl (by decide) (by decide +kernel) rfl rfl rfl rfl rfl) (wm_cons (k_away_m hTb (by omega)) wm_nil))
  refine lr1_ok (wc := (wcL [(90, (kT zu_13)), (110, k_away)])) (stp := [18]) hcm hcl 80 ?_
  show ((-2147483648 ≤ i + (1 : Int) ∧ i + (1 : Int) ≤ 2147483647) ∧ (0 = 0 ∧ ((0 ≤ i + (1 : Int) ∧ i + (1 : Int) < (N : Int)) ∧ (aTs zu_13.1 [.inr (.inr (.inl 0)), .inl ((xs (i + (1 : Int) : Int).toNat).toInt)] ∧ (zT st ∧ (∀ (r1 : Int) (s1 : zS), zT s1 → ((-2147483648 ≤ i + (1 : Int) ∧ i + (1 : Int) ≤ 2147483647) ∧ (0 = 0 ∧ ((0 ≤ i + (1 : Int) ∧ i + (1 : Int) < (N : Int)) ∧ (170 = 170 ∧ (rq_away ((xs (i + (1 : Int) : Int).toNat).toInt) s1 ∧ (∀ (r2 : Int) (s2 : zS), en_away ((xs (i + (1 : Int) : Int).toNat).toInt) s1 r2 s2 → ((-2147483648 ≤ i + 6 ∧ i + 6 ≤ 2147483647) ∧ K (rx_find rx_mL 18) [(3, .inl (i + 6)), (2, .inr (.inr (.inl 170))), (1, .inr (.inr (.inl 0))), (0, .inr (.inr (.inr 0)))] [] s2)))))))))))))
  refine ⟨⟨by omega, by omega⟩, ?_⟩
  refine ⟨rfl, ⟨by omega, by omega⟩, ?_⟩
  refine ⟨⟨rfl, zsI_toInt _, True.intro⟩, hI, fun r1 s1 q1 => ?_⟩
  refine ⟨⟨by omega, by omega⟩, ?_⟩
  refine ⟨rfl, ⟨by omega, by omega⟩, ?_⟩
  refine ⟨rfl, q1.1, fun r2 s2 q2 => ?_⟩
  refine ⟨⟨by omega, by omega⟩, ?_⟩
  exact ih s2 ⟨⟨q2.1, q2.2.1⟩, q2.2.2.2.trans (q1.2.trans q2.2.2.1.symm)⟩
set_option maxRecDepth 100000 in
set_option maxHeartbeats 4000000 in
theorem lcase14 (hTb : aTb zSh rx_tb cl) (hcl : lcl N xs (cl 200) K) {i : Int} (h0 : 0 ≤ i) (h1 : i + 6 ≤ (N : Int)) (hN : N ≤ 3072) {st : zS} (hI : zT st) (ih : ∀ s1, zT s1 → K (rx_find rx_mL 18) [(3, .inl (i + 6)), (2, .inr (.inr (.inl 170))), (1, .inr (.inr (.inl 0))), (0, .inr (.inr (.inr 0)))] [] s1) : K (rx_find rx_mL 604) [(3, .inl i), (2, .inr (.inr (.inl 170))), (1, .inr (.inr (.inl 0))), (0, .inr (.inr (.inr 0)))] [] st := by
  have hcm : zmo (wcL [(111, (kT zu_14)), (130, k_by)]) (cl 200) := wcL_m (wm_cons (kT_m (z_all hTb 200 111 (none, [zu_14]) zu_14 rfl List.mem_cons_self) rfl (by decide) (by decide +kernel) rfl rfl rfl rfl rfl) (wm_cons (k_by_m hTb (by omega)) wm_nil))
  refine lr1_ok (wc := (wcL [(111, (kT zu_14)), (130, k_by)])) (stp := [18]) hcm hcl 80 ?_
  show ((-2147483648 ≤ i + (1 : Int) ∧ i + (1 : Int) ≤ 2147483647) ∧ (0 = 0 ∧ ((0 ≤ i + (1 : Int) ∧ i + (1 : Int) < (N : Int)) ∧ (aTs zu_14.1 [.inr (.inr (.inl 0)), .inl ((xs (i + (1 : Int) : Int).toNat).toInt)] ∧ (zT st ∧ (∀ (r1 : Int) (s1 : zS), zT s1 → ((-2147483648 ≤ i + (1 : Int) ∧ i + (1 : Int) ≤ 2147483647) ∧ (0 = 0 ∧ ((0 ≤ i + (1 : Int) ∧ i + (1 : Int) < (N : Int)) ∧ (170 = 170 ∧ (rq_by ((xs (i + (1 : Int) : Int).toNat).toInt) s1 ∧ (∀ (r2 : Int) (s2 : zS), en_by ((xs (i + (1 : Int) : Int).toNat).toInt) s1 r2 s2 → ((-2147483648 ≤ i + 6 ∧ i + 6 ≤ 2147483647) ∧ K (rx_find rx_mL 18) [(3, .inl (i + 6)), (2, .inr (.inr (.inl 170))), (1, .inr (.inr (.inl 0))), (0, .inr (.inr (.inr 0)))] [] s2)))))))))))))
  refine ⟨⟨by omega, by omega⟩, ?_⟩
  refine ⟨rfl, ⟨by omega, by omega⟩, ?_⟩
  refine ⟨⟨rfl, zsI_toInt _, True.intro⟩, hI, fun r1 s1 q1 => ?_⟩
  refine ⟨⟨by omega, by omega⟩, ?_⟩
  refine ⟨rfl, ⟨by omega, by omega⟩, ?_⟩
  refine ⟨rfl, q1.1, fun r2 s2 q2 => ?_⟩
  refine ⟨⟨by omega, by omega⟩, ?_⟩
  exact ih s2 ⟨⟨q2.1, q2.2.1⟩, q2.2.2.2.trans (q1.2.trans q2.2.2.1.symm)⟩
set_option maxRecDepth 100000 in
set_option maxHeartbeats 4000000 in
theorem lcase15 (hTb : aTb zSh rx_tb cl) (hcl : lcl N xs (cl 200) K) {i : Int} (h0 : 0 ≤ i) (h1 : i + 6 ≤ (N : Int)) (hN : N ≤ 3072) {st : zS} (hI : zT st) (ih : ∀ s1, zT s1 → K (rx_find rx_mL 18) [(3, .inl (i + 6)), (2, .inr (.inr (.inl 170))), (1, .inr (.inr (.inl 0))), (0, .inr (.inr (.inr 0)))] [] s1) : K (rx_find rx_mL 627) [(3, .inl i), (2, .inr (.inr (.inl 170))), (1, .inr (.inr (.inl 0))), (0, .inr (.inr (.inr 0)))] [] st := by
  have hcm : zmo (wcL [(91, (kT zu_15)), (112, k_seats)]) (cl 200) := wcL_m (wm_cons (kT_m (z_all hTb 200 91 (none, [zu_15]) zu_15 rfl List.mem_cons_self) rfl (by decide) (by decide +kernel) rfl rfl rfl rfl rfl) (wm_cons (k_seats_m hTb (by omega)) wm_nil))
  refine lr1_ok (wc := (wcL [(91, (kT zu_15)), (112, k_seats)])) (stp := [18]) hcm hcl 80 ?_
  show ((-2147483648 ≤ i + (1 : Int) ∧ i + (1 : Int) ≤ 2147483647) ∧ (0 = 0 ∧ ((0 ≤ i + (1 : Int) ∧ i + (1 : Int) < (N : Int)) ∧ (aTs zu_15.1 [.inr (.inr (.inl 0)), .inl ((xs (i + (1 : Int) : Int).toNat).toInt)] ∧ (zT st ∧ (∀ (r1 : Int) (s1 : zS), zT s1 → ((-2147483648 ≤ i + (1 : Int) ∧ i + (1 : Int) ≤ 2147483647) ∧ (0 = 0 ∧ ((0 ≤ i + (1 : Int) ∧ i + (1 : Int) < (N : Int)) ∧ (170 = 170 ∧ (rq_seats ((xs (i + (1 : Int) : Int).toNat).toInt) s1 ∧ (∀ (r2 : Int) (s2 : zS), en_seats ((xs (i + (1 : Int) : Int).toNat).toInt) s1 r2 s2 → ((-2147483648 ≤ i + 6 ∧ i + 6 ≤ 2147483647) ∧ K (rx_find rx_mL 18) [(3, .inl (i + 6)), (2, .inr (.inr (.inl 170))), (1, .inr (.inr (.inl 0))), (0, .inr (.inr (.inr 0)))] [] s2)))))))))))))
  refine ⟨⟨by omega, by omega⟩, ?_⟩
  refine ⟨rfl, ⟨by omega, by omega⟩, ?_⟩
  refine ⟨⟨rfl, zsI_toInt _, True.intro⟩, hI, fun r1 s1 q1 => ?_⟩
  refine ⟨⟨by omega, by omega⟩, ?_⟩
  refine ⟨rfl, ⟨by omega, by omega⟩, ?_⟩
  refine ⟨rfl, q1.1, fun r2 s2 q2 => ?_⟩
  refine ⟨⟨by omega, by omega⟩, ?_⟩
  exact ih s2 ⟨⟨q2.1, q2.2.1⟩, q2.2.2.2.trans (q1.2.trans q2.2.2.1.symm)⟩
set_option maxRecDepth 100000 in
set_option maxHeartbeats 4000000 in
theorem lcase16 (hTb : aTb zSh rx_tb cl) (hcl : lcl N xs (cl 200) K) {i : Int} (h0 : 0 ≤ i) (h1 : i + 6 ≤ (N : Int)) (hN : N ≤ 3072) {st : zS} (hI : zT st) (ih : ∀ s1, zT s1 → K (rx_find rx_mL 18) [(3, .inl (i + 6)), (2, .inr (.inr (.inl 170))), (1, .inr (.inr (.inl 0))), (0, .inr (.inr (.inr 0)))] [] s1) : K (rx_find rx_mL 650) [(3, .inl i), (2, .inr (.inr (.inl 170))), (1, .inr (.inr (.inl 0))), (0, .inr (.inr (.inr 0)))] [] st := by
  have hcm : zmo (wcL [(78, (kT zu_16)), (79, k_later)]) (cl 200) := wcL_m (wm_cons (kT_m (z_all hTb 200 78 (none, [zu_16]) zu_16 rfl List.mem_cons_self) rfl (by decide) (by decide +kernel) rfl rfl rfl rfl rfl) (wm_cons (k_later_m hTb (by omega)) wm_nil))
  refine lr1_ok (wc := (wcL [(78, (kT zu_16)), (79, k_later)])) (stp := [18]) hcm hcl 80 ?_
  show ((-2147483648 ≤ i + (1 : Int) ∧ i + (1 : Int) ≤ 2147483647) ∧ (0 = 0 ∧ ((0 ≤ i + (1 : Int) ∧ i + (1 : Int) < (N : Int)) ∧ ((-2147483648 ≤ i + (2 : Int) ∧ i + (2 : Int) ≤ 2147483647) ∧ (0 = 0 ∧ ((0 ≤ i + (2 : Int) ∧ i + (2 : Int) < (N : Int)) ∧ (aTs zu_16.1 [.inr (.inr (.inl 0)), .inl ((xs (i + (1 : Int) : Int).toNat).toInt), .inl ((xs (i + (2 : Int) : Int).toNat).toInt)] ∧ (zT st ∧ (∀ (r1 : Int) (s1 : zS), zT s1 → ((-2147483648 ≤ i + (1 : Int) ∧ i + (1 : Int) ≤ 2147483647) ∧ (0 = 0 ∧ ((0 ≤ i + (1 : Int) ∧ i + (1 : Int) < (N : Int)) ∧ ((-2147483648 ≤ i + (2 : Int) ∧ i + (2 : Int) ≤ 2147483647) ∧ (0 = 0 ∧ ((0 ≤ i + (2 : Int) ∧ i + (2 : Int) < (N : Int)) ∧ (170 = 170 ∧ (rq_later ((xs (i + (1 : Int) : Int).toNat).toInt) ((xs (i + (2 : Int) : Int).toNat).toInt) s1 ∧ (∀ (r2 : Int) (s2 : zS), en_later ((xs (i + (1 : Int) : Int).toNat).toInt) ((xs (i + (2 : Int) : Int).toNat).toInt) s1 r2 s2 → ((-2147483648 ≤ i + 6 ∧ i + 6 ≤ 2147483647) ∧ K (rx_find rx_mL 18) [(3, .inl (i + 6)), (2, .inr (.inr (.inl 170))), (1, .inr (.inr (.inl 0))), (0, .inr (.inr (.inr 0)))] [] s2)))))))))))))))))))
  refine ⟨⟨by omega, by omega⟩, ?_⟩
  refine ⟨rfl, ⟨by omega, by omega⟩, ?_⟩
  refine ⟨⟨by omega, by omega⟩, ?_⟩
  refine ⟨rfl, ⟨by omega, by omega⟩, ?_⟩
  refine ⟨⟨rfl, zsI_toInt _, zsI_toInt _, True.intro⟩, hI, fun r1 s1 q1 => ?_⟩
  refine ⟨⟨by omega, by omega⟩, ?_⟩
  refine ⟨rfl, ⟨by omega, by omega⟩, ?_⟩
  refine ⟨⟨by omega, by omega⟩, ?_⟩
  refine ⟨rfl, ⟨by omega, by omega⟩, ?_⟩
  refine ⟨rfl, q1.1, fun r2 s2 q2 => ?_⟩
  refine ⟨⟨by omega, by omega⟩, ?_⟩
  exact ih s2 ⟨⟨q2.1, q2.2.1⟩, q2.2.2.2.trans (q1.2.trans q2.2.2.1.symm)⟩
set_option maxRecDepth 100000 in
set_option maxHeartbeats 4000000 in
theorem lcase17 (hTb : aTb zSh rx_tb cl) (hcl : lcl N xs (cl 200) K) {i : Int} (h0 : 0 ≤ i) (h1 : i + 6 ≤ (N : Int)) (hN : N ≤ 3072) {st : zS} (hI : zT st) (ih : ∀ s1, zT s1 → K (rx_find rx_mL 18) [(3, .inl (i + 6)), (2, .inr (.inr (.inl 170))), (1, .inr (.inr (.inl 0))), (0, .inr (.inr (.inr 0)))] [] s1) : K (rx_find rx_mL 683) [(3, .inl i), (2, .inr (.inr (.inl 170))), (1, .inr (.inr (.inl 0))), (0, .inr (.inr (.inr 0)))] [] st := by
  have hcm : zmo (wcL [(113, (kT zu_17)), (131, k_missed)]) (cl 200) := wcL_m (wm_cons (kT_m (z_all hTb 200 113 (none, [zu_17]) zu_17 rfl List.mem_cons_self) rfl (by decide) (by decide +kernel) rfl rfl rfl rfl rfl) (wm_cons (k_missed_m hTb (by omega)) wm_nil))
  refine lr1_ok (wc := (wcL [(113, (kT zu_17)), (131, k_missed)])) (stp := [18]) hcm hcl 80 ?_
  show ((-2147483648 ≤ i + (1 : Int) ∧ i + (1 : Int) ≤ 2147483647) ∧ (0 = 0 ∧ ((0 ≤ i + (1 : Int) ∧ i + (1 : Int) < (N : Int)) ∧ (aTs zu_17.1 [.inr (.inr (.inl 0)), .inl ((xs (i + (1 : Int) : Int).toNat).toInt)] ∧ (zT st ∧ (∀ (r1 : Int) (s1 : zS), zT s1 → ((-2147483648 ≤ i + (1 : Int) ∧ i + (1 : Int) ≤ 2147483647) ∧ (0 = 0 ∧ ((0 ≤ i + (1 : Int) ∧ i + (1 : Int) < (N : Int)) ∧ (170 = 170 ∧ (rq_missed ((xs (i + (1 : Int) : Int).toNat).toInt) s1 ∧ (∀ (r2 : Int) (s2 : zS), en_missed ((xs (i + (1 : Int) : Int).toNat).toInt) s1 r2 s2 → ((-2147483648 ≤ i + 6 ∧ i + 6 ≤ 2147483647) ∧ K (rx_find rx_mL 18) [(3, .inl (i + 6)), (2, .inr (.inr (.inl 170))), (1, .inr (.inr (.inl 0))), (0, .inr (.inr (.inr 0)))] [] s2)))))))))))))
  refine ⟨⟨by omega, by omega⟩, ?_⟩
  refine ⟨rfl, ⟨by omega, by omega⟩, ?_⟩
  refine ⟨⟨rfl, zsI_toInt _, True.intro⟩, hI, fun r1 s1 q1 => ?_⟩
  refine ⟨⟨by omega, by omega⟩, ?_⟩
  refine ⟨rfl, ⟨by omega, by omega⟩, ?_⟩
  refine ⟨rfl, q1.1, fun r2 s2 q2 => ?_⟩
  refine ⟨⟨by omega, by omega⟩, ?_⟩
  exact ih s2 ⟨⟨q2.1, q2.2.1⟩, q2.2.2.2.trans (q1.2.trans q2.2.2.1.symm)⟩
set_option maxRecDepth 100000 in
set_option maxHeartbeats 4000000 in
theorem lcase18 (hTb : aTb zSh rx_tb cl) (hcl : lcl N xs (cl 200) K) {i : Int} (h0 : 0 ≤ i) (h1 : i + 6 ≤ (N : Int)) (hN : N ≤ 3072) {st : zS} (hI : zT st) (ih : ∀ s1, zT s1 → K (rx_find rx_mL 18) [(3, .inl (i + 6)), (2, .inr (.inr (.inl 170))), (1, .inr (.inr (.inl 0))), (0, .inr (.inr (.inr 0)))] [] s1) : K (rx_find rx_mL 706) [(3, .inl i), (2, .inr (.inr (.inl 170))), (1, .inr (.inr (.inl 0))), (0, .inr (.inr (.inr 0)))] [] st := by
  have hcm : zmo (wcL [(156, (kT zu_18)), (159, k_held)]) (cl 200) := wcL_m (wm_cons (kT_m (z_all hTb 200 156 (none, [zu_18]) zu_18 rfl List.mem_cons_self) rfl (by decide) (by decide +kernel) rfl rfl rfl rfl rfl) (wm_cons (k_held_m hTb (by omega)) wm_nil))
  refine lr1_ok (wc := (wcL [(156, (kT zu_18)), (159, k_held)])) (stp := [18]) hcm hcl 80 ?_
  show (aTs zu_18.1 [.inr (.inr (.inl 0))] ∧ (zT st ∧ (∀ (r1 : Int) (s1 : zS), zT s1 → (170 = 170 ∧ (rq_held  s1 ∧ (∀ (r2 : Int) (s2 : zS), en_held  s1 r2 s2 → ((-2147483648 ≤ i + 6 ∧ i + 6 ≤ 2147483647) ∧ K (rx_find rx_mL 18) [(3, .inl (i + 6)), (2, .inr (.inr (.inl 170))), (1, .inr (.inr (.inl 0))), (0, .inr (.inr (.inr 0)))] [] s2)))))))
  refine ⟨⟨rfl, True.intro⟩, hI, fun r1 s1 q1 => ?_⟩
  refine ⟨rfl, q1.1, fun r2 s2 q2 => ?_⟩
  refine ⟨⟨by omega, by omega⟩, ?_⟩
  exact ih s2 ⟨⟨q2.1, q2.2.1⟩, q2.2.2.2.trans (q1.2.trans q2.2.2.1.symm)⟩
set_option maxRecDepth 100000 in
set_option maxHeartbeats 4000000 in
theorem lcase19 (hTb : aTb zSh rx_tb cl) (hcl : lcl N xs (cl 200) K) {i : Int} (h0 : 0 ≤ i) (h1 : i + 6 ≤ (N : Int)) (hN : N ≤ 3072) {st : zS} (hI : zT st) (ih : ∀ s1, zT s1 → K (rx_find rx_mL 18) [(3, .inl (i + 6)), (2, .inr (.inr (.inl 170))), (1, .inr (.inr (.inl 0))), (0, .inr (.inr (.inr 0)))] [] s1) : K (rx_find rx_mL 719) [(3, .inl i), (2, .inr (.inr (.inl 170))), (1, .inr (.inr (.inl 0))), (0, .inr (.inr (.inr 0)))] [] st := by
  have hcm : zmo (wcL [(161, kTz), (164, k_half)]) (cl 200) := wcL_m (wm_cons (kTz_half hTb (by omega)) (wm_cons (k_half_m hTb (by omega)) wm_nil))
  refine lr1_ok (wc := (wcL [(161, kTz), (164, k_half)])) (stp := [18]) hcm hcl 80 ?_
  show (0 = 0 ∧ (zI st ∧ (∀ (r1 : Int) (s1 : zS), (zI s1 ∧ s1 1 1 = 0 ∧ s1 170 1 = st 170 1) → (170 = 170 ∧ (rq_half  s1 ∧ (∀ (r2 : Int) (s2 : zS), en_half  s1 r2 s2 → ((-2147483648 ≤ i + 6 ∧ i + 6 ≤ 2147483647) ∧ K (rx_find rx_mL 18) [(3, .inl (i + 6)), (2, .inr (.inr (.inl 170))), (1, .inr (.inr (.inl 0))), (0, .inr (.inr (.inr 0)))] [] s2)))))))
  refine ⟨rfl, hI.1, fun r1 s1 q1 => ?_⟩
  refine ⟨rfl, q1.1, fun r2 s2 q2 => ?_⟩
  refine ⟨⟨by omega, by omega⟩, ?_⟩
  exact ih s2 ⟨⟨q2.1, q2.2.1⟩, q2.2.2.1.trans (q1.2.1.trans q2.2.2.2.symm)⟩
set_option maxRecDepth 100000 in
set_option maxHeartbeats 4000000 in
theorem lcase20 (hTb : aTb zSh rx_tb cl) (hcl : lcl N xs (cl 200) K) {i : Int} (h0 : 0 ≤ i) (h1 : i + 6 ≤ (N : Int)) (hN : N ≤ 3072) {st : zS} (hI : zT st) (ih : ∀ s1, zT s1 → K (rx_find rx_mL 18) [(3, .inl (i + 6)), (2, .inr (.inr (.inl 170))), (1, .inr (.inr (.inl 0))), (0, .inr (.inr (.inr 0)))] [] s1) : K (rx_find rx_mL 732) [(3, .inl i), (2, .inr (.inr (.inl 170))), (1, .inr (.inr (.inl 0))), (0, .inr (.inr (.inr 0)))] [] st := by
  have hcm : zmo (wcL [(38, (kT zu_19)), (50, k_filled)]) (cl 200) := wcL_m (wm_cons (kT_m (z_all hTb 200 38 (none, [zu_19]) zu_19 rfl List.mem_cons_self) rfl (by decide) (by decide +kernel) rfl rfl rfl rfl rfl) (wm_cons (k_filled_m hTb (by omega)) wm_nil))
  refine lr1_ok (wc := (wcL [(38, (kT zu_19)), (50, k_filled)])) (stp := [18]) hcm hcl 80 ?_
  show ((-2147483648 ≤ i + (1 : Int) ∧ i + (1 : Int) ≤ 2147483647) ∧ (0 = 0 ∧ ((0 ≤ i + (1 : Int) ∧ i + (1 : Int) < (N : Int)) ∧ (aTs zu_19.1 [.inr (.inr (.inl 0)), .inl ((xs (i + (1 : Int) : Int).toNat).toInt)] ∧ (zT st ∧ (∀ (r1 : Int) (s1 : zS), zT s1 → ((-2147483648 ≤ i + (1 : Int) ∧ i + (1 : Int) ≤ 2147483647) ∧ (0 = 0 ∧ ((0 ≤ i + (1 : Int) ∧ i + (1 : Int) < (N : Int)) ∧ (170 = 170 ∧ (rq_filled ((xs (i + (1 : Int) : Int).toNat).toInt) s1 ∧ (∀ (r2 : Int) (s2 : zS), en_filled ((xs (i + (1 : Int) : Int).toNat).toInt) s1 r2 s2 → ((-2147483648 ≤ i + 6 ∧ i + 6 ≤ 2147483647) ∧ K (rx_find rx_mL 18) [(3, .inl (i + 6)), (2, .inr (.inr (.inl 170))), (1, .inr (.inr (.inl 0))), (0, .inr (.inr (.inr 0)))] [] s2)))))))))))))
  refine ⟨⟨by omega, by omega⟩, ?_⟩
  refine ⟨rfl, ⟨by omega, by omega⟩, ?_⟩
  refine ⟨⟨rfl, zsI_toInt _, True.intro⟩, hI, fun r1 s1 q1 => ?_⟩
  refine ⟨⟨by omega, by omega⟩, ?_⟩
  refine ⟨rfl, ⟨by omega, by omega⟩, ?_⟩
  refine ⟨rfl, q1.1, fun r2 s2 q2 => ?_⟩
  refine ⟨⟨by omega, by omega⟩, ?_⟩
  exact ih s2 ⟨⟨q2.1, q2.2.1⟩, q2.2.2.2.trans (q1.2.trans q2.2.2.1.symm)⟩
set_option maxRecDepth 100000 in
set_option maxHeartbeats 4000000 in
theorem lcase21 (hTb : aTb zSh rx_tb cl) (hcl : lcl N xs (cl 200) K) {i : Int} (h0 : 0 ≤ i) (h1 : i + 6 ≤ (N : Int)) (hN : N ≤ 3072) {st : zS} (hI : zT st) (ih : ∀ s1, zT s1 → K (rx_find rx_mL 18) [(3, .inl (i + 6)), (2, .inr (.inr (.inl 170))), (1, .inr (.inr (.inl 0))), (0, .inr (.inr (.inr 0)))] [] s1) : K (rx_find rx_mL 755) [(3, .inl i), (2, .inr (.inr (.inl 170))), (1, .inr (.inr (.inl 0))), (0, .inr (.inr (.inr 0)))] [] st := by
  have hcm : zmo (wcL [(24, (kT zu_20)), (30, k_filling)]) (cl 200) := wcL_m (wm_cons (kT_m (z_all hTb 200 24 (none, [zu_20]) zu_20 rfl List.mem_cons_self) rfl (by decide) (by decide +kernel) rfl rfl rfl rfl rfl) (wm_cons (k_filling_m hTb (by omega)) wm_nil))
  refine lr1_ok (wc := (wcL [(24, (kT zu_20)), (30, k_filling)])) (stp := [18]) hcm hcl 80 ?_
  show ((-2147483648 ≤ i + (1 : Int) ∧ i + (1 : Int) ≤ 2147483647) ∧ (0 = 0 ∧ ((0 ≤ i + (1 : Int) ∧ i + (1 : Int) < (N : Int)) ∧ ((-2147483648 ≤ i + (2 : Int) ∧ i + (2 : Int) ≤ 2147483647) ∧ (0 = 0 ∧ ((0 ≤ i + (2 : Int) ∧ i + (2 : Int) < (N : Int)) ∧ (aTs zu_20.1 [.inr (.inr (.inl 0)), .inl ((xs (i + (1 : Int) : Int).toNat).toInt), .inl ((xs (i + (2 : Int) : Int).toNat).toInt)] ∧ (zT st ∧ (∀ (r1 : Int) (s1 : zS), zT s1 → ((-2147483648 ≤ i + (1 : Int) ∧ i + (1 : Int) ≤ 2147483647) ∧ (0 = 0 ∧ ((0 ≤ i + (1 : Int) ∧ i + (1 : Int) < (N : Int)) ∧ ((-2147483648 ≤ i + (2 : Int) ∧ i + (2 : Int) ≤ 2147483647) ∧ (0 = 0 ∧ ((0 ≤ i + (2 : Int) ∧ i + (2 : Int) < (N : Int)) ∧ (170 = 170 ∧ (rq_filling ((xs (i + (1 : Int) : Int).toNat).toInt) ((xs (i + (2 : Int) : Int).toNat).toInt) s1 ∧ (∀ (r2 : Int) (s2 : zS), en_filling ((xs (i + (1 : Int) : Int).toNat).toInt) ((xs (i + (2 : Int) : Int).toNat).toInt) s1 r2 s2 → ((-2147483648 ≤ i + 6 ∧ i + 6 ≤ 2147483647) ∧ K (rx_find rx_mL 18) [(3, .inl (i + 6)), (2, .inr (.inr (.inl 170))), (1, .inr (.inr (.inl 0))), (0, .inr (.inr (.inr 0)))] [] s2)))))))))))))))))))
  refine ⟨⟨by omega, by omega⟩, ?_⟩
  refine ⟨rfl, ⟨by omega, by omega⟩, ?_⟩
  refine ⟨⟨by omega, by omega⟩, ?_⟩
  refine ⟨rfl, ⟨by omega, by omega⟩, ?_⟩
  refine ⟨⟨rfl, zsI_toInt _, zsI_toInt _, True.intro⟩, hI, fun r1 s1 q1 => ?_⟩
  refine ⟨⟨by omega, by omega⟩, ?_⟩
  refine ⟨rfl, ⟨by omega, by omega⟩, ?_⟩
  refine ⟨⟨by omega, by omega⟩, ?_⟩
  refine ⟨rfl, ⟨by omega, by omega⟩, ?_⟩
  refine ⟨rfl, q1.1, fun r2 s2 q2 => ?_⟩
  refine ⟨⟨by omega, by omega⟩, ?_⟩
  exact ih s2 ⟨⟨q2.1, q2.2.1⟩, q2.2.2.2.trans (q1.2.trans q2.2.2.1.symm)⟩
set_option maxRecDepth 100000 in
set_option maxHeartbeats 4000000 in
theorem lcase22 (hTb : aTb zSh rx_tb cl) (hcl : lcl N xs (cl 200) K) {i : Int} (h0 : 0 ≤ i) (h1 : i + 6 ≤ (N : Int)) (hN : N ≤ 3072) {st : zS} (hI : zT st) (ih : ∀ s1, zT s1 → K (rx_find rx_mL 18) [(3, .inl (i + 6)), (2, .inr (.inr (.inl 170))), (1, .inr (.inr (.inl 0))), (0, .inr (.inr (.inr 0)))] [] s1) : K (rx_find rx_mL 788) [(3, .inl i), (2, .inr (.inr (.inl 170))), (1, .inr (.inr (.inl 0))), (0, .inr (.inr (.inr 0)))] [] st := by
  have hcm : zmo (wcL [(37, (kT zu_21)), (48, k_asked)]) (cl 200) := wcL_m (wm_cons (kT_m (z_all hTb 200 37 (none, [zu_21]) zu_21 rfl List.mem_cons_self) rfl (by decide) (by decide +kernel) rfl rfl rfl rfl rfl) (wm_cons (k_asked_m hTb (by omega)) wm_nil))
  refine lr1_ok (wc := (wcL [(37, (kT zu_21)), (48, k_asked)])) (stp := [18]) hcm hcl 80 ?_
  show ((-2147483648 ≤ i + (1 : Int) ∧ i + (1 : Int) ≤ 2147483647) ∧ (0 = 0 ∧ ((0 ≤ i + (1 : Int) ∧ i + (1 : Int) < (N : Int)) ∧ ((-2147483648 ≤ i + (2 : Int) ∧ i + (2 : Int) ≤ 2147483647) ∧ (0 = 0 ∧ ((0 ≤ i + (2 : Int) ∧ i + (2 : Int) < (N : Int)) ∧ (aTs zu_21.1 [.inr (.inr (.inl 0)), .inl ((xs (i + (1 : Int) : Int).toNat).toInt), .inl ((xs (i + (2 : Int) : Int).toNat).toInt)] ∧ (zT st ∧ (∀ (r1 : Int) (s1 : zS), zT s1 → ((-2147483648 ≤ i + (1 : Int) ∧ i + (1 : Int) ≤ 2147483647) ∧ (0 = 0 ∧ ((0 ≤ i + (1 : Int) ∧ i + (1 : Int) < (N : Int)) ∧ ((-2147483648 ≤ i + (2 : Int) ∧ i + (2 : Int) ≤ 2147483647) ∧ (0 = 0 ∧ ((0 ≤ i + (2 : Int) ∧ i + (2 : Int) < (N : Int)) ∧ (170 = 170 ∧ (rq_asked ((xs (i + (1 : Int) : Int).toNat).toInt) ((xs (i + (2 : Int) : Int).toNat).toInt) s1 ∧ (∀ (r2 : Int) (s2 : zS), en_asked ((xs (i + (1 : Int) : Int).toNat).toInt) ((xs (i + (2 : Int) : Int).toNat).toInt) s1 r2 s2 → ((-2147483648 ≤ i + 6 ∧ i + 6 ≤ 2147483647) ∧ K (rx_find rx_mL 18) [(3, .inl (i + 6)), (2, .inr (.inr (.inl 170))), (1, .inr (.inr (.inl 0))), (0, .inr (.inr (.inr 0)))] [] s2)))))))))))))))))))
  refine ⟨⟨by omega, by omega⟩, ?_⟩
  refine ⟨rfl, ⟨by omega, by omega⟩, ?_⟩
  refine ⟨⟨by omega, by omega⟩, ?_⟩
  refine ⟨rfl, ⟨by omega, by omega⟩, ?_⟩
  refine ⟨⟨rfl, zsI_toInt _, zsI_toInt _, True.intro⟩, hI, fun r1 s1 q1 => ?_⟩
  refine ⟨⟨by omega, by omega⟩, ?_⟩
  refine ⟨rfl, ⟨by omega, by omega⟩, ?_⟩
  refine ⟨⟨by omega, by omega⟩, ?_⟩
  refine ⟨rfl, ⟨by omega, by omega⟩, ?_⟩
  refine ⟨rfl, q1.1, fun r2 s2 q2 => ?_⟩
  refine ⟨⟨by omega, by omega⟩, ?_⟩
  exact ih s2 ⟨⟨q2.1, q2.2.1⟩, q2.2.2.2.trans (q1.2.trans q2.2.2.1.symm)⟩
set_option maxRecDepth 100000 in
set_option maxHeartbeats 4000000 in
theorem lcase23 (hTb : aTb zSh rx_tb cl) (hcl : lcl N xs (cl 200) K) {i : Int} (h0 : 0 ≤ i) (h1 : i + 6 ≤ (N : Int)) (hN : N ≤ 3072) {st : zS} (hI : zT st) (ih : ∀ s1, zT s1 → K (rx_find rx_mL 18) [(3, .inl (i + 6)), (2, .inr (.inr (.inl 170))), (1, .inr (.inr (.inl 0))), (0, .inr (.inr (.inr 0)))] [] s1) : K (rx_find rx_mL 821) [(3, .inl i), (2, .inr (.inr (.inl 170))), (1, .inr (.inr (.inl 0))), (0, .inr (.inr (.inr 0)))] [] st := by
  have hcm : zmo (wcL [(114, (kT zu_22)), (115, k_years)]) (cl 200) := wcL_m (wm_cons (kT_m (z_all hTb 200 114 (none, [zu_22]) zu_22 rfl List.mem_cons_self) rfl (by decide) (by decide +kernel) rfl rfl rfl rfl rfl) (wm_cons (k_years_m hTb (by omega)) wm_nil))
  refine lr1_ok (wc := (wcL [(114, (kT zu_22)), (115, k_years)])) (stp := [18]) hcm hcl 80 ?_
  show ((-2147483648 ≤ i + (1 : Int) ∧ i + (1 : Int) ≤ 2147483647) ∧ (0 = 0 ∧ ((0 ≤ i + (1 : Int) ∧ i + (1 : Int) < (N : Int)) ∧ (aTs zu_22.1 [.inr (.inr (.inl 0)), .inl ((xs (i + (1 : Int) : Int).toNat).toInt)] ∧ (zT st ∧ (∀ (r1 : Int) (s1 : zS), zT s1 → ((-2147483648 ≤ i + (1 : Int) ∧ i + (1 : Int) ≤ 2147483647) ∧ (0 = 0 ∧ ((0 ≤ i + (1 : Int) ∧ i + (1 : Int) < (N : Int)) ∧ (170 = 170 ∧ (rq_years ((xs (i + (1 : Int) : Int).toNat).toInt) s1 ∧ (∀ (r2 : Int) (s2 : zS), en_years ((xs (i + (1 : Int) : Int).toNat).toInt) s1 r2 s2 → ((-2147483648 ≤ i + 6 ∧ i + 6 ≤ 2147483647) ∧ K (rx_find rx_mL 18) [(3, .inl (i + 6)), (2, .inr (.inr (.inl 170))), (1, .inr (.inr (.inl 0))), (0, .inr (.inr (.inr 0)))] [] s2)))))))))))))
  refine ⟨⟨by omega, by omega⟩, ?_⟩
  refine ⟨rfl, ⟨by omega, by omega⟩, ?_⟩
  refine ⟨⟨rfl, zsI_toInt _, True.intro⟩, hI, fun r1 s1 q1 => ?_⟩
  refine ⟨⟨by omega, by omega⟩, ?_⟩
  refine ⟨rfl, ⟨by omega, by omega⟩, ?_⟩
  refine ⟨rfl, q1.1, fun r2 s2 q2 => ?_⟩
  refine ⟨⟨by omega, by omega⟩, ?_⟩
  exact ih s2 ⟨⟨q2.1, q2.2.1⟩, q2.2.2.2.trans (q1.2.trans q2.2.2.1.symm)⟩
set_option maxRecDepth 100000 in
set_option maxHeartbeats 4000000 in
theorem lcase24 (hTb : aTb zSh rx_tb cl) (hcl : lcl N xs (cl 200) K) {i : Int} (h0 : 0 ≤ i) (h1 : i + 6 ≤ (N : Int)) (hN : N ≤ 3072) {st : zS} (hI : zT st) (ih : ∀ s1, zT s1 → K (rx_find rx_mL 18) [(3, .inl (i + 6)), (2, .inr (.inr (.inl 170))), (1, .inr (.inr (.inl 0))), (0, .inr (.inr (.inr 0)))] [] s1) : K (rx_find rx_mL 844) [(3, .inl i), (2, .inr (.inr (.inl 170))), (1, .inr (.inr (.inl 0))), (0, .inr (.inr (.inr 0)))] [] st := by
  have hcm : zmo (wcL [(116, (kT zu_23)), (117, k_chance)]) (cl 200) := wcL_m (wm_cons (kT_m (z_all hTb 200 116 (none, [zu_23]) zu_23 rfl List.mem_cons_self) rfl (by decide) (by decide +kernel) rfl rfl rfl rfl rfl) (wm_cons (k_chance_m hTb (by omega)) wm_nil))
  refine lr1_ok (wc := (wcL [(116, (kT zu_23)), (117, k_chance)])) (stp := [18]) hcm hcl 80 ?_
  show ((-2147483648 ≤ i + (1 : Int) ∧ i + (1 : Int) ≤ 2147483647) ∧ (0 = 0 ∧ ((0 ≤ i + (1 : Int) ∧ i + (1 : Int) < (N : Int)) ∧ (aTs zu_23.1 [.inr (.inr (.inl 0)), .inl ((xs (i + (1 : Int) : Int).toNat).toInt)] ∧ (zT st ∧ (∀ (r1 : Int) (s1 : zS), zT s1 → ((-2147483648 ≤ i + (1 : Int) ∧ i + (1 : Int) ≤ 2147483647) ∧ (0 = 0 ∧ ((0 ≤ i + (1 : Int) ∧ i + (1 : Int) < (N : Int)) ∧ (170 = 170 ∧ (rq_chance ((xs (i + (1 : Int) : Int).toNat).toInt) s1 ∧ (∀ (r2 : Int) (s2 : zS), en_chance ((xs (i + (1 : Int) : Int).toNat).toInt) s1 r2 s2 → ((-2147483648 ≤ i + 6 ∧ i + 6 ≤ 2147483647) ∧ K (rx_find rx_mL 18) [(3, .inl (i + 6)), (2, .inr (.inr (.inl 170))), (1, .inr (.inr (.inl 0))), (0, .inr (.inr (.inr 0)))] [] s2)))))))))))))
  refine ⟨⟨by omega, by omega⟩, ?_⟩
  refine ⟨rfl, ⟨by omega, by omega⟩, ?_⟩
  refine ⟨⟨rfl, zsI_toInt _, True.intro⟩, hI, fun r1 s1 q1 => ?_⟩
  refine ⟨⟨by omega, by omega⟩, ?_⟩
  refine ⟨rfl, ⟨by omega, by omega⟩, ?_⟩
  refine ⟨rfl, q1.1, fun r2 s2 q2 => ?_⟩
  refine ⟨⟨by omega, by omega⟩, ?_⟩
  exact ih s2 ⟨⟨q2.1, q2.2.1⟩, q2.2.2.2.trans (q1.2.trans q2.2.2.1.symm)⟩
set_option maxRecDepth 100000 in
set_option maxHeartbeats 4000000 in
theorem lcase25 (hTb : aTb zSh rx_tb cl) (hcl : lcl N xs (cl 200) K) {i : Int} (h0 : 0 ≤ i) (h1 : i + 6 ≤ (N : Int)) (hN : N ≤ 3072) {st : zS} (hI : zT st) (ih : ∀ s1, zT s1 → K (rx_find rx_mL 18) [(3, .inl (i + 6)), (2, .inr (.inr (.inl 170))), (1, .inr (.inr (.inl 0))), (0, .inr (.inr (.inr 0)))] [] s1) : K (rx_find rx_mL 867) [(3, .inl i), (2, .inr (.inr (.inl 170))), (1, .inr (.inr (.inl 0))), (0, .inr (.inr (.inr 0)))] [] st := by
  have hcm : zmo (wcL [(118, (kT zu_24)), (132, k_shut)]) (cl 200) := wcL_m (wm_cons (kT_m (z_all hTb 200 118 (none, [zu_24]) zu_24 rfl List.mem_cons_self) rfl (by decide) (by decide +kernel) rfl rfl rfl rfl rfl) (wm_cons (k_shut_m hTb (by omega)) wm_nil))
  refine lr1_ok (wc := (wcL [(118, (kT zu_24)), (132, k_shut)])) (stp := [18]) hcm hcl 80 ?_
  show ((-2147483648 ≤ i + (1 : Int) ∧ i + (1 : Int) ≤ 2147483647) ∧ (0 = 0 ∧ ((0 ≤ i + (1 : Int) ∧ i + (1 : Int) < (N : Int)) ∧ ((-2147483648 ≤ i + (2 : Int) ∧ i + (2 : Int) ≤ 2147483647) ∧ (0 = 0 ∧ ((0 ≤ i + (2 : Int) ∧ i + (2 : Int) < (N : Int)) ∧ (aTs zu_24.1 [.inr (.inr (.inl 0)), .inl ((xs (i + (1 : Int) : Int).toNat).toInt), .inl ((xs (i + (2 : Int) : Int).toNat).toInt)] ∧ (zT st ∧ (∀ (r1 : Int) (s1 : zS), zT s1 → ((-2147483648 ≤ i + (1 : Int) ∧ i + (1 : Int) ≤ 2147483647) ∧ (0 = 0 ∧ ((0 ≤ i + (1 : Int) ∧ i + (1 : Int) < (N : Int)) ∧ ((-2147483648 ≤ i + (2 : Int) ∧ i + (2 : Int) ≤ 2147483647) ∧ (0 = 0 ∧ ((0 ≤ i + (2 : Int) ∧ i + (2 : Int) < (N : Int)) ∧ (170 = 170 ∧ (rq_shut ((xs (i + (1 : Int) : Int).toNat).toInt) ((xs (i + (2 : Int) : Int).toNat).toInt) s1 ∧ (∀ (r2 : Int) (s2 : zS), en_shut ((xs (i + (1 : Int) : Int).toNat).toInt) ((xs (i + (2 : Int) : Int).toNat).toInt) s1 r2 s2 → ((-2147483648 ≤ i + 6 ∧ i + 6 ≤ 2147483647) ∧ K (rx_find rx_mL 18) [(3, .inl (i + 6)), (2, .inr (.inr (.inl 170))), (1, .inr (.inr (.inl 0))), (0, .inr (.inr (.inr 0)))] [] s2)))))))))))))))))))
  refine ⟨⟨by omega, by omega⟩, ?_⟩
  refine ⟨rfl, ⟨by omega, by omega⟩, ?_⟩
  refine ⟨⟨by omega, by omega⟩, ?_⟩
  refine ⟨rfl, ⟨by omega, by omega⟩, ?_⟩
  refine ⟨⟨rfl, zsI_toInt _, zsI_toInt _, True.intro⟩, hI, fun r1 s1 q1 => ?_⟩
  refine ⟨⟨by omega, by omega⟩, ?_⟩
  refine ⟨rfl, ⟨by omega, by omega⟩, ?_⟩
  refine ⟨⟨by omega, by omega⟩, ?_⟩
  refine ⟨rfl, ⟨by omega, by omega⟩, ?_⟩
  refine ⟨rfl, q1.1, fun r2 s2 q2 => ?_⟩
  refine ⟨⟨by omega, by omega⟩, ?_⟩
  exact ih s2 ⟨⟨q2.1, q2.2.1⟩, q2.2.2.2.trans (q1.2.trans q2.2.2.1.symm)⟩
set_option maxRecDepth 100000 in
set_option maxHeartbeats 4000000 in
theorem lcase26 (hTb : aTb zSh rx_tb cl) (hcl : lcl N xs (cl 200) K) {i : Int} (h0 : 0 ≤ i) (h1 : i + 6 ≤ (N : Int)) (hN : N ≤ 3072) {st : zS} (hI : zT st) (ih : ∀ s1, zT s1 → K (rx_find rx_mL 18) [(3, .inl (i + 6)), (2, .inr (.inr (.inl 170))), (1, .inr (.inr (.inl 0))), (0, .inr (.inr (.inr 0)))] [] s1) : K (rx_find rx_mL 900) [(3, .inl i), (2, .inr (.inr (.inl 170))), (1, .inr (.inr (.inl 0))), (0, .inr (.inr (.inr 0)))] [] st := by
  have hcm : zmo (wcL [(119, (kT zu_25)), (133, k_move)]) (cl 200) := wcL_m (wm_cons (kT_m (z_all hTb 200 119 (none, [zu_25]) zu_25 rfl List.mem_cons_self) rfl (by decide) (by decide +kernel) rfl rfl rfl rfl rfl) (wm_cons (k_move_m hTb (by omega)) wm_nil))
  refine lr1_ok (wc := (wcL [(119, (kT zu_25)), (133, k_move)])) (stp := [18]) hcm hcl 80 ?_
  show ((-2147483648 ≤ i + (1 : Int) ∧ i + (1 : Int) ≤ 2147483647) ∧ (0 = 0 ∧ ((0 ≤ i + (1 : Int) ∧ i + (1 : Int) < (N : Int)) ∧ ((-2147483648 ≤ i + (2 : Int) ∧ i + (2 : Int) ≤ 2147483647) ∧ (0 = 0 ∧ ((0 ≤ i + (2 : Int) ∧ i + (2 : Int) < (N : Int)) ∧ (aTs zu_25.1 [.inr (.inr (.inl 0)), .inl ((xs (i + (1 : Int) : Int).toNat).toInt), .inl ((xs (i + (2 : Int) : Int).toNat).toInt)] ∧ (zT st ∧ (∀ (r1 : Int) (s1 : zS), zT s1 → ((-2147483648 ≤ i + (1 : Int) ∧ i + (1 : Int) ≤ 2147483647) ∧ (0 = 0 ∧ ((0 ≤ i + (1 : Int) ∧ i + (1 : Int) < (N : Int)) ∧ ((-2147483648 ≤ i + (2 : Int) ∧ i + (2 : Int) ≤ 2147483647) ∧ (0 = 0 ∧ ((0 ≤ i + (2 : Int) ∧ i + (2 : Int) < (N : Int)) ∧ (170 = 170 ∧ (rq_move ((xs (i + (1 : Int) : Int).toNat).toInt) ((xs (i + (2 : Int) : Int).toNat).toInt) s1 ∧ (∀ (r2 : Int) (s2 : zS), en_move ((xs (i + (1 : Int) : Int).toNat).toInt) ((xs (i + (2 : Int) : Int).toNat).toInt) s1 r2 s2 → ((-2147483648 ≤ i + 6 ∧ i + 6 ≤ 2147483647) ∧ K (rx_find rx_mL 18) [(3, .inl (i + 6)), (2, .inr (.inr (.inl 170))), (1, .inr (.inr (.inl 0))), (0, .inr (.inr (.inr 0)))] [] s2)))))))))))))))))))
  refine ⟨⟨by omega, by omega⟩, ?_⟩
  refine ⟨rfl, ⟨by omega, by omega⟩, ?_⟩
  refine ⟨⟨by omega, by omega⟩, ?_⟩
  refine ⟨rfl, ⟨by omega, by omega⟩, ?_⟩
  refine ⟨⟨rfl, zsI_toInt _, zsI_toInt _, True.intro⟩, hI, fun r1 s1 q1 => ?_⟩
  refine ⟨⟨by omega, by omega⟩, ?_⟩
  refine ⟨rfl, ⟨by omega, by omega⟩, ?_⟩
  refine ⟨⟨by omega, by omega⟩, ?_⟩
  refine ⟨rfl, ⟨by omega, by omega⟩, ?_⟩
  refine ⟨rfl, q1.1, fun r2 s2 q2 => ?_⟩
  refine ⟨⟨by omega, by omega⟩, ?_⟩
  exact ih s2 ⟨⟨q2.1, q2.2.1⟩, q2.2.2.2.trans (q1.2.trans q2.2.2.1.symm)⟩
set_option maxRecDepth 100000 in
set_option maxHeartbeats 4000000 in
theorem lcase27 (hTb : aTb zSh rx_tb cl) (hcl : lcl N xs (cl 200) K) {i : Int} (h0 : 0 ≤ i) (h1 : i + 6 ≤ (N : Int)) (hN : N ≤ 3072) {st : zS} (hI : zT st) (ih : ∀ s1, zT s1 → K (rx_find rx_mL 18) [(3, .inl (i + 6)), (2, .inr (.inr (.inl 170))), (1, .inr (.inr (.inl 0))), (0, .inr (.inr (.inr 0)))] [] s1) : K (rx_find rx_mL 933) [(3, .inl i), (2, .inr (.inr (.inl 170))), (1, .inr (.inr (.inl 0))), (0, .inr (.inr (.inr 0)))] [] st := by
  have hcm : zmo (wcL [(120, (kT zu_26)), (134, k_teach)]) (cl 200) := wcL_m (wm_cons (kT_m (z_all hTb 200 120 (none, [zu_26]) zu_26 rfl List.mem_cons_self) rfl (by decide) (by decide +kernel) rfl rfl rfl rfl rfl) (wm_cons (k_teach_m hTb (by omega)) wm_nil))
  refine lr1_ok (wc := (wcL [(120, (kT zu_26)), (134, k_teach)])) (stp := [18]) hcm hcl 80 ?_
  show ((-2147483648 ≤ i + (1 : Int) ∧ i + (1 : Int) ≤ 2147483647) ∧ (0 = 0 ∧ ((0 ≤ i + (1 : Int) ∧ i + (1 : Int) < (N : Int)) ∧ ((-2147483648 ≤ i + (2 : Int) ∧ i + (2 : Int) ≤ 2147483647) ∧ (0 = 0 ∧ ((0 ≤ i + (2 : Int) ∧ i + (2 : Int) < (N : Int)) ∧ (aTs zu_26.1 [.inr (.inr (.inl 0)), .inl ((xs (i + (1 : Int) : Int).toNat).toInt), .inl ((xs (i + (2 : Int) : Int).toNat).toInt)] ∧ (zT st ∧ (∀ (r1 : Int) (s1 : zS), zT s1 → ((-2147483648 ≤ i + (1 : Int) ∧ i + (1 : Int) ≤ 2147483647) ∧ (0 = 0 ∧ ((0 ≤ i + (1 : Int) ∧ i + (1 : Int) < (N : Int)) ∧ ((-2147483648 ≤ i + (2 : Int) ∧ i + (2 : Int) ≤ 2147483647) ∧ (0 = 0 ∧ ((0 ≤ i + (2 : Int) ∧ i + (2 : Int) < (N : Int)) ∧ (170 = 170 ∧ (rq_teach ((xs (i + (1 : Int) : Int).toNat).toInt) ((xs (i + (2 : Int) : Int).toNat).toInt) s1 ∧ (∀ (r2 : Int) (s2 : zS), en_teach ((xs (i + (1 : Int) : Int).toNat).toInt) ((xs (i + (2 : Int) : Int).toNat).toInt) s1 r2 s2 → ((-2147483648 ≤ i + 6 ∧ i + 6 ≤ 2147483647) ∧ K (rx_find rx_mL 18) [(3, .inl (i + 6)), (2, .inr (.inr (.inl 170))), (1, .inr (.inr (.inl 0))), (0, .inr (.inr (.inr 0)))] [] s2)))))))))))))))))))
  refine ⟨⟨by omega, by omega⟩, ?_⟩
  refine ⟨rfl, ⟨by omega, by omega⟩, ?_⟩
  refine ⟨⟨by omega, by omega⟩, ?_⟩
  refine ⟨rfl, ⟨by omega, by omega⟩, ?_⟩
  refine ⟨⟨rfl, zsI_toInt _, zsI_toInt _, True.intro⟩, hI, fun r1 s1 q1 => ?_⟩
  refine ⟨⟨by omega, by omega⟩, ?_⟩
  refine ⟨rfl, ⟨by omega, by omega⟩, ?_⟩
  refine ⟨⟨by omega, by omega⟩, ?_⟩
  refine ⟨rfl, ⟨by omega, by omega⟩, ?_⟩
  refine ⟨rfl, q1.1, fun r2 s2 q2 => ?_⟩
  refine ⟨⟨by omega, by omega⟩, ?_⟩
  exact ih s2 ⟨⟨q2.1, q2.2.1⟩, q2.2.2.2.trans (q1.2.trans q2.2.2.1.symm)⟩
set_option maxRecDepth 100000 in
set_option maxHeartbeats 4000000 in
theorem lcase28 (hTb : aTb zSh rx_tb cl) (hcl : lcl N xs (cl 200) K) {i : Int} (h0 : 0 ≤ i) (h1 : i + 6 ≤ (N : Int)) (hN : N ≤ 3072) {st : zS} (hI : zT st) (ih : ∀ s1, zT s1 → K (rx_find rx_mL 18) [(3, .inl (i + 6)), (2, .inr (.inr (.inl 170))), (1, .inr (.inr (.inl 0))), (0, .inr (.inr (.inr 0)))] [] s1) : K (rx_find rx_mL 966) [(3, .inl i), (2, .inr (.inr (.inl 170))), (1, .inr (.inr (.inl 0))), (0, .inr (.inr (.inr 0)))] [] st := by
  have hcm : zmo (wcL [(165, (kT zu_27)), (166, k_forget)]) (cl 200) := wcL_m (wm_cons (kT_m (z_all hTb 200 165 (none, [zu_27]) zu_27 rfl List.mem_cons_self) rfl (by decide) (by decide +kernel) rfl rfl rfl rfl rfl) (wm_cons (k_forget_m hTb (by omega)) wm_nil))
  refine lr1_ok (wc := (wcL [(165, (kT zu_27)), (166, k_forget)])) (stp := [18]) hcm hcl 80 ?_
  show (aTs zu_27.1 [.inr (.inr (.inl 0))] ∧ (zT st ∧ (∀ (r1 : Int) (s1 : zS), zT s1 → (170 = 170 ∧ (rq_forget  s1 ∧ (∀ (r2 : Int) (s2 : zS), en_forget  s1 r2 s2 → ((-2147483648 ≤ i + 6 ∧ i + 6 ≤ 2147483647) ∧ K (rx_find rx_mL 18) [(3, .inl (i + 6)), (2, .inr (.inr (.inl 170))), (1, .inr (.inr (.inl 0))), (0, .inr (.inr (.inr 0)))] [] s2)))))))
  refine ⟨⟨rfl, True.intro⟩, hI, fun r1 s1 q1 => ?_⟩
  refine ⟨rfl, q1.1, fun r2 s2 q2 => ?_⟩
  refine ⟨⟨by omega, by omega⟩, ?_⟩
  exact ih s2 ⟨⟨q2.1, q2.2.1⟩, q2.2.2.2.trans (q1.2.trans q2.2.2.1.symm)⟩
set_option maxRecDepth 100000 in
set_option maxHeartbeats 4000000 in
theorem lcase29 (hTb : aTb zSh rx_tb cl) (hcl : lcl N xs (cl 200) K) {i : Int} (h0 : 0 ≤ i) (h1 : i + 6 ≤ (N : Int)) (hN : N ≤ 3072) {st : zS} (hI : zT st) (ih : ∀ s1, zT s1 → K (rx_find rx_mL 18) [(3, .inl (i + 6)), (2, .inr (.inr (.inl 170))), (1, .inr (.inr (.inl 0))), (0, .inr (.inr (.inr 0)))] [] s1) : K (rx_find rx_mL 979) [(3, .inl i), (2, .inr (.inr (.inl 170))), (1, .inr (.inr (.inl 0))), (0, .inr (.inr (.inr 0)))] [] st := by
  have hcm : zmo (wcL [(167, (kT zu_28)), (169, k_undo)]) (cl 200) := wcL_m (wm_cons (kT_m (z_all hTb 200 167 (none, [zu_28]) zu_28 rfl List.mem_cons_self) rfl (by decide) (by decide +kernel) rfl rfl rfl rfl rfl) (wm_cons (k_undo_m hTb (by omega)) wm_nil))
  refine lr1_ok (wc := (wcL [(167, (kT zu_28)), (169, k_undo)])) (stp := [18]) hcm hcl 80 ?_
  show (aTs zu_28.1 [.inr (.inr (.inl 0))] ∧ (zT st ∧ (∀ (r1 : Int) (s1 : zS), zT s1 → (170 = 170 ∧ (rq_undo  s1 ∧ (∀ (r2 : Int) (s2 : zS), en_undo  s1 r2 s2 → ((-2147483648 ≤ i + 6 ∧ i + 6 ≤ 2147483647) ∧ K (rx_find rx_mL 18) [(3, .inl (i + 6)), (2, .inr (.inr (.inl 170))), (1, .inr (.inr (.inl 0))), (0, .inr (.inr (.inr 0)))] [] s2)))))))
  refine ⟨⟨rfl, True.intro⟩, hI, fun r1 s1 q1 => ?_⟩
  refine ⟨rfl, q1.1, fun r2 s2 q2 => ?_⟩
  refine ⟨⟨by omega, by omega⟩, ?_⟩
  exact ih s2 ⟨⟨q2.1, q2.2.1⟩, q2.2.2.2.trans (q1.2.trans q2.2.2.1.symm)⟩
set_option maxRecDepth 100000 in
set_option maxHeartbeats 4000000 in
theorem lcase30 (hTb : aTb zSh rx_tb cl) (hcl : lcl N xs (cl 200) K) {i : Int} (h0 : 0 ≤ i) (h1 : i + 6 ≤ (N : Int)) (hN : N ≤ 3072) {st : zS} (hI : zT st) (ih : ∀ s1, zT s1 → K (rx_find rx_mL 18) [(3, .inl (i + 6)), (2, .inr (.inr (.inl 170))), (1, .inr (.inr (.inl 0))), (0, .inr (.inr (.inr 0)))] [] s1) : K (rx_find rx_mL 992) [(3, .inl i), (2, .inr (.inr (.inl 170))), (1, .inr (.inr (.inl 0))), (0, .inr (.inr (.inr 0)))] [] st := by
  have hcm : zmo (wcL [(121, (kT zu_29)), (135, k_seed)]) (cl 200) := wcL_m (wm_cons (kT_m (z_all hTb 200 121 (none, [zu_29]) zu_29 rfl List.mem_cons_self) rfl (by decide) (by decide +kernel) rfl rfl rfl rfl rfl) (wm_cons (k_seed_m hTb (by omega)) wm_nil))
  refine lr1_ok (wc := (wcL [(121, (kT zu_29)), (135, k_seed)])) (stp := [18]) hcm hcl 80 ?_
  show ((-2147483648 ≤ i + (1 : Int) ∧ i + (1 : Int) ≤ 2147483647) ∧ (0 = 0 ∧ ((0 ≤ i + (1 : Int) ∧ i + (1 : Int) < (N : Int)) ∧ (aTs zu_29.1 [.inr (.inr (.inl 0)), .inl ((xs (i + (1 : Int) : Int).toNat).toInt)] ∧ (zT st ∧ (∀ (r1 : Int) (s1 : zS), zT s1 → ((-2147483648 ≤ i + (1 : Int) ∧ i + (1 : Int) ≤ 2147483647) ∧ (0 = 0 ∧ ((0 ≤ i + (1 : Int) ∧ i + (1 : Int) < (N : Int)) ∧ (170 = 170 ∧ (rq_seed ((xs (i + (1 : Int) : Int).toNat).toInt) s1 ∧ (∀ (r2 : Int) (s2 : zS), en_seed ((xs (i + (1 : Int) : Int).toNat).toInt) s1 r2 s2 → ((-2147483648 ≤ i + 6 ∧ i + 6 ≤ 2147483647) ∧ K (rx_find rx_mL 18) [(3, .inl (i + 6)), (2, .inr (.inr (.inl 170))), (1, .inr (.inr (.inl 0))), (0, .inr (.inr (.inr 0)))] [] s2)))))))))))))
  refine ⟨⟨by omega, by omega⟩, ?_⟩
  refine ⟨rfl, ⟨by omega, by omega⟩, ?_⟩
  refine ⟨⟨rfl, zsI_toInt _, True.intro⟩, hI, fun r1 s1 q1 => ?_⟩
  refine ⟨⟨by omega, by omega⟩, ?_⟩
  refine ⟨rfl, ⟨by omega, by omega⟩, ?_⟩
  refine ⟨rfl, ⟨q1.1.1, q1.1.2, zsI_toInt _⟩, fun r2 s2 q2 => ?_⟩
  refine ⟨⟨by omega, by omega⟩, ?_⟩
  exact ih s2 ⟨⟨q2.1, q2.2.1⟩, q2.2.2.2.1.trans (q1.2.trans q2.2.2.1.symm)⟩
set_option maxRecDepth 100000 in
set_option maxHeartbeats 4000000 in
theorem lcase31 (hTb : aTb zSh rx_tb cl) (hcl : lcl N xs (cl 200) K) {i : Int} (h0 : 0 ≤ i) (h1 : i + 6 ≤ (N : Int)) (hN : N ≤ 3072) {st : zS} (hI : zT st) (ih : ∀ s1, zT s1 → K (rx_find rx_mL 18) [(3, .inl (i + 6)), (2, .inr (.inr (.inl 170))), (1, .inr (.inr (.inl 0))), (0, .inr (.inr (.inr 0)))] [] s1) : K (rx_find rx_mL 1015) [(3, .inl i), (2, .inr (.inr (.inl 170))), (1, .inr (.inr (.inl 0))), (0, .inr (.inr (.inr 0)))] [] st := by
  have hcm : zmo (wcL [(122, (kT zu_30)), (136, k_kept)]) (cl 200) := wcL_m (wm_cons (kT_m (z_all hTb 200 122 (none, [zu_30]) zu_30 rfl List.mem_cons_self) rfl (by decide) (by decide +kernel) rfl rfl rfl rfl rfl) (wm_cons (k_kept_m hTb (by omega)) wm_nil))
  refine lr1_ok (wc := (wcL [(122, (kT zu_30)), (136, k_kept)])) (stp := [18]) hcm hcl 80 ?_
  show ((-2147483648 ≤ i + (1 : Int) ∧ i + (1 : Int) ≤ 2147483647) ∧ (0 = 0 ∧ ((0 ≤ i + (1 : Int) ∧ i + (1 : Int) < (N : Int)) ∧ ((-2147483648 ≤ i + (2 : Int) ∧ i + (2 : Int) ≤ 2147483647) ∧ (0 = 0 ∧ ((0 ≤ i + (2 : Int) ∧ i + (2 : Int) < (N : Int)) ∧ (aTs zu_30.1 [.inr (.inr (.inl 0)), .inl ((xs (i + (1 : Int) : Int).toNat).toInt), .inl ((xs (i + (2 : Int) : Int).toNat).toInt)] ∧ (zT st ∧ (∀ (r1 : Int) (s1 : zS), zT s1 → ((-2147483648 ≤ i + (1 : Int) ∧ i + (1 : Int) ≤ 2147483647) ∧ (0 = 0 ∧ ((0 ≤ i + (1 : Int) ∧ i + (1 : Int) < (N : Int)) ∧ ((-2147483648 ≤ i + (2 : Int) ∧ i + (2 : Int) ≤ 2147483647) ∧ (0 = 0 ∧ ((0 ≤ i + (2 : Int) ∧ i + (2 : Int) < (N : Int)) ∧ (170 = 170 ∧ (rq_kept ((xs (i + (1 : Int) : Int).toNat).toInt) ((xs (i + (2 : Int) : Int).toNat).toInt) s1 ∧ (∀ (r2 : Int) (s2 : zS), en_kept ((xs (i + (1 : Int) : Int).toNat).toInt) ((xs (i + (2 : Int) : Int).toNat).toInt) s1 r2 s2 → ((-2147483648 ≤ i + 6 ∧ i + 6 ≤ 2147483647) ∧ K (rx_find rx_mL 18) [(3, .inl (i + 6)), (2, .inr (.inr (.inl 170))), (1, .inr (.inr (.inl 0))), (0, .inr (.inr (.inr 0)))] [] s2)))))))))))))))))))
  refine ⟨⟨by omega, by omega⟩, ?_⟩
  refine ⟨rfl, ⟨by omega, by omega⟩, ?_⟩
  refine ⟨⟨by omega, by omega⟩, ?_⟩
  refine ⟨rfl, ⟨by omega, by omega⟩, ?_⟩
  refine ⟨⟨rfl, zsI_toInt _, zsI_toInt _, True.intro⟩, hI, fun r1 s1 q1 => ?_⟩
  refine ⟨⟨by omega, by omega⟩, ?_⟩
  refine ⟨rfl, ⟨by omega, by omega⟩, ?_⟩
  refine ⟨⟨by omega, by omega⟩, ?_⟩
  refine ⟨rfl, ⟨by omega, by omega⟩, ?_⟩
  refine ⟨rfl, q1.1, fun r2 s2 q2 => ?_⟩
  refine ⟨⟨by omega, by omega⟩, ?_⟩
  exact ih s2 ⟨⟨q2.1, q2.2.1⟩, q2.2.2.2.trans (q1.2.trans q2.2.2.1.symm)⟩
set_option maxRecDepth 100000 in
set_option maxHeartbeats 4000000 in
theorem lcase32 (hTb : aTb zSh rx_tb cl) (hcl : lcl N xs (cl 200) K) {i : Int} (h0 : 0 ≤ i) (h1 : i + 6 ≤ (N : Int)) (hN : N ≤ 3072) {st : zS} (hI : zT st) (ih : ∀ s1, zT s1 → K (rx_find rx_mL 18) [(3, .inl (i + 6)), (2, .inr (.inr (.inl 170))), (1, .inr (.inr (.inl 0))), (0, .inr (.inr (.inr 0)))] [] s1) : K (rx_find rx_mL 1048) [(3, .inl i), (2, .inr (.inr (.inl 170))), (1, .inr (.inr (.inl 0))), (0, .inr (.inr (.inr 0)))] [] st := by
  have hcm : zmo (wcL [(170, (kT zu_31)), (173, k_image)]) (cl 200) := wcL_m (wm_cons (kT_m (z_all hTb 200 170 (none, [zu_31]) zu_31 rfl List.mem_cons_self) rfl (by decide) (by decide +kernel) rfl rfl rfl rfl rfl) (wm_cons (k_image_m hTb (by omega)) wm_nil))
  refine lr1_ok (wc := (wcL [(170, (kT zu_31)), (173, k_image)])) (stp := [18]) hcm hcl 80 ?_
  show (aTs zu_31.1 [.inr (.inr (.inl 0))] ∧ (zT st ∧ (∀ (r1 : Int) (s1 : zS), zT s1 → (170 = 170 ∧ (rq_image  s1 ∧ (∀ (r2 : Int) (s2 : zS), en_image  s1 r2 s2 → ((-2147483648 ≤ i + 6 ∧ i + 6 ≤ 2147483647) ∧ K (rx_find rx_mL 18) [(3, .inl (i + 6)), (2, .inr (.inr (.inl 170))), (1, .inr (.inr (.inl 0))), (0, .inr (.inr (.inr 0)))] [] s2)))))))
  refine ⟨⟨rfl, True.intro⟩, hI, fun r1 s1 q1 => ?_⟩
  refine ⟨rfl, q1.1, fun r2 s2 q2 => ?_⟩
  refine ⟨⟨by omega, by omega⟩, ?_⟩
  exact ih s2 ⟨⟨q2.1, q2.2.2⟩, (q2.2.1 1 1 rfl rfl).trans (q1.2.trans (q2.2.1 170 1 rfl rfl).symm)⟩
set_option maxRecDepth 100000 in
set_option maxHeartbeats 4000000 in
theorem lcase33 (hTb : aTb zSh rx_tb cl) (hcl : lcl N xs (cl 200) K) {i : Int} (h0 : 0 ≤ i) (h1 : i + 6 ≤ (N : Int)) (hN : N ≤ 3072) {st : zS} (hI : zT st) (ih : ∀ s1, zT s1 → K (rx_find rx_mL 18) [(3, .inl (i + 6)), (2, .inr (.inr (.inl 170))), (1, .inr (.inr (.inl 0))), (0, .inr (.inr (.inr 0)))] [] s1) : K (rx_find rx_mL 1061) [(3, .inl i), (2, .inr (.inr (.inl 170))), (1, .inr (.inr (.inl 0))), (0, .inr (.inr (.inr 0)))] [] st := by
  have hcm : zmo (wcL [(123, (kT zu_32)), (137, k_octet)]) (cl 200) := wcL_m (wm_cons (kT_m (z_all hTb 200 123 (none, [zu_32]) zu_32 rfl List.mem_cons_self) rfl (by decide) (by decide +kernel) rfl rfl rfl rfl rfl) (wm_cons (k_octet_m hTb (by omega)) wm_nil))
  refine lr1_ok (wc := (wcL [(123, (kT zu_32)), (137, k_octet)])) (stp := [18]) hcm hcl 80 ?_
  show ((-2147483648 ≤ i + (1 : Int) ∧ i + (1 : Int) ≤ 2147483647) ∧ (0 = 0 ∧ ((0 ≤ i + (1 : Int) ∧ i + (1 : Int) < (N : Int)) ∧ (aTs zu_32.1 [.inr (.inr (.inl 0)), .inl ((xs (i + (1 : Int) : Int).toNat).toInt)] ∧ (zT st ∧ (∀ (r1 : Int) (s1 : zS), zT s1 → ((-2147483648 ≤ i + (1 : Int) ∧ i + (1 : Int) ≤ 2147483647) ∧ (0 = 0 ∧ ((0 ≤ i + (1 : Int) ∧ i + (1 : Int) < (N : Int)) ∧ (170 = 170 ∧ (rq_octet ((xs (i + (1 : Int) : Int).toNat).toInt) s1 ∧ (∀ (r2 : Int) (s2 : zS), en_octet ((xs (i + (1 : Int) : Int).toNat).toInt) s1 r2 s2 → ((-2147483648 ≤ i + 6 ∧ i + 6 ≤ 2147483647) ∧ K (rx_find rx_mL 18) [(3, .inl (i + 6)), (2, .inr (.inr (.inl 170))), (1, .inr (.inr (.inl 0))), (0, .inr (.inr (.inr 0)))] [] s2)))))))))))))
  refine ⟨⟨by omega, by omega⟩, ?_⟩
  refine ⟨rfl, ⟨by omega, by omega⟩, ?_⟩
  refine ⟨⟨rfl, zsI_toInt _, True.intro⟩, hI, fun r1 s1 q1 => ?_⟩
  refine ⟨⟨by omega, by omega⟩, ?_⟩
  refine ⟨rfl, ⟨by omega, by omega⟩, ?_⟩
  refine ⟨rfl, q1.1, fun r2 s2 q2 => ?_⟩
  refine ⟨⟨by omega, by omega⟩, ?_⟩
  exact ih s2 ⟨⟨q2.1, q2.2.1⟩, q2.2.2.2.trans (q1.2.trans q2.2.2.1.symm)⟩
set_option maxRecDepth 100000 in
set_option maxHeartbeats 4000000 in
theorem lcase34 (hTb : aTb zSh rx_tb cl) (hcl : lcl N xs (cl 200) K) {i : Int} (h0 : 0 ≤ i) (h1 : i + 6 ≤ (N : Int)) (hN : N ≤ 3072) {st : zS} (hI : zT st) (ih : ∀ s1, zT s1 → K (rx_find rx_mL 18) [(3, .inl (i + 6)), (2, .inr (.inr (.inl 170))), (1, .inr (.inr (.inl 0))), (0, .inr (.inr (.inr 0)))] [] s1) : K (rx_find rx_mL 1084) [(3, .inl i), (2, .inr (.inr (.inl 170))), (1, .inr (.inr (.inl 0))), (0, .inr (.inr (.inr 0)))] [] st := by
  have hcm : zmo (wcL [(174, kTz), (176, k_on)]) (cl 200) := wcL_m (wm_cons (kTz_on hTb (by omega)) (wm_cons (k_on_m hTb (by omega)) wm_nil))
  refine lr1_ok (wc := (wcL [(174, kTz), (176, k_on)])) (stp := [18]) hcm hcl 80 ?_
  show (0 = 0 ∧ (zI st ∧ (∀ (r1 : Int) (s1 : zS), (zI s1 ∧ s1 1 1 = 0 ∧ s1 170 1 = st 170 1) → (170 = 170 ∧ (rq_on  s1 ∧ (∀ (r2 : Int) (s2 : zS), en_on  s1 r2 s2 → ((-2147483648 ≤ i + 6 ∧ i + 6 ≤ 2147483647) ∧ K (rx_find rx_mL 18) [(3, .inl (i + 6)), (2, .inr (.inr (.inl 170))), (1, .inr (.inr (.inl 0))), (0, .inr (.inr (.inr 0)))] [] s2)))))))
  refine ⟨rfl, hI.1, fun r1 s1 q1 => ?_⟩
  refine ⟨rfl, q1.1, fun r2 s2 q2 => ?_⟩
  refine ⟨⟨by omega, by omega⟩, ?_⟩
  exact ih s2 ⟨⟨q2.1, q2.2.1⟩, q2.2.2.1.trans (q1.2.1.trans q2.2.2.2.symm)⟩
set_option maxRecDepth 100000 in
set_option maxHeartbeats 4000000 in
theorem lcase35 (hTb : aTb zSh rx_tb cl) (hcl : lcl N xs (cl 200) K) {i : Int} (h0 : 0 ≤ i) (h1 : i + 6 ≤ (N : Int)) (hN : N ≤ 3072) {st : zS} (hI : zT st) (ih : ∀ s1, zT s1 → K (rx_find rx_mL 18) [(3, .inl (i + 6)), (2, .inr (.inr (.inl 170))), (1, .inr (.inr (.inl 0))), (0, .inr (.inr (.inr 0)))] [] s1) : K (rx_find rx_mL 1097) [(3, .inl i), (2, .inr (.inr (.inl 170))), (1, .inr (.inr (.inl 0))), (0, .inr (.inr (.inr 0)))] [] st := by
  have hcm : zmo (wcL [(57, (kT zu_33)), (68, k_status)]) (cl 200) := wcL_m (wm_cons (kT_m (z_all hTb 200 57 (none, [zu_33]) zu_33 rfl List.mem_cons_self) rfl (by decide) (by decide +kernel) rfl rfl rfl rfl rfl) (wm_cons (k_status_m hTb (by omega)) wm_nil))
  refine lr1_ok (wc := (wcL [(57, (kT zu_33)), (68, k_status)])) (stp := [18]) hcm hcl 80 ?_
  show ((-2147483648 ≤ i + (1 : Int) ∧ i + (1 : Int) ≤ 2147483647) ∧ (0 = 0 ∧ ((0 ≤ i + (1 : Int) ∧ i + (1 : Int) < (N : Int)) ∧ (aTs zu_33.1 [.inr (.inr (.inl 0)), .inl ((xs (i + (1 : Int) : Int).toNat).toInt)] ∧ (zT st ∧ (∀ (r1 : Int) (s1 : zS), zT s1 → ((-2147483648 ≤ i + (1 : Int) ∧ i + (1 : Int) ≤ 2147483647) ∧ (0 = 0 ∧ ((0 ≤ i + (1 : Int) ∧ i + (1 : Int) < (N : Int)) ∧ (170 = 170 ∧ (rq_status ((xs (i + (1 : Int) : Int).toNat).toInt) s1 ∧ (∀ (r2 : Int) (s2 : zS), en_status ((xs (i + (1 : Int) : Int).toNat).toInt) s1 r2 s2 → ((-2147483648 ≤ i + 6 ∧ i + 6 ≤ 2147483647) ∧ K (rx_find rx_mL 18) [(3, .inl (i + 6)), (2, .inr (.inr (.inl 170))), (1, .inr (.inr (.inl 0))), (0, .inr (.inr (.inr 0)))] [] s2)))))))))))))
  refine ⟨⟨by omega, by omega⟩, ?_⟩
  refine ⟨rfl, ⟨by omega, by omega⟩, ?_⟩
  refine ⟨⟨rfl, zsI_toInt _, True.intro⟩, hI, fun r1 s1 q1 => ?_⟩
  refine ⟨⟨by omega, by omega⟩, ?_⟩
  refine ⟨rfl, ⟨by omega, by omega⟩, ?_⟩
  refine ⟨rfl, q1.1, fun r2 s2 q2 => ?_⟩
  refine ⟨⟨by omega, by omega⟩, ?_⟩
  exact ih s2 ⟨⟨q2.1, q2.2.1⟩, q2.2.2.2.trans (q1.2.trans q2.2.2.1.symm)⟩
set_option maxRecDepth 100000 in
set_option maxHeartbeats 4000000 in
theorem lhead (hTb : aTb zSh rx_tb cl) (hcl : lcl N xs (cl 200) K) (hN : N ≤ 3072) : ∀ (u : Nat) (i : Int), 0 ≤ i → i ≤ (N : Int) → ((N : Int) - i).toNat = u → ∀ st : zS, zT st → K (rx_find rx_mL 18) [(3, .inl i), (2, .inr (.inr (.inl 170))), (1, .inr (.inr (.inl 0))), (0, .inr (.inr (.inr 0)))] [] st := by
  intro u
  induction u using Nat.strongRecOn with
  | _ u ihu =>
    intro i h0 h2 hu st hI
    have hcm : zmo (wcL []) (cl 200) := wcL_m wm_nil
    by_cases h1 : i + 6 ≤ (N : Int)
    · have ih : ∀ s1, zT s1 → K (rx_find rx_mL 18) [(3, .inl (i + 6)), (2, .inr (.inr (.inl 170))), (1, .inr (.inr (.inl 0))), (0, .inr (.inr (.inr 0)))] [] s1 := fun s1 z => ihu _ (by omega) (i + 6) (by omega) (by omega) rfl s1 z
      have hd : K (rx_find rx_mL 1120) [(3, .inl i), (2, .inr (.inr (.inl 170))), (1, .inr (.inr (.inl 0))), (0, .inr (.inr (.inr 0)))] [] st := by
        refine lr1_ok (wc := wcL []) (stp := [18]) hcm hcl 5 ?_
        show ((-2147483648 ≤ i + 6 ∧ i + 6 ≤ 2147483647) ∧ K (rx_find rx_mL 18) [(3, .inl (i + 6)), (2, .inr (.inr (.inl 170))), (1, .inr (.inr (.inl 0))), (0, .inr (.inr (.inr 0)))] [] st)
        exact ⟨⟨by omega, by omega⟩, ih st hI⟩
      refine lr1_ok (wc := wcL []) (stp := [1120, 192, 255, 278, 291, 314, 337, 380, 413, 446, 479, 512, 535, 568, 581, 604, 627, 650, 683, 706, 719, 732, 755, 788, 821, 844, 867, 900, 933, 966, 979, 992, 1015, 1048, 1061, 1084, 1097]) hcm hcl 20 ?_
      show (0 = 0 ∧ ((-2147483648 ≤ (N : Int) - 6 ∧ (N : Int) - 6 ≤ 2147483647) ∧ (((N : Int) - 6 < i → ((1 : Int) = 1)) ∧ (¬ ((N : Int) - 6 < i) → (0 = 0 ∧ ((0 ≤ i ∧ i < (N : Int)) ∧ ((zd (Nat.land (zi (xs (i : Int).toNat).toInt) (zi 63)) < 0 → K (rx_find rx_mL 1120) [(3, .inl i), (2, .inr (.inr (.inl 170))), (1, .inr (.inr (.inl 0))), (0, .inr (.inr (.inr 0)))] [] st) ∧ (35 < zd (Nat.land (zi (xs (i : Int).toNat).toInt) (zi 63)) → K (rx_find rx_mL 1120) [(3, .inl i), (2, .inr (.inr (.inl 170))), (1, .inr (.inr (.inl 0))), (0, .inr (.inr (.inr 0)))] [] st) ∧ (zd (Nat.land (zi (xs (i : Int).toNat).toInt) (zi 63)) = 0 → K (rx_find rx_mL 192) [(3, .inl i), (2, .inr (.inr (.inl 170))), (1, .inr (.inr (.inl 0))), (0, .inr (.inr (.inr 0)))] [] st) ∧ (zd (Nat.land (zi (xs (i : Int).toNat).toInt) (zi 63)) = 1 → K (rx_find rx_mL 255) [(3, .inl i), (2, .inr (.inr (.inl 170))), (1, .inr (.inr (.inl 0))), (0, .inr (.inr (.inr 0)))] [] st) ∧ (zd (Nat.land (zi (xs (i : Int).toNat).toInt) (zi 63)) = 2 → K (rx_find rx_mL 278) [(3, .inl i), (2, .inr (.inr (.inl 170))), (1, .inr (.inr (.inl 0))), (0, .inr (.inr (.inr 0)))] [] st) ∧ (zd (Nat.land (zi (xs (i : Int).toNat).toInt) (zi 63)) = 3 → K (rx_find rx_mL 291) [(3, .inl i), (2, .inr (.inr (.inl 170))), (1, .inr (.inr (.inl 0))), (0, .inr (.inr (.inr 0)))] [] st) ∧ (zd (Nat.land (zi (xs (i : Int).toNat).toInt) (zi 63)) = 4 → K (rx_find rx_mL 314) [(3, .inl i), (2, .inr (.inr (.inl 170))), (1, .inr (.inr (.inl 0))), (0, .inr (.inr (.inr 0)))] [] st) ∧ (zd (Nat.land (zi (xs (i : Int).toNat).toInt) (zi 63)) = 5 → K (rx_find rx_mL 337) [(3, .inl i), (2, .inr (.inr (.inl 170))), (1, .inr (.inr (.inl 0))), (0, .inr (.inr (.inr 0)))] [] st) ∧ (zd (Nat.land (zi (xs (i : Int).toNat).toInt) (zi 63)) = 6 → K (rx_find rx_mL 380) [(3, .inl i), (2, .inr (.inr (.inl 170))), (1, .inr (.inr (.inl 0))), (0, .inr (.inr (.inr 0)))] [] st) ∧ (zd (Nat.land (zi (xs (i : Int).toNat).toInt) (zi 63)) = 7 → K (rx_find rx_mL 413) [(3, .inl i), (2, .inr (.inr (.inl 170))), (1, .inr (.inr (.inl 0))), (0, .inr (.inr (.inr 0)))] [] st) ∧ (zd (Nat.land (zi (xs (i : Int).toNat).toInt) (zi 63)) = 8 → K (rx_find rx_mL 446) [(3, .inl i), (2, .inr (.inr (.inl 170))), (1, .inr (.inr (.inl 0))), (0, .inr (.inr (.inr 0)))] [] st) ∧ (zd (Nat.land (zi (xs (i : Int).toNat).toInt) (zi 63)) = 9 → K (rx_find rx_mL 479) [(3, .inl i), (2, .inr (.inr (.inl 170))), (1, .inr (.inr (.inl 0))), (0, .inr (.inr (.inr 0)))] [] st) ∧ (zd (Nat.land (zi (xs (i : Int).toNat).toInt) (zi 63)) = 10 → K (rx_find rx_mL 512) [(3, .inl i), (2, .inr (.inr (.inl 170))), (1, .inr (.inr (.inl 0))), (0, .inr (.inr (.inr 0)))] [] st) ∧ (zd (Nat.land (zi (xs (i : Int).toNat).toInt) (zi 63)) = 11 → K (rx_find rx_mL 535) [(3, .inl i), (2, .inr (.inr (.inl 170))), (1, .inr (.inr (.inl 0))), (0, .inr (.inr (.inr 0)))] [] st) ∧ (zd (Nat.land (zi (xs (i : Int).toNat).toInt) (zi 63)) = 12 → K (rx_find rx_mL 568) [(3, .inl i), (2, .inr (.inr (.inl 170))), (1, .inr (.inr (.inl 0))), (0, .inr (.inr (.inr 0)))] [] st) ∧ (zd (Nat.land (zi (xs (i : Int).toNat).toInt) (zi 63)) = 13 → K (rx_find rx_mL 581) [(3, .inl i), (2, .inr (.inr (.inl 170))), (1, .inr (.inr (.inl 0))), (0, .inr (.inr (.inr 0)))] [] st) ∧ (zd (Nat.land (zi (xs (i : Int).toNat).toInt) (zi 63)) = 14 → K (rx_find rx_mL 604) [(3, .inl i), (2, .inr (.inr (.inl 170))), (1, .inr (.inr (.inl 0))), (0, .inr (.inr (.inr 0)))] [] st) ∧ (zd (Nat.land (zi (xs (i : Int).toNat).toInt) (zi 63)) = 15 → K (rx_find rx_mL 627) [(3, .inl i), (2, .inr (.inr (.inl 170))), (1, .inr (.inr (.inl 0))), (0, .inr (.inr (.inr 0)))] [] st) ∧ (zd (Nat.land (zi (xs (i : Int).toNat).toInt) (zi 63)) = 16 → K (rx_find rx_mL 650) [(3, .inl i), (2, .inr (.inr (.inl 170))), (1, .inr (.inr (.inl 0))), (0, .inr (.inr (.inr 0)))] [] st) ∧ (zd (Nat.land (zi (xs (i : Int).toNat).toInt) (zi 63)) = 17 → K (rx_find rx_mL 683) [(3, .inl i), (2, .inr (.inr (.inl 170))), (1, .inr (.inr (.inl 0))), (0, .inr (.inr (.inr 0)))] [] st) ∧ (zd (Nat.land (zi (xs (i : Int).toNat).toInt) (zi 63)) = 18 → K (rx_find rx_mL 706) [(3, .inl i), (2, .inr (.inr (.inl 170))), (1, .inr (.inr (.inl 0))), (0, .inr (.inr (.inr 0)))] [] st) ∧ (zd (Nat.land (zi (xs (i : Int).toNat).toInt) (zi 63)) = 19 → K (rx_find rx_mL 719) [(3, .inl i), (2, .inr (.inr (.inl 170))), (1, .inr (.inr (.inl 0))), (0, .inr (.inr (.inr 0)))] [] st) ∧ (zd (Nat.land (zi (xs (i : Int).toNat).toInt) (zi 63)) = 20 → K (rx_find rx_mL 732) [(3, .inl i), (2, .inr (.inr (.inl 170))), (1, .inr (.inr (.inl 0))), (0, .inr (.inr (.inr 0)))] [] st) ∧ (zd (Nat.land (zi (xs (i : Int).toNat).toInt) (zi 63)) = 21 → K (rx_find rx_mL 755) [(3, .inl i), (2, .inr (.inr (.inl 170))), (1, .inr (.inr (.inl 0))), (0, .inr (.inr (.inr 0)))] [] st) ∧ (zd (Nat.land (zi (xs (i : Int).toNat).toInt) (zi 63)) = 22 → K (rx_find rx_mL 788) [(3, .inl i), (2, .inr (.inr (.inl 170))), (1, .inr (.inr (.inl 0))), (0, .inr (.inr (.inr 0)))] [] st) ∧ (zd (Nat.land (zi (xs (i : Int).toNat).toInt) (zi 63)) = 23 → K (rx_find rx_mL 821) [(3, .inl i), (2, .inr (.inr (.inl 170))), (1, .inr (.inr (.inl 0))), (0, .inr (.inr (.inr 0)))] [] st) ∧ (zd (Nat.land (zi (xs (i : Int).toNat).toInt) (zi 63)) = 24 → K (rx_find rx_mL 844) [(3, .inl i), (2, .inr (.inr (.inl 170))), (1, .inr (.inr (.inl 0))), (0, .inr (.inr (.inr 0)))] [] st) ∧ (zd (Nat.land (zi (xs (i : Int).toNat).toInt) (zi 63)) = 25 → K (rx_find rx_mL 867) [(3, .inl i), (2, .inr (.inr (.inl 170))), (1, .inr (.inr (.inl 0))), (0, .inr (.inr (.inr 0)))] [] st) ∧ (zd (Nat.land (zi (xs (i : Int).toNat).toInt) (zi 63)) = 26 → K (rx_find rx_mL 900) [(3, .inl i), (2, .inr (.inr (.inl 170))), (1, .inr (.inr (.inl 0))), (0, .inr (.inr (.inr 0)))] [] st) ∧ (zd (Nat.land (zi (xs (i : Int).toNat).toInt) (zi 63)) = 27 → K (rx_find rx_mL 933) [(3, .inl i), (2, .inr (.inr (.inl 170))), (1, .inr (.inr (.inl 0))), (0, .inr (.inr (.inr 0)))] [] st) ∧ (zd (Nat.land (zi (xs (i : Int).toNat).toInt) (zi 63)) = 28 → K (rx_find rx_mL 966) [(3, .inl i), (2, .inr (.inr (.inl 170))), (1, .inr (.inr (.inl 0))), (0, .inr (.inr (.inr 0)))] [] st) ∧ (zd (Nat.land (zi (xs (i : Int).toNat).toInt) (zi 63)) = 29 → K (rx_find rx_mL 979) [(3, .inl i), (2, .inr (.inr (.inl 170))), (1, .inr (.inr (.inl 0))), (0, .inr (.inr (.inr 0)))] [] st) ∧ (zd (Nat.land (zi (xs (i : Int).toNat).toInt) (zi 63)) = 30 → K (rx_find rx_mL 992) [(3, .inl i), (2, .inr (.inr (.inl 170))), (1, .inr (.inr (.inl 0))), (0, .inr (.inr (.inr 0)))] [] st) ∧ (zd (Nat.land (zi (xs (i : Int).toNat).toInt) (zi 63)) = 31 → K (rx_find rx_mL 1015) [(3, .inl i), (2, .inr (.inr (.inl 170))), (1, .inr (.inr (.inl 0))), (0, .inr (.inr (.inr 0)))] [] st) ∧ (zd (Nat.land (zi (xs (i : Int).toNat).toInt) (zi 63)) = 32 → K (rx_find rx_mL 1048) [(3, .inl i), (2, .inr (.inr (.inl 170))), (1, .inr (.inr (.inl 0))), (0, .inr (.inr (.inr 0)))] [] st) ∧ (zd (Nat.land (zi (xs (i : Int).toNat).toInt) (zi 63)) = 33 → K (rx_find rx_mL 1061) [(3, .inl i), (2, .inr (.inr (.inl 170))), (1, .inr (.inr (.inl 0))), (0, .inr (.inr (.inr 0)))] [] st) ∧ (zd (Nat.land (zi (xs (i : Int).toNat).toInt) (zi 63)) = 34 → K (rx_find rx_mL 1084) [(3, .inl i), (2, .inr (.inr (.inl 170))), (1, .inr (.inr (.inl 0))), (0, .inr (.inr (.inr 0)))] [] st) ∧ (zd (Nat.land (zi (xs (i : Int).toNat).toInt) (zi 63)) = 35 → K (rx_find rx_mL 1097) [(3, .inl i), (2, .inr (.inr (.inl 170))), (1, .inr (.inr (.inl 0))), (0, .inr (.inr (.inr 0)))] [] st) ∧ True)))))))
      exact ⟨rfl, ⟨by omega, by omega⟩, fun z => rfl, fun _ => ⟨rfl, ⟨by omega, by omega⟩, fun _ => hd, fun _ => hd, fun _ => lcase0 hTb hcl h0 h1 hN hI ih, fun _ => lcase1 hTb hcl h0 h1 hN hI ih, fun _ => lcase2 hTb hcl h0 h1 hN hI ih, fun _ => lcase3 hTb hcl h0 h1 hN hI ih, fun _ => lcase4 hTb hcl h0 h1 hN hI ih, fun _ => lcase5 hTb hcl h0 h1 hN hI ih, fun _ => lcase6 hTb hcl h0 h1 hN hI ih, fun _ => lcase7 hTb hcl h0 h1 hN hI ih, fun _ => lcase8 hTb hcl h0 h1 hN hI ih, fun _ => lcase9 hTb hcl h0 h1 hN hI ih, fun _ => lcase10 hTb hcl h0 h1 hN hI ih, fun _ => lcase11 hTb hcl h0 h1 hN hI ih, fun _ => lcase12 hTb hcl h0 h1 hN hI ih, fun _ => lcase13 hTb hcl h0 h1 hN hI ih, fun _ => lcase14 hTb hcl h0 h1 hN hI ih, fun _ => lcase15 hTb hcl h0 h1 hN hI ih, fun _ => lcase16 hTb hcl h0 h1 hN hI ih, fun _ => lcase17 hTb hcl h0 h1 hN hI ih, fun _ => lcase18 hTb hcl h0 h1 hN hI ih, fun _ => lcase19 hTb hcl h0 h1 hN hI ih, fun _ => lcase20 hTb hcl h0 h1 hN hI ih, fun _ => lcase21 hTb hcl h0 h1 hN hI ih, fun _ => lcase22 hTb hcl h0 h1 hN hI ih, fun _ => lcase23 hTb hcl h0 h1 hN hI ih, fun _ => lcase24 hTb hcl h0 h1 hN hI ih, fun _ => lcase25 hTb hcl h0 h1 hN hI ih, fun _ => lcase26 hTb hcl h0 h1 hN hI ih, fun _ => lcase27 hTb hcl h0 h1 hN hI ih, fun _ => lcase28 hTb hcl h0 h1 hN hI ih, fun _ => lcase29 hTb hcl h0 h1 hN hI ih, fun _ => lcase30 hTb hcl h0 h1 hN hI ih, fun _ => lcase31 hTb hcl h0 h1 hN hI ih, fun _ => lcase32 hTb hcl h0 h1 hN hI ih, fun _ => lcase33 hTb hcl h0 h1 hN hI ih, fun _ => lcase34 hTb hcl h0 h1 hN hI ih, fun _ => lcase35 hTb hcl h0 h1 hN hI ih, True.intro⟩⟩
    · refine lr1_ok (wc := wcL []) (stp := [1120, 192, 255, 278, 291, 314, 337, 380, 413, 446, 479, 512, 535, 568, 581, 604, 627, 650, 683, 706, 719, 732, 755, 788, 821, 844, 867, 900, 933, 966, 979, 992, 1015, 1048, 1061, 1084, 1097]) hcm hcl 20 ?_
      show (0 = 0 ∧ ((-2147483648 ≤ (N : Int) - 6 ∧ (N : Int) - 6 ≤ 2147483647) ∧ (((N : Int) - 6 < i → ((1 : Int) = 1)) ∧ (¬ ((N : Int) - 6 < i) → (0 = 0 ∧ ((0 ≤ i ∧ i < (N : Int)) ∧ ((zd (Nat.land (zi (xs (i : Int).toNat).toInt) (zi 63)) < 0 → K (rx_find rx_mL 1120) [(3, .inl i), (2, .inr (.inr (.inl 170))), (1, .inr (.inr (.inl 0))), (0, .inr (.inr (.inr 0)))] [] st) ∧ (35 < zd (Nat.land (zi (xs (i : Int).toNat).toInt) (zi 63)) → K (rx_find rx_mL 1120) [(3, .inl i), (2, .inr (.inr (.inl 170))), (1, .inr (.inr (.inl 0))), (0, .inr (.inr (.inr 0)))] [] st) ∧ (zd (Nat.land (zi (xs (i : Int).toNat).toInt) (zi 63)) = 0 → K (rx_find rx_mL 192) [(3, .inl i), (2, .inr (.inr (.inl 170))), (1, .inr (.inr (.inl 0))), (0, .inr (.inr (.inr 0)))] [] st) ∧ (zd (Nat.land (zi (xs (i : Int).toNat).toInt) (zi 63)) = 1 → K (rx_find rx_mL 255) [(3, .inl i), (2, .inr (.inr (.inl 170))), (1, .inr (.inr (.inl 0))), (0, .inr (.inr (.inr 0)))] [] st) ∧ (zd (Nat.land (zi (xs (i : Int).toNat).toInt) (zi 63)) = 2 → K (rx_find rx_mL 278) [(3, .inl i), (2, .inr (.inr (.inl 170))), (1, .inr (.inr (.inl 0))), (0, .inr (.inr (.inr 0)))] [] st) ∧ (zd (Nat.land (zi (xs (i : Int).toNat).toInt) (zi 63)) = 3 → K (rx_find rx_mL 291) [(3, .inl i), (2, .inr (.inr (.inl 170))), (1, .inr (.inr (.inl 0))), (0, .inr (.inr (.inr 0)))] [] st) ∧ (zd (Nat.land (zi (xs (i : Int).toNat).toInt) (zi 63)) = 4 → K (rx_find rx_mL 314) [(3, .inl i), (2, .inr (.inr (.inl 170))), (1, .inr (.inr (.inl 0))), (0, .inr (.inr (.inr 0)))] [] st) ∧ (zd (Nat.land (zi (xs (i : Int).toNat).toInt) (zi 63)) = 5 → K (rx_find rx_mL 337) [(3, .inl i), (2, .inr (.inr (.inl 170))), (1, .inr (.inr (.inl 0))), (0, .inr (.inr (.inr 0)))] [] st) ∧ (zd (Nat.land (zi (xs (i : Int).toNat).toInt) (zi 63)) = 6 → K (rx_find rx_mL 380) [(3, .inl i), (2, .inr (.inr (.inl 170))), (1, .inr (.inr (.inl 0))), (0, .inr (.inr (.inr 0)))] [] st) ∧ (zd (Nat.land (zi (xs (i : Int).toNat).toInt) (zi 63)) = 7 → K (rx_find rx_mL 413) [(3, .inl i), (2, .inr (.inr (.inl 170))), (1, .inr (.inr (.inl 0))), (0, .inr (.inr (.inr 0)))] [] st) ∧ (zd (Nat.land (zi (xs (i : Int).toNat).toInt) (zi 63)) = 8 → K (rx_find rx_mL 446) [(3, .inl i), (2, .inr (.inr (.inl 170))), (1, .inr (.inr (.inl 0))), (0, .inr (.inr (.inr 0)))] [] st) ∧ (zd (Nat.land (zi (xs (i : Int).toNat).toInt) (zi 63)) = 9 → K (rx_find rx_mL 479) [(3, .inl i), (2, .inr (.inr (.inl 170))), (1, .inr (.inr (.inl 0))), (0, .inr (.inr (.inr 0)))] [] st) ∧ (zd (Nat.land (zi (xs (i : Int).toNat).toInt) (zi 63)) = 10 → K (rx_find rx_mL 512) [(3, .inl i), (2, .inr (.inr (.inl 170))), (1, .inr (.inr (.inl 0))), (0, .inr (.inr (.inr 0)))] [] st) ∧ (zd (Nat.land (zi (xs (i : Int).toNat).toInt) (zi 63)) = 11 → K (rx_find rx_mL 535) [(3, .inl i), (2, .inr (.inr (.inl 170))), (1, .inr (.inr (.inl 0))), (0, .inr (.inr (.inr 0)))] [] st) ∧ (zd (Nat.land (zi (xs (i : Int).toNat).toInt) (zi 63)) = 12 → K (rx_find rx_mL 568) [(3, .inl i), (2, .inr (.inr (.inl 170))), (1, .inr (.inr (.inl 0))), (0, .inr (.inr (.inr 0)))] [] st) ∧ (zd (Nat.land (zi (xs (i : Int).toNat).toInt) (zi 63)) = 13 → K (rx_find rx_mL 581) [(3, .inl i), (2, .inr (.inr (.inl 170))), (1, .inr (.inr (.inl 0))), (0, .inr (.inr (.inr 0)))] [] st) ∧ (zd (Nat.land (zi (xs (i : Int).toNat).toInt) (zi 63)) = 14 → K (rx_find rx_mL 604) [(3, .inl i), (2, .inr (.inr (.inl 170))), (1, .inr (.inr (.inl 0))), (0, .inr (.inr (.inr 0)))] [] st) ∧ (zd (Nat.land (zi (xs (i : Int).toNat).toInt) (zi 63)) = 15 → K (rx_find rx_mL 627) [(3, .inl i), (2, .inr (.inr (.inl 170))), (1, .inr (.inr (.inl 0))), (0, .inr (.inr (.inr 0)))] [] st) ∧ (zd (Nat.land (zi (xs (i : Int).toNat).toInt) (zi 63)) = 16 → K (rx_find rx_mL 650) [(3, .inl i), (2, .inr (.inr (.inl 170))), (1, .inr (.inr (.inl 0))), (0, .inr (.inr (.inr 0)))] [] st) ∧ (zd (Nat.land (zi (xs (i : Int).toNat).toInt) (zi 63)) = 17 → K (rx_find rx_mL 683) [(3, .inl i), (2, .inr (.inr (.inl 170))), (1, .inr (.inr (.inl 0))), (0, .inr (.inr (.inr 0)))] [] st) ∧ (zd (Nat.land (zi (xs (i : Int).toNat).toInt) (zi 63)) = 18 → K (rx_find rx_mL 706) [(3, .inl i), (2, .inr (.inr (.inl 170))), (1, .inr (.inr (.inl 0))), (0, .inr (.inr (.inr 0)))] [] st) ∧ (zd (Nat.land (zi (xs (i : Int).toNat).toInt) (zi 63)) = 19 → K (rx_find rx_mL 719) [(3, .inl i), (2, .inr (.inr (.inl 170))), (1, .inr (.inr (.inl 0))), (0, .inr (.inr (.inr 0)))] [] st) ∧ (zd (Nat.land (zi (xs (i : Int).toNat).toInt) (zi 63)) = 20 → K (rx_find rx_mL 732) [(3, .inl i), (2, .inr (.inr (.inl 170))), (1, .inr (.inr (.inl 0))), (0, .inr (.inr (.inr 0)))] [] st) ∧ (zd (Nat.land (zi (xs (i : Int).toNat).toInt) (zi 63)) = 21 → K (rx_find rx_mL 755) [(3, .inl i), (2, .inr (.inr (.inl 170))), (1, .inr (.inr (.inl 0))), (0, .inr (.inr (.inr 0)))] [] st) ∧ (zd (Nat.land (zi (xs (i : Int).toNat).toInt) (zi 63)) = 22 → K (rx_find rx_mL 788) [(3, .inl i), (2, .inr (.inr (.inl 170))), (1, .inr (.inr (.inl 0))), (0, .inr (.inr (.inr 0)))] [] st) ∧ (zd (Nat.land (zi (xs (i : Int).toNat).toInt) (zi 63)) = 23 → K (rx_find rx_mL 821) [(3, .inl i), (2, .inr (.inr (.inl 170))), (1, .inr (.inr (.inl 0))), (0, .inr (.inr (.inr 0)))] [] st) ∧ (zd (Nat.land (zi (xs (i : Int).toNat).toInt) (zi 63)) = 24 → K (rx_find rx_mL 844) [(3, .inl i), (2, .inr (.inr (.inl 170))), (1, .inr (.inr (.inl 0))), (0, .inr (.inr (.inr 0)))] [] st) ∧ (zd (Nat.land (zi (xs (i : Int).toNat).toInt) (zi 63)) = 25 → K (rx_find rx_mL 867) [(3, .inl i), (2, .inr (.inr (.inl 170))), (1, .inr (.inr (.inl 0))), (0, .inr (.inr (.inr 0)))] [] st) ∧ (zd (Nat.land (zi (xs (i : Int).toNat).toInt) (zi 63)) = 26 → K (rx_find rx_mL 900) [(3, .inl i), (2, .inr (.inr (.inl 170))), (1, .inr (.inr (.inl 0))), (0, .inr (.inr (.inr 0)))] [] st) ∧ (zd (Nat.land (zi (xs (i : Int).toNat).toInt) (zi 63)) = 27 → K (rx_find rx_mL 933) [(3, .inl i), (2, .inr (.inr (.inl 170))), (1, .inr (.inr (.inl 0))), (0, .inr (.inr (.inr 0)))] [] st) ∧ (zd (Nat.land (zi (xs (i : Int).toNat).toInt) (zi 63)) = 28 → K (rx_find rx_mL 966) [(3, .inl i), (2, .inr (.inr (.inl 170))), (1, .inr (.inr (.inl 0))), (0, .inr (.inr (.inr 0)))] [] st) ∧ (zd (Nat.land (zi (xs (i : Int).toNat).toInt) (zi 63)) = 29 → K (rx_find rx_mL 979) [(3, .inl i), (2, .inr (.inr (.inl 170))), (1, .inr (.inr (.inl 0))), (0, .inr (.inr (.inr 0)))] [] st) ∧ (zd (Nat.land (zi (xs (i : Int).toNat).toInt) (zi 63)) = 30 → K (rx_find rx_mL 992) [(3, .inl i), (2, .inr (.inr (.inl 170))), (1, .inr (.inr (.inl 0))), (0, .inr (.inr (.inr 0)))] [] st) ∧ (zd (Nat.land (zi (xs (i : Int).toNat).toInt) (zi 63)) = 31 → K (rx_find rx_mL 1015) [(3, .inl i), (2, .inr (.inr (.inl 170))), (1, .inr (.inr (.inl 0))), (0, .inr (.inr (.inr 0)))] [] st) ∧ (zd (Nat.land (zi (xs (i : Int).toNat).toInt) (zi 63)) = 32 → K (rx_find rx_mL 1048) [(3, .inl i), (2, .inr (.inr (.inl 170))), (1, .inr (.inr (.inl 0))), (0, .inr (.inr (.inr 0)))] [] st) ∧ (zd (Nat.land (zi (xs (i : Int).toNat).toInt) (zi 63)) = 33 → K (rx_find rx_mL 1061) [(3, .inl i), (2, .inr (.inr (.inl 170))), (1, .inr (.inr (.inl 0))), (0, .inr (.inr (.inr 0)))] [] st) ∧ (zd (Nat.land (zi (xs (i : Int).toNat).toInt) (zi 63)) = 34 → K (rx_find rx_mL 1084) [(3, .inl i), (2, .inr (.inr (.inl 170))), (1, .inr (.inr (.inl 0))), (0, .inr (.inr (.inr 0)))] [] st) ∧ (zd (Nat.land (zi (xs (i : Int).toNat).toInt) (zi 63)) = 35 → K (rx_find rx_mL 1097) [(3, .inl i), (2, .inr (.inr (.inl 170))), (1, .inr (.inr (.inl 0))), (0, .inr (.inr (.inr 0)))] [] st) ∧ True)))))))
      exact ⟨rfl, ⟨by omega, by omega⟩, fun z => rfl, fun z => absurd (show (N : Int) - 6 < i by omega) z⟩
end LCS
