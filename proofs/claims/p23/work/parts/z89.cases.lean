/-! printed by wip/p4/py/lw.py: the law's cases -/
section LCS
variable {cl : Nat → zCall} {N : Nat} {xs : Nat → Int32} {K : zG}
set_option maxRecDepth 100000 in
set_option maxHeartbeats 4000000 in
theorem lcase0 (hTb : aTb zSh rx_tb cl) (hcl : lcl N xs (cl 200) K) {i : Int} (h0 : 0 ≤ i) (h1 : i + 6 ≤ (N : Int)) (hN : N ≤ 3072) {st : zS} (hI : zT st) (ih : ∀ s1, zT s1 → K (rx_find rx_mL 18) [(3, .inl (i + 6)), (2, .inr (.inr (.inl 170))), (1, .inr (.inr (.inl 0))), (0, .inr (.inr (.inr 0)))] [] s1) : K (rx_find rx_mL 192) [(3, .inl i), (2, .inr (.inr (.inl 170))), (1, .inr (.inr (.inl 0))), (0, .inr (.inr (.inr 0)))] [] st := by
  have hcm : zmo (wcL [(138, k_bFeed), (139, k_dFeed)]) (cl 200) := wcL_m (wm_cons (k_bFeed_m hTb (by omega)) (wm_cons (k_dFeed_m hTb (by omega)) wm_nil))
  refine lr1_ok (wc := (wcL [(138, k_bFeed), (139, k_dFeed)])) (stp := [18]) hcm hcl 80 ?_
  show ((-2147483648 ≤ i + (1 : Int) ∧ i + (1 : Int) ≤ 2147483647) ∧ (0 = 0 ∧ ((0 ≤ i + (1 : Int) ∧ i + (1 : Int) < (N : Int)) ∧ ((-2147483648 ≤ i + (2 : Int) ∧ i + (2 : Int) ≤ 2147483647) ∧ (0 = 0 ∧ ((0 ≤ i + (2 : Int) ∧ i + (2 : Int) < (N : Int)) ∧ ((-2147483648 ≤ i + (3 : Int) ∧ i + (3 : Int) ≤ 2147483647) ∧ (0 = 0 ∧ ((0 ≤ i + (3 : Int) ∧ i + (3 : Int) < (N : Int)) ∧ ((-2147483648 ≤ i + (4 : Int) ∧ i + (4 : Int) ≤ 2147483647) ∧ (0 = 0 ∧ ((0 ≤ i + (4 : Int) ∧ i + (4 : Int) < (N : Int)) ∧ ((-2147483648 ≤ i + (5 : Int) ∧ i + (5 : Int) ≤ 2147483647) ∧ (0 = 0 ∧ ((0 ≤ i + (5 : Int) ∧ i + (5 : Int) < (N : Int)) ∧ (0 = 0 ∧ (rq_bFeed ((xs (i + (1 : Int) : Int).toNat).toInt) ((xs (i + (2 : Int) : Int).toNat).toInt) ((xs (i + (3 : Int) : Int).toNat).toInt) ((xs (i + (4 : Int) : Int).toNat).toInt) ((xs (i + (5 : Int) : Int).toNat).toInt) st ∧ (∀ (r1 : Int) (s1 : zS), en_bFeed ((xs (i + (1 : Int) : Int).toNat).toInt) ((xs (i + (2 : Int) : Int).toNat).toInt) ((xs (i + (3 : Int) : Int).toNat).toInt) ((xs (i + (4 : Int) : Int).toNat).toInt) ((xs (i + (5 : Int) : Int).toNat).toInt) st r1 s1 → ((-2147483648 ≤ i + (1 : Int) ∧ i + (1 : Int) ≤ 2147483647) ∧ (0 = 0 ∧ ((0 ≤ i + (1 : Int) ∧ i + (1 : Int) < (N : Int)) ∧ ((-2147483648 ≤ i + (2 : Int) ∧ i + (2 : Int) ≤ 2147483647) ∧ (0 = 0 ∧ ((0 ≤ i + (2 : Int) ∧ i + (2 : Int) < (N : Int)) ∧ ((-2147483648 ≤ i + (3 : Int) ∧ i + (3 : Int) ≤ 2147483647) ∧ (0 = 0 ∧ ((0 ≤ i + (3 : Int) ∧ i + (3 : Int) < (N : Int)) ∧ ((-2147483648 ≤ i + (4 : Int) ∧ i + (4 : Int) ≤ 2147483647) ∧ (0 = 0 ∧ ((0 ≤ i + (4 : Int) ∧ i + (4 : Int) < (N : Int)) ∧ ((-2147483648 ≤ i + (5 : Int) ∧ i + (5 : Int) ≤ 2147483647) ∧ (0 = 0 ∧ ((0 ≤ i + (5 : Int) ∧ i + (5 : Int) < (N : Int)) ∧ (170 = 170 ∧ (rq_dFeed ((xs (i + (1 : Int) : Int).toNat).toInt) ((xs (i + (2 : Int) : Int).toNat).toInt) ((xs (i + (3 : Int) : Int).toNat).toInt) ((xs (i + (4 : Int) : Int).toNat).toInt) ((xs (i + (5 : Int) : Int).toNat).toInt) s1 ∧ (∀ (r2 : Int) (s2 : zS), en_dFeed ((xs (i + (1 : Int) : Int).toNat).toInt) ((xs (i + (2 : Int) : Int).toNat).toInt) ((xs (i + (3 : Int) : Int).toNat).toInt) ((xs (i + (4 : Int) : Int).toNat).toInt) ((xs (i + (5 : Int) : Int).toNat).toInt) s1 r2 s2 → ((-2147483648 ≤ i + 6 ∧ i + 6 ≤ 2147483647) ∧ K (rx_find rx_mL 18) [(3, .inl (i + 6)), (2, .inr (.inr (.inl 170))), (1, .inr (.inr (.inl 0))), (0, .inr (.inr (.inr 0)))] [] s2)))))))))))))))))))))))))))))))))))))
  refine ⟨⟨by omega, by omega⟩, ?_⟩
  refine ⟨rfl, ⟨by omega, by omega⟩, ?_⟩
  refine ⟨⟨by omega, by omega⟩, ?_⟩
  refine ⟨rfl, ⟨by omega, by omega⟩, ?_⟩
  refine ⟨⟨by omega, by omega⟩, ?_⟩
  refine ⟨rfl, ⟨by omega, by omega⟩, ?_⟩
  refine ⟨⟨by omega, by omega⟩, ?_⟩
  refine ⟨rfl, ⟨by omega, by omega⟩, ?_⟩
  refine ⟨⟨by omega, by omega⟩, ?_⟩
  refine ⟨rfl, ⟨by omega, by omega⟩, ?_⟩
  refine ⟨rfl, hI.1, fun r1 s1 q1 => ?_⟩
  refine ⟨⟨by omega, by omega⟩, ?_⟩
  refine ⟨rfl, ⟨by omega, by omega⟩, ?_⟩
  refine ⟨⟨by omega, by omega⟩, ?_⟩
  refine ⟨rfl, ⟨by omega, by omega⟩, ?_⟩
  refine ⟨⟨by omega, by omega⟩, ?_⟩
  refine ⟨rfl, ⟨by omega, by omega⟩, ?_⟩
  refine ⟨⟨by omega, by omega⟩, ?_⟩
  refine ⟨rfl, ⟨by omega, by omega⟩, ?_⟩
  refine ⟨⟨by omega, by omega⟩, ?_⟩
  refine ⟨rfl, ⟨by omega, by omega⟩, ?_⟩
  refine ⟨rfl, ⟨q1.1, q1.2.2.1⟩, fun r2 s2 q2 => ?_⟩
  have z5 : st 1 1 = st 170 1 := hI.2.1
  have z2 : s1 170 1 = st 170 1 := q1.2.1 170 1 rfl rfl
  have z4 : s2 1 1 = s1 1 1 := q2.2.1 1 1 rfl rfl
  have z1 := q1.2.2.2.1
  have z3 := q2.2.2.2.1
  have hO : zO4 s2 := zO4_fr q1.1 q2.2.1 (fun _ => rfl) rfl rfl rfl rfl rfl rfl rfl ⟨q2.2.1 115 5 rfl rfl, fun i => q2.2.1 116 i rfl rfl, fun i => q2.2.1 117 i rfl rfl, q2.2.1 170 71 rfl rfl, fun i => q2.2.1 216 i rfl rfl, fun i => q2.2.1 217 i rfl rfl⟩ (zO4_fr hI.1.1 q1.2.1 (fun _ => rfl) rfl rfl rfl rfl rfl rfl rfl ⟨q1.2.1 115 5 rfl rfl, fun i => q1.2.1 116 i rfl rfl, fun i => q1.2.1 117 i rfl rfl, q1.2.1 170 71 rfl rfl, fun i => q1.2.1 216 i rfl rfl, fun i => q1.2.1 217 i rfl rfl⟩ hI.2.2.2)
  have e2 : s2 2 = s1 2 := funext (fun i => q2.2.1 2 i rfl rfl)
  have e171 : s1 171 = st 171 := funext (fun i => q1.2.1 171 i rfl rfl)
  have hn := (g_tsize hI.1.1).1
  have hT : TA (s2 171) (s2 2) (s2 1 1) := by
    by_cases hs : st 1 1 ≤ 1580
    · have f1 := q1.2.2.2.2.1 hs
      have f2 := q2.2.2.2.2.1 (by omega)
      rw [e171, z2, ← z5] at f2
      have z6 := TA_fd hn hI.2.2.1 f2 f1
      rw [e2, show s2 1 1 = st 1 1 + 20 from by omega]
      exact z6
    · have f1 := q1.2.2.2.2.2 (by omega)
      have f2 := q2.2.2.2.2.2 (by omega)
      rw [show s2 1 1 = st 1 1 from by omega, e2]
      exact TA_e hI.2.2.1 (fun i => (f2 i).trans (by rw [e171])) f1 (Int.le_refl _)
  refine ⟨⟨by omega, by omega⟩, ?_⟩
  exact ih s2 ⟨⟨q2.1, q2.2.2.1⟩, by omega, hT, hO⟩
set_option maxRecDepth 100000 in
set_option maxHeartbeats 4000000 in
theorem lcase1 (hTb : aTb zSh rx_tb cl) (hcl : lcl N xs (cl 200) K) {i : Int} (h0 : 0 ≤ i) (h1 : i + 6 ≤ (N : Int)) (hN : N ≤ 3072) {st : zS} (hI : zT st) (ih : ∀ s1, zT s1 → K (rx_find rx_mL 18) [(3, .inl (i + 6)), (2, .inr (.inr (.inl 170))), (1, .inr (.inr (.inl 0))), (0, .inr (.inr (.inr 0)))] [] s1) : K (rx_find rx_mL 255) [(3, .inl i), (2, .inr (.inr (.inl 170))), (1, .inr (.inr (.inl 0))), (0, .inr (.inr (.inr 0)))] [] st := by
  have hcm : zmo (wcL [(88, k_bEnd), (105, k_end)]) (cl 200) := wcL_m (wm_cons (k_bEnd_m hTb (by omega)) (wm_cons (k_end_m hTb (by omega)) wm_nil))
  refine lr1_ok (wc := (wcL [(88, k_bEnd), (105, k_end)])) (stp := [18]) hcm hcl 80 ?_
  show ((-2147483648 ≤ i + (1 : Int) ∧ i + (1 : Int) ≤ 2147483647) ∧ (0 = 0 ∧ ((0 ≤ i + (1 : Int) ∧ i + (1 : Int) < (N : Int)) ∧ (0 = 0 ∧ (rq_bEnd ((xs (i + (1 : Int) : Int).toNat).toInt) st ∧ (∀ (r1 : Int) (s1 : zS), en_bEnd ((xs (i + (1 : Int) : Int).toNat).toInt) st r1 s1 → ((-2147483648 ≤ i + (1 : Int) ∧ i + (1 : Int) ≤ 2147483647) ∧ (0 = 0 ∧ ((0 ≤ i + (1 : Int) ∧ i + (1 : Int) < (N : Int)) ∧ (170 = 170 ∧ (rq_end ((xs (i + (1 : Int) : Int).toNat).toInt) s1 ∧ (∀ (r2 : Int) (s2 : zS), en_end ((xs (i + (1 : Int) : Int).toNat).toInt) s1 r2 s2 → ((-2147483648 ≤ i + 6 ∧ i + 6 ≤ 2147483647) ∧ K (rx_find rx_mL 18) [(3, .inl (i + 6)), (2, .inr (.inr (.inl 170))), (1, .inr (.inr (.inl 0))), (0, .inr (.inr (.inr 0)))] [] s2)))))))))))))
  refine ⟨⟨by omega, by omega⟩, ?_⟩
  refine ⟨rfl, ⟨by omega, by omega⟩, ?_⟩
  refine ⟨rfl, hI.1, fun r1 s1 q1 => ?_⟩
  refine ⟨⟨by omega, by omega⟩, ?_⟩
  refine ⟨rfl, ⟨by omega, by omega⟩, ?_⟩
  refine ⟨rfl, ⟨q1.1, q1.2.2.1⟩, fun r2 s2 q2 => ?_⟩
  have z5 : st 1 1 = st 170 1 := hI.2.1
  have z1 : ((xs (i + (1 : Int) : Int).toNat).toInt < 0 ∨ st 1 1 < (xs (i + (1 : Int) : Int).toNat).toInt → r1 = 0 ∧ s1 1 1 = st 1 1) ∧ (0 ≤ (xs (i + (1 : Int) : Int).toNat).toInt ∧ (xs (i + (1 : Int) : Int).toNat).toInt ≤ st 1 1 → r1 = 1 ∧ s1 1 1 = (xs (i + (1 : Int) : Int).toNat).toInt) := q1.2.2.2
  have z2 : s1 170 1 = st 170 1 := q1.2.1 170 1 rfl rfl
  have z3 : ((xs (i + (1 : Int) : Int).toNat).toInt < 0 ∨ s1 170 1 < (xs (i + (1 : Int) : Int).toNat).toInt → r2 = 0 ∧ s2 170 1 = s1 170 1) ∧ (0 ≤ (xs (i + (1 : Int) : Int).toNat).toInt ∧ (xs (i + (1 : Int) : Int).toNat).toInt ≤ s1 170 1 → r2 = 1 ∧ s2 170 1 = (xs (i + (1 : Int) : Int).toNat).toInt) := q2.2.2.2
  have z4 : s2 1 1 = s1 1 1 := q2.2.2.1 1 1 (by omega)
  have hO : zO4 s2 := zO4_V q1.1 q2.2.2.1 (zO4_fr hI.1.1 q1.2.1 (fun _ => rfl) rfl rfl rfl rfl rfl rfl rfl ⟨q1.2.1 115 5 rfl rfl, fun i => q1.2.1 116 i rfl rfl, fun i => q1.2.1 117 i rfl rfl, q1.2.1 170 71 rfl rfl, fun i => q1.2.1 216 i rfl rfl, fun i => q1.2.1 217 i rfl rfl⟩ hI.2.2.2)
  have hT : TA (s2 171) (s2 2) (s2 1 1) := TA_e hI.2.2.1 (fun i => (q2.2.2.1 171 i (by omega)).trans (q1.2.1 171 i rfl rfl)) (fun i => (q2.2.2.1 2 i (by omega)).trans (q1.2.1 2 i rfl rfl)) (by omega)
  refine ⟨⟨by omega, by omega⟩, ?_⟩
  exact ih s2 ⟨⟨q2.1, q2.2.1⟩, by omega, hT, hO⟩
set_option maxRecDepth 100000 in
set_option maxHeartbeats 4000000 in
theorem lcase2 (hTb : aTb zSh rx_tb cl) (hcl : lcl N xs (cl 200) K) {i : Int} (h0 : 0 ≤ i) (h1 : i + 6 ≤ (N : Int)) (hN : N ≤ 3072) {st : zS} (hI : zT st) (ih : ∀ s1, zT s1 → K (rx_find rx_mL 18) [(3, .inl (i + 6)), (2, .inr (.inr (.inl 170))), (1, .inr (.inr (.inl 0))), (0, .inr (.inr (.inr 0)))] [] s1) : K (rx_find rx_mL 278) [(3, .inl i), (2, .inr (.inr (.inl 170))), (1, .inr (.inr (.inl 0))), (0, .inr (.inr (.inr 0)))] [] st := by
  have hcm : zmo (wcL [(140, kTw), (148, kTu)]) (cl 200) := wcL_m (wm_cons (kTw_m hTb (by omega)) (wm_cons (kTu_m hTb (by omega)) wm_nil))
  refine lr1_ok (wc := (wcL [(140, kTw), (148, kTu)])) (stp := [18]) hcm hcl 80 ?_
  show (0 = 0 ∧ (zT st ∧ (∀ (r1 : Int) (s1 : zS) (d : Int) (T : zS), zW st s1 d r1 T → (170 = 170 ∧ (zI s1 ∧ (∃ (t : Int → Int) (n d r2x : Int) (T : zS), (∀ j : Int, 0 ≤ j → j < n → s1 171 j.toNat = t j) ∧ s1 170 1 = n ∧ ((d = 0 ∧ r2x = -1 ∧ PNO t n) ∨ (d = 1 ∧ POK t n T r2x)) ∧ (∀ s2 : zS, (gInv zgt s2 ∧ zJ s2 ∧ zV1 s1 s2 ∧ s2 170 1 = 0 ∧ (d = 0 → bR s1 s2 ∧ zP s1 s2) ∧ (d = 1 → RT (s2 170 13) T s2 ∧ s2 170 71 = 0)) → ((-2147483648 ≤ i + 6 ∧ i + 6 ≤ 2147483647) ∧ K (rx_find rx_mL 18) [(3, .inl (i + 6)), (2, .inr (.inr (.inl 170))), (1, .inr (.inr (.inl 0))), (0, .inr (.inr (.inr 0)))] [] s2))))))))
  refine ⟨rfl, hI, fun r1 s1 d T q1 => ?_⟩
  have hz : ∀ j : Int, 0 ≤ j → j < st 1 1 → s1 171 j.toNat = ctx st j := fun j z1 z2 => by
    have z3 := hI.2.2.1 j.toNat (by omega)
    have z4 := g_tape hI.1.1 j.toNat
    show s1 171 j.toNat = st 2 j.toNat % 256
    rw [q1.2.2.2.1]
    omega
  have hd : (d = 0 ∧ r1 = -1 ∧ PNO (ctx st) (st 1 1)) ∨ (d = 1 ∧ POK (ctx st) (st 1 1) T r1) := by
    rcases q1.2.2.2.2.2 with z | z
    · exact Or.inl ⟨z.1, z.2.1, z.2.2.1⟩
    · exact Or.inr ⟨z.1, z.2.1⟩
  refine ⟨rfl, q1.1, ctx st, st 1 1, d, r1, T, hz, q1.2.2.2.2.1.trans hI.2.1.symm, hd, fun s2 q2 => ?_⟩
  refine ⟨⟨by omega, by omega⟩, ?_⟩
  exact ih s2 (zT_W q1 q2.1 q2.2.1 q2.2.2.1 q2.2.2.2.1 q2.2.2.2.2.1 q2.2.2.2.2.2)
set_option maxRecDepth 100000 in
set_option maxHeartbeats 4000000 in
theorem lcase3 (hTb : aTb zSh rx_tb cl) (hcl : lcl N xs (cl 200) K) {i : Int} (h0 : 0 ≤ i) (h1 : i + 6 ≤ (N : Int)) (hN : N ≤ 3072) {st : zS} (hI : zT st) (ih : ∀ s1, zT s1 → K (rx_find rx_mL 18) [(3, .inl (i + 6)), (2, .inr (.inr (.inl 170))), (1, .inr (.inr (.inl 0))), (0, .inr (.inr (.inr 0)))] [] s1) : K (rx_find rx_mL 291) [(3, .inl i), (2, .inr (.inr (.inl 170))), (1, .inr (.inr (.inl 0))), (0, .inr (.inr (.inr 0)))] [] st := by
  have hcm : zmo (wcL [(71, (kT zu_3)), (92, k_fault)]) (cl 200) := wcL_m (wm_cons (kT_m (z_all hTb 200 71 (none, [zu_3]) zu_3 rfl List.mem_cons_self) rfl (by decide) (by decide +kernel) rfl (fun _ => rfl) rfl rfl rfl rfl rfl rfl rfl rfl (fun _ => rfl) rfl (fun _ => rfl) rfl rfl rfl rfl rfl rfl (fun _ => rfl) rfl (fun _ => rfl) rfl rfl (fun _ => rfl) rfl (fun _ => rfl) rfl) (wm_cons (k_fault_m hTb (by omega)) wm_nil))
  refine lr1_ok (wc := (wcL [(71, (kT zu_3)), (92, k_fault)])) (stp := [18]) hcm hcl 80 ?_
  show ((-2147483648 ≤ i + (1 : Int) ∧ i + (1 : Int) ≤ 2147483647) ∧ (0 = 0 ∧ ((0 ≤ i + (1 : Int) ∧ i + (1 : Int) < (N : Int)) ∧ (aTs zu_3.1 [.inr (.inr (.inl 0)), .inl ((xs (i + (1 : Int) : Int).toNat).toInt)] ∧ (zT st ∧ (∀ (r1 : Int) (s1 : zS), zT s1 → ((-2147483648 ≤ i + (1 : Int) ∧ i + (1 : Int) ≤ 2147483647) ∧ (0 = 0 ∧ ((0 ≤ i + (1 : Int) ∧ i + (1 : Int) < (N : Int)) ∧ (170 = 170 ∧ (rq_fault ((xs (i + (1 : Int) : Int).toNat).toInt) s1 ∧ (∀ (r2 : Int) (s2 : zS), en_fault ((xs (i + (1 : Int) : Int).toNat).toInt) s1 r2 s2 → ((-2147483648 ≤ i + 6 ∧ i + 6 ≤ 2147483647) ∧ K (rx_find rx_mL 18) [(3, .inl (i + 6)), (2, .inr (.inr (.inl 170))), (1, .inr (.inr (.inl 0))), (0, .inr (.inr (.inr 0)))] [] s2)))))))))))))
  refine ⟨⟨by omega, by omega⟩, ?_⟩
  refine ⟨rfl, ⟨by omega, by omega⟩, ?_⟩
  refine ⟨⟨rfl, zsI_toInt _, True.intro⟩, hI, fun r1 s1 q1 => ?_⟩
  refine ⟨⟨by omega, by omega⟩, ?_⟩
  refine ⟨rfl, ⟨by omega, by omega⟩, ?_⟩
  refine ⟨rfl, q1.1, fun r2 s2 q2 => ?_⟩
  refine ⟨⟨by omega, by omega⟩, ?_⟩
  exact ih s2 (zT_V q2.1 q2.2.1 q2.2.2.1 q2.2.2.2 q1)
set_option maxRecDepth 100000 in
set_option maxHeartbeats 4000000 in
theorem lcase4 (hTb : aTb zSh rx_tb cl) (hcl : lcl N xs (cl 200) K) {i : Int} (h0 : 0 ≤ i) (h1 : i + 6 ≤ (N : Int)) (hN : N ≤ 3072) {st : zS} (hI : zT st) (ih : ∀ s1, zT s1 → K (rx_find rx_mL 18) [(3, .inl (i + 6)), (2, .inr (.inr (.inl 170))), (1, .inr (.inr (.inl 0))), (0, .inr (.inr (.inr 0)))] [] s1) : K (rx_find rx_mL 314) [(3, .inl i), (2, .inr (.inr (.inl 170))), (1, .inr (.inr (.inl 0))), (0, .inr (.inr (.inr 0)))] [] st := by
  have hcm : zmo (wcL [(49, (kT zu_4)), (62, k_has)]) (cl 200) := wcL_m (wm_cons (kT_m (z_all hTb 200 49 (none, [zu_4]) zu_4 rfl List.mem_cons_self) rfl (by decide) (by decide +kernel) rfl (fun _ => rfl) rfl rfl rfl rfl rfl rfl rfl rfl (fun _ => rfl) rfl (fun _ => rfl) rfl rfl rfl rfl rfl rfl (fun _ => rfl) rfl (fun _ => rfl) rfl rfl (fun _ => rfl) rfl (fun _ => rfl) rfl) (wm_cons (k_has_m hTb (by omega)) wm_nil))
  refine lr1_ok (wc := (wcL [(49, (kT zu_4)), (62, k_has)])) (stp := [18]) hcm hcl 80 ?_
  show ((-2147483648 ≤ i + (1 : Int) ∧ i + (1 : Int) ≤ 2147483647) ∧ (0 = 0 ∧ ((0 ≤ i + (1 : Int) ∧ i + (1 : Int) < (N : Int)) ∧ (aTs zu_4.1 [.inr (.inr (.inl 0)), .inl ((xs (i + (1 : Int) : Int).toNat).toInt)] ∧ (zT st ∧ (∀ (r1 : Int) (s1 : zS), zT s1 → ((-2147483648 ≤ i + (1 : Int) ∧ i + (1 : Int) ≤ 2147483647) ∧ (0 = 0 ∧ ((0 ≤ i + (1 : Int) ∧ i + (1 : Int) < (N : Int)) ∧ (170 = 170 ∧ (rq_has ((xs (i + (1 : Int) : Int).toNat).toInt) s1 ∧ (∀ (r2 : Int) (s2 : zS), en_has ((xs (i + (1 : Int) : Int).toNat).toInt) s1 r2 s2 → ((-2147483648 ≤ i + 6 ∧ i + 6 ≤ 2147483647) ∧ K (rx_find rx_mL 18) [(3, .inl (i + 6)), (2, .inr (.inr (.inl 170))), (1, .inr (.inr (.inl 0))), (0, .inr (.inr (.inr 0)))] [] s2)))))))))))))
  refine ⟨⟨by omega, by omega⟩, ?_⟩
  refine ⟨rfl, ⟨by omega, by omega⟩, ?_⟩
  refine ⟨⟨rfl, zsI_toInt _, True.intro⟩, hI, fun r1 s1 q1 => ?_⟩
  refine ⟨⟨by omega, by omega⟩, ?_⟩
  refine ⟨rfl, ⟨by omega, by omega⟩, ?_⟩
  refine ⟨rfl, q1.1, fun r2 s2 q2 => ?_⟩
  refine ⟨⟨by omega, by omega⟩, ?_⟩
  exact ih s2 (zT_V q2.1 q2.2.1 q2.2.2.1 q2.2.2.2 q1)
set_option maxRecDepth 100000 in
set_option maxHeartbeats 4000000 in
theorem lcase5 (hTb : aTb zSh rx_tb cl) (hcl : lcl N xs (cl 200) K) {i : Int} (h0 : 0 ≤ i) (h1 : i + 6 ≤ (N : Int)) (hN : N ≤ 3072) {st : zS} (hI : zT st) (ih : ∀ s1, zT s1 → K (rx_find rx_mL 18) [(3, .inl (i + 6)), (2, .inr (.inr (.inl 170))), (1, .inr (.inr (.inl 0))), (0, .inr (.inr (.inr 0)))] [] s1) : K (rx_find rx_mL 337) [(3, .inl i), (2, .inr (.inr (.inl 170))), (1, .inr (.inr (.inl 0))), (0, .inr (.inr (.inr 0)))] [] st := by
  have hcm : zmo (wcL [(44, (kT zu_5)), (46, k_letter)]) (cl 200) := wcL_m (wm_cons (kT_m (z_all hTb 200 44 (none, [zu_5]) zu_5 rfl List.mem_cons_self) rfl (by decide) (by decide +kernel) rfl (fun _ => rfl) rfl rfl rfl rfl rfl rfl rfl rfl (fun _ => rfl) rfl (fun _ => rfl) rfl rfl rfl rfl rfl rfl (fun _ => rfl) rfl (fun _ => rfl) rfl rfl (fun _ => rfl) rfl (fun _ => rfl) rfl) (wm_cons (k_letter_m hTb (by omega)) wm_nil))
  refine lr1_ok (wc := (wcL [(44, (kT zu_5)), (46, k_letter)])) (stp := [18]) hcm hcl 80 ?_
  show ((-2147483648 ≤ i + (1 : Int) ∧ i + (1 : Int) ≤ 2147483647) ∧ (0 = 0 ∧ ((0 ≤ i + (1 : Int) ∧ i + (1 : Int) < (N : Int)) ∧ ((-2147483648 ≤ i + (2 : Int) ∧ i + (2 : Int) ≤ 2147483647) ∧ (0 = 0 ∧ ((0 ≤ i + (2 : Int) ∧ i + (2 : Int) < (N : Int)) ∧ ((-2147483648 ≤ i + (3 : Int) ∧ i + (3 : Int) ≤ 2147483647) ∧ (0 = 0 ∧ ((0 ≤ i + (3 : Int) ∧ i + (3 : Int) < (N : Int)) ∧ (aTs zu_5.1 [.inr (.inr (.inl 0)), .inl ((xs (i + (1 : Int) : Int).toNat).toInt), .inl ((xs (i + (2 : Int) : Int).toNat).toInt), .inl ((xs (i + (3 : Int) : Int).toNat).toInt)] ∧ (zT st ∧ (∀ (r1 : Int) (s1 : zS), zT s1 → ((-2147483648 ≤ i + (1 : Int) ∧ i + (1 : Int) ≤ 2147483647) ∧ (0 = 0 ∧ ((0 ≤ i + (1 : Int) ∧ i + (1 : Int) < (N : Int)) ∧ ((-2147483648 ≤ i + (2 : Int) ∧ i + (2 : Int) ≤ 2147483647) ∧ (0 = 0 ∧ ((0 ≤ i + (2 : Int) ∧ i + (2 : Int) < (N : Int)) ∧ ((-2147483648 ≤ i + (3 : Int) ∧ i + (3 : Int) ≤ 2147483647) ∧ (0 = 0 ∧ ((0 ≤ i + (3 : Int) ∧ i + (3 : Int) < (N : Int)) ∧ (170 = 170 ∧ (rq_letter ((xs (i + (1 : Int) : Int).toNat).toInt) ((xs (i + (2 : Int) : Int).toNat).toInt) ((xs (i + (3 : Int) : Int).toNat).toInt) s1 ∧ (∀ (r2 : Int) (s2 : zS), en_letter ((xs (i + (1 : Int) : Int).toNat).toInt) ((xs (i + (2 : Int) : Int).toNat).toInt) ((xs (i + (3 : Int) : Int).toNat).toInt) s1 r2 s2 → ((-2147483648 ≤ i + 6 ∧ i + 6 ≤ 2147483647) ∧ K (rx_find rx_mL 18) [(3, .inl (i + 6)), (2, .inr (.inr (.inl 170))), (1, .inr (.inr (.inl 0))), (0, .inr (.inr (.inr 0)))] [] s2)))))))))))))))))))))))))
  refine ⟨⟨by omega, by omega⟩, ?_⟩
  refine ⟨rfl, ⟨by omega, by omega⟩, ?_⟩
  refine ⟨⟨by omega, by omega⟩, ?_⟩
  refine ⟨rfl, ⟨by omega, by omega⟩, ?_⟩
  refine ⟨⟨by omega, by omega⟩, ?_⟩
  refine ⟨rfl, ⟨by omega, by omega⟩, ?_⟩
  refine ⟨⟨rfl, zsI_toInt _, zsI_toInt _, zsI_toInt _, True.intro⟩, hI, fun r1 s1 q1 => ?_⟩
  refine ⟨⟨by omega, by omega⟩, ?_⟩
  refine ⟨rfl, ⟨by omega, by omega⟩, ?_⟩
  refine ⟨⟨by omega, by omega⟩, ?_⟩
  refine ⟨rfl, ⟨by omega, by omega⟩, ?_⟩
  refine ⟨⟨by omega, by omega⟩, ?_⟩
  refine ⟨rfl, ⟨by omega, by omega⟩, ?_⟩
  refine ⟨rfl, q1.1, fun r2 s2 q2 => ?_⟩
  refine ⟨⟨by omega, by omega⟩, ?_⟩
  exact ih s2 (zT_V q2.1 q2.2.1 q2.2.2.1 q2.2.2.2 q1)
set_option maxRecDepth 100000 in
set_option maxHeartbeats 4000000 in
theorem lcase6 (hTb : aTb zSh rx_tb cl) (hcl : lcl N xs (cl 200) K) {i : Int} (h0 : 0 ≤ i) (h1 : i + 6 ≤ (N : Int)) (hN : N ≤ 3072) {st : zS} (hI : zT st) (ih : ∀ s1, zT s1 → K (rx_find rx_mL 18) [(3, .inl (i + 6)), (2, .inr (.inr (.inl 170))), (1, .inr (.inr (.inl 0))), (0, .inr (.inr (.inr 0)))] [] s1) : K (rx_find rx_mL 380) [(3, .inl i), (2, .inr (.inr (.inl 170))), (1, .inr (.inr (.inl 0))), (0, .inr (.inr (.inr 0)))] [] st := by
  have hcm : zmo (wcL [(106, (kT zu_6)), (125, k_street)]) (cl 200) := wcL_m (wm_cons (kT_m (z_all hTb 200 106 (none, [zu_6]) zu_6 rfl List.mem_cons_self) rfl (by decide) (by decide +kernel) rfl (fun _ => rfl) rfl rfl rfl rfl rfl rfl rfl rfl (fun _ => rfl) rfl (fun _ => rfl) rfl rfl rfl rfl rfl rfl (fun _ => rfl) rfl (fun _ => rfl) rfl rfl (fun _ => rfl) rfl (fun _ => rfl) rfl) (wm_cons (k_street_m hTb (by omega)) wm_nil))
  refine lr1_ok (wc := (wcL [(106, (kT zu_6)), (125, k_street)])) (stp := [18]) hcm hcl 80 ?_
  show ((-2147483648 ≤ i + (1 : Int) ∧ i + (1 : Int) ≤ 2147483647) ∧ (0 = 0 ∧ ((0 ≤ i + (1 : Int) ∧ i + (1 : Int) < (N : Int)) ∧ ((-2147483648 ≤ i + (2 : Int) ∧ i + (2 : Int) ≤ 2147483647) ∧ (0 = 0 ∧ ((0 ≤ i + (2 : Int) ∧ i + (2 : Int) < (N : Int)) ∧ (aTs zu_6.1 [.inr (.inr (.inl 0)), .inl ((xs (i + (1 : Int) : Int).toNat).toInt), .inl ((xs (i + (2 : Int) : Int).toNat).toInt)] ∧ (zT st ∧ (∀ (r1 : Int) (s1 : zS), zT s1 → ((-2147483648 ≤ i + (1 : Int) ∧ i + (1 : Int) ≤ 2147483647) ∧ (0 = 0 ∧ ((0 ≤ i + (1 : Int) ∧ i + (1 : Int) < (N : Int)) ∧ ((-2147483648 ≤ i + (2 : Int) ∧ i + (2 : Int) ≤ 2147483647) ∧ (0 = 0 ∧ ((0 ≤ i + (2 : Int) ∧ i + (2 : Int) < (N : Int)) ∧ (170 = 170 ∧ (rq_street ((xs (i + (1 : Int) : Int).toNat).toInt) ((xs (i + (2 : Int) : Int).toNat).toInt) s1 ∧ (∀ (r2 : Int) (s2 : zS), en_street ((xs (i + (1 : Int) : Int).toNat).toInt) ((xs (i + (2 : Int) : Int).toNat).toInt) s1 r2 s2 → ((-2147483648 ≤ i + 6 ∧ i + 6 ≤ 2147483647) ∧ K (rx_find rx_mL 18) [(3, .inl (i + 6)), (2, .inr (.inr (.inl 170))), (1, .inr (.inr (.inl 0))), (0, .inr (.inr (.inr 0)))] [] s2)))))))))))))))))))
  refine ⟨⟨by omega, by omega⟩, ?_⟩
  refine ⟨rfl, ⟨by omega, by omega⟩, ?_⟩
  refine ⟨⟨by omega, by omega⟩, ?_⟩
  refine ⟨rfl, ⟨by omega, by omega⟩, ?_⟩
  refine ⟨⟨rfl, zsI_toInt _, zsI_toInt _, True.intro⟩, hI, fun r1 s1 q1 => ?_⟩
  refine ⟨⟨by omega, by omega⟩, ?_⟩
  refine ⟨rfl, ⟨by omega, by omega⟩, ?_⟩
  refine ⟨⟨by omega, by omega⟩, ?_⟩
  refine ⟨rfl, ⟨by omega, by omega⟩, ?_⟩
  refine ⟨rfl, q1.1, fun r2 s2 q2 => ?_⟩
  refine ⟨⟨by omega, by omega⟩, ?_⟩
  exact ih s2 (zT_V q2.1 q2.2.1 q2.2.2.1 q2.2.2.2 q1)
set_option maxRecDepth 100000 in
set_option maxHeartbeats 4000000 in
theorem lcase7 (hTb : aTb zSh rx_tb cl) (hcl : lcl N xs (cl 200) K) {i : Int} (h0 : 0 ≤ i) (h1 : i + 6 ≤ (N : Int)) (hN : N ≤ 3072) {st : zS} (hI : zT st) (ih : ∀ s1, zT s1 → K (rx_find rx_mL 18) [(3, .inl (i + 6)), (2, .inr (.inr (.inl 170))), (1, .inr (.inr (.inl 0))), (0, .inr (.inr (.inr 0)))] [] s1) : K (rx_find rx_mL 413) [(3, .inl i), (2, .inr (.inr (.inl 170))), (1, .inr (.inr (.inl 0))), (0, .inr (.inr (.inr 0)))] [] st := by
  have hcm : zmo (wcL [(107, (kT zu_7)), (126, k_way)]) (cl 200) := wcL_m (wm_cons (kT_m (z_all hTb 200 107 (none, [zu_7]) zu_7 rfl List.mem_cons_self) rfl (by decide) (by decide +kernel) rfl (fun _ => rfl) rfl rfl rfl rfl rfl rfl rfl rfl (fun _ => rfl) rfl (fun _ => rfl) rfl rfl rfl rfl rfl rfl (fun _ => rfl) rfl (fun _ => rfl) rfl rfl (fun _ => rfl) rfl (fun _ => rfl) rfl) (wm_cons (k_way_m hTb (by omega)) wm_nil))
  refine lr1_ok (wc := (wcL [(107, (kT zu_7)), (126, k_way)])) (stp := [18]) hcm hcl 80 ?_
  show ((-2147483648 ≤ i + (1 : Int) ∧ i + (1 : Int) ≤ 2147483647) ∧ (0 = 0 ∧ ((0 ≤ i + (1 : Int) ∧ i + (1 : Int) < (N : Int)) ∧ ((-2147483648 ≤ i + (2 : Int) ∧ i + (2 : Int) ≤ 2147483647) ∧ (0 = 0 ∧ ((0 ≤ i + (2 : Int) ∧ i + (2 : Int) < (N : Int)) ∧ (aTs zu_7.1 [.inr (.inr (.inl 0)), .inl ((xs (i + (1 : Int) : Int).toNat).toInt), .inl ((xs (i + (2 : Int) : Int).toNat).toInt)] ∧ (zT st ∧ (∀ (r1 : Int) (s1 : zS), zT s1 → ((-2147483648 ≤ i + (1 : Int) ∧ i + (1 : Int) ≤ 2147483647) ∧ (0 = 0 ∧ ((0 ≤ i + (1 : Int) ∧ i + (1 : Int) < (N : Int)) ∧ ((-2147483648 ≤ i + (2 : Int) ∧ i + (2 : Int) ≤ 2147483647) ∧ (0 = 0 ∧ ((0 ≤ i + (2 : Int) ∧ i + (2 : Int) < (N : Int)) ∧ (170 = 170 ∧ (rq_way ((xs (i + (1 : Int) : Int).toNat).toInt) ((xs (i + (2 : Int) : Int).toNat).toInt) s1 ∧ (∀ (r2 : Int) (s2 : zS), en_way ((xs (i + (1 : Int) : Int).toNat).toInt) ((xs (i + (2 : Int) : Int).toNat).toInt) s1 r2 s2 → ((-2147483648 ≤ i + 6 ∧ i + 6 ≤ 2147483647) ∧ K (rx_find rx_mL 18) [(3, .inl (i + 6)), (2, .inr (.inr (.inl 170))), (1, .inr (.inr (.inl 0))), (0, .inr (.inr (.inr 0)))] [] s2)))))))))))))))))))
  refine ⟨⟨by omega, by omega⟩, ?_⟩
  refine ⟨rfl, ⟨by omega, by omega⟩, ?_⟩
  refine ⟨⟨by omega, by omega⟩, ?_⟩
  refine ⟨rfl, ⟨by omega, by omega⟩, ?_⟩
  refine ⟨⟨rfl, zsI_toInt _, zsI_toInt _, True.intro⟩, hI, fun r1 s1 q1 => ?_⟩
  refine ⟨⟨by omega, by omega⟩, ?_⟩
  refine ⟨rfl, ⟨by omega, by omega⟩, ?_⟩
  refine ⟨⟨by omega, by omega⟩, ?_⟩
  refine ⟨rfl, ⟨by omega, by omega⟩, ?_⟩
  refine ⟨rfl, q1.1, fun r2 s2 q2 => ?_⟩
  refine ⟨⟨by omega, by omega⟩, ?_⟩
  exact ih s2 (zT_V q2.1 q2.2.1 q2.2.2.1 q2.2.2.2 q1)
set_option maxRecDepth 100000 in
set_option maxHeartbeats 4000000 in
theorem lcase8 (hTb : aTb zSh rx_tb cl) (hcl : lcl N xs (cl 200) K) {i : Int} (h0 : 0 ≤ i) (h1 : i + 6 ≤ (N : Int)) (hN : N ≤ 3072) {st : zS} (hI : zT st) (ih : ∀ s1, zT s1 → K (rx_find rx_mL 18) [(3, .inl (i + 6)), (2, .inr (.inr (.inl 170))), (1, .inr (.inr (.inl 0))), (0, .inr (.inr (.inr 0)))] [] s1) : K (rx_find rx_mL 446) [(3, .inl i), (2, .inr (.inr (.inl 170))), (1, .inr (.inr (.inl 0))), (0, .inr (.inr (.inr 0)))] [] st := by
  have hcm : zmo (wcL [(108, (kT zu_8)), (127, k_thing)]) (cl 200) := wcL_m (wm_cons (kT_m (z_all hTb 200 108 (none, [zu_8]) zu_8 rfl List.mem_cons_self) rfl (by decide) (by decide +kernel) rfl (fun _ => rfl) rfl rfl rfl rfl rfl rfl rfl rfl (fun _ => rfl) rfl (fun _ => rfl) rfl rfl rfl rfl rfl rfl (fun _ => rfl) rfl (fun _ => rfl) rfl rfl (fun _ => rfl) rfl (fun _ => rfl) rfl) (wm_cons (k_thing_m hTb (by omega)) wm_nil))
  refine lr1_ok (wc := (wcL [(108, (kT zu_8)), (127, k_thing)])) (stp := [18]) hcm hcl 80 ?_
  show ((-2147483648 ≤ i + (1 : Int) ∧ i + (1 : Int) ≤ 2147483647) ∧ (0 = 0 ∧ ((0 ≤ i + (1 : Int) ∧ i + (1 : Int) < (N : Int)) ∧ ((-2147483648 ≤ i + (2 : Int) ∧ i + (2 : Int) ≤ 2147483647) ∧ (0 = 0 ∧ ((0 ≤ i + (2 : Int) ∧ i + (2 : Int) < (N : Int)) ∧ (aTs zu_8.1 [.inr (.inr (.inl 0)), .inl ((xs (i + (1 : Int) : Int).toNat).toInt), .inl ((xs (i + (2 : Int) : Int).toNat).toInt)] ∧ (zT st ∧ (∀ (r1 : Int) (s1 : zS), zT s1 → ((-2147483648 ≤ i + (1 : Int) ∧ i + (1 : Int) ≤ 2147483647) ∧ (0 = 0 ∧ ((0 ≤ i + (1 : Int) ∧ i + (1 : Int) < (N : Int)) ∧ ((-2147483648 ≤ i + (2 : Int) ∧ i + (2 : Int) ≤ 2147483647) ∧ (0 = 0 ∧ ((0 ≤ i + (2 : Int) ∧ i + (2 : Int) < (N : Int)) ∧ (170 = 170 ∧ (rq_thing ((xs (i + (1 : Int) : Int).toNat).toInt) ((xs (i + (2 : Int) : Int).toNat).toInt) s1 ∧ (∀ (r2 : Int) (s2 : zS), en_thing ((xs (i + (1 : Int) : Int).toNat).toInt) ((xs (i + (2 : Int) : Int).toNat).toInt) s1 r2 s2 → ((-2147483648 ≤ i + 6 ∧ i + 6 ≤ 2147483647) ∧ K (rx_find rx_mL 18) [(3, .inl (i + 6)), (2, .inr (.inr (.inl 170))), (1, .inr (.inr (.inl 0))), (0, .inr (.inr (.inr 0)))] [] s2)))))))))))))))))))
  refine ⟨⟨by omega, by omega⟩, ?_⟩
  refine ⟨rfl, ⟨by omega, by omega⟩, ?_⟩
  refine ⟨⟨by omega, by omega⟩, ?_⟩
  refine ⟨rfl, ⟨by omega, by omega⟩, ?_⟩
  refine ⟨⟨rfl, zsI_toInt _, zsI_toInt _, True.intro⟩, hI, fun r1 s1 q1 => ?_⟩
  refine ⟨⟨by omega, by omega⟩, ?_⟩
  refine ⟨rfl, ⟨by omega, by omega⟩, ?_⟩
  refine ⟨⟨by omega, by omega⟩, ?_⟩
  refine ⟨rfl, ⟨by omega, by omega⟩, ?_⟩
  refine ⟨rfl, q1.1, fun r2 s2 q2 => ?_⟩
  refine ⟨⟨by omega, by omega⟩, ?_⟩
  exact ih s2 (zT_V q2.1 q2.2.1 q2.2.2.1 q2.2.2.2 q1)
set_option maxRecDepth 100000 in
set_option maxHeartbeats 4000000 in
theorem lcase9 (hTb : aTb zSh rx_tb cl) (hcl : lcl N xs (cl 200) K) {i : Int} (h0 : 0 ≤ i) (h1 : i + 6 ≤ (N : Int)) (hN : N ≤ 3072) {st : zS} (hI : zT st) (ih : ∀ s1, zT s1 → K (rx_find rx_mL 18) [(3, .inl (i + 6)), (2, .inr (.inr (.inl 170))), (1, .inr (.inr (.inl 0))), (0, .inr (.inr (.inr 0)))] [] s1) : K (rx_find rx_mL 479) [(3, .inl i), (2, .inr (.inr (.inl 170))), (1, .inr (.inr (.inl 0))), (0, .inr (.inr (.inr 0)))] [] st := by
  have hcm : zmo (wcL [(109, (kT zu_9)), (128, k_step)]) (cl 200) := wcL_m (wm_cons (kT_m (z_all hTb 200 109 (none, [zu_9]) zu_9 rfl List.mem_cons_self) rfl (by decide) (by decide +kernel) rfl (fun _ => rfl) rfl rfl rfl rfl rfl rfl rfl rfl (fun _ => rfl) rfl (fun _ => rfl) rfl rfl rfl rfl rfl rfl (fun _ => rfl) rfl (fun _ => rfl) rfl rfl (fun _ => rfl) rfl (fun _ => rfl) rfl) (wm_cons (k_step_m hTb (by omega)) wm_nil))
  refine lr1_ok (wc := (wcL [(109, (kT zu_9)), (128, k_step)])) (stp := [18]) hcm hcl 80 ?_
  show ((-2147483648 ≤ i + (1 : Int) ∧ i + (1 : Int) ≤ 2147483647) ∧ (0 = 0 ∧ ((0 ≤ i + (1 : Int) ∧ i + (1 : Int) < (N : Int)) ∧ ((-2147483648 ≤ i + (2 : Int) ∧ i + (2 : Int) ≤ 2147483647) ∧ (0 = 0 ∧ ((0 ≤ i + (2 : Int) ∧ i + (2 : Int) < (N : Int)) ∧ (aTs zu_9.1 [.inr (.inr (.inl 0)), .inl ((xs (i + (1 : Int) : Int).toNat).toInt), .inl ((xs (i + (2 : Int) : Int).toNat).toInt)] ∧ (zT st ∧ (∀ (r1 : Int) (s1 : zS), zT s1 → ((-2147483648 ≤ i + (1 : Int) ∧ i + (1 : Int) ≤ 2147483647) ∧ (0 = 0 ∧ ((0 ≤ i + (1 : Int) ∧ i + (1 : Int) < (N : Int)) ∧ ((-2147483648 ≤ i + (2 : Int) ∧ i + (2 : Int) ≤ 2147483647) ∧ (0 = 0 ∧ ((0 ≤ i + (2 : Int) ∧ i + (2 : Int) < (N : Int)) ∧ (170 = 170 ∧ (rq_step ((xs (i + (1 : Int) : Int).toNat).toInt) ((xs (i + (2 : Int) : Int).toNat).toInt) s1 ∧ (∀ (r2 : Int) (s2 : zS), en_step ((xs (i + (1 : Int) : Int).toNat).toInt) ((xs (i + (2 : Int) : Int).toNat).toInt) s1 r2 s2 → ((-2147483648 ≤ i + 6 ∧ i + 6 ≤ 2147483647) ∧ K (rx_find rx_mL 18) [(3, .inl (i + 6)), (2, .inr (.inr (.inl 170))), (1, .inr (.inr (.inl 0))), (0, .inr (.inr (.inr 0)))] [] s2)))))))))))))))))))
  refine ⟨⟨by omega, by omega⟩, ?_⟩
  refine ⟨rfl, ⟨by omega, by omega⟩, ?_⟩
  refine ⟨⟨by omega, by omega⟩, ?_⟩
  refine ⟨rfl, ⟨by omega, by omega⟩, ?_⟩
  refine ⟨⟨rfl, zsI_toInt _, zsI_toInt _, True.intro⟩, hI, fun r1 s1 q1 => ?_⟩
  refine ⟨⟨by omega, by omega⟩, ?_⟩
  refine ⟨rfl, ⟨by omega, by omega⟩, ?_⟩
  refine ⟨⟨by omega, by omega⟩, ?_⟩
  refine ⟨rfl, ⟨by omega, by omega⟩, ?_⟩
  refine ⟨rfl, q1.1, fun r2 s2 q2 => ?_⟩
  refine ⟨⟨by omega, by omega⟩, ?_⟩
  exact ih s2 (zT_V q2.1 q2.2.1 q2.2.2.1 q2.2.2.2 q1)
set_option maxRecDepth 100000 in
set_option maxHeartbeats 4000000 in
theorem lcase10 (hTb : aTb zSh rx_tb cl) (hcl : lcl N xs (cl 200) K) {i : Int} (h0 : 0 ≤ i) (h1 : i + 6 ≤ (N : Int)) (hN : N ≤ 3072) {st : zS} (hI : zT st) (ih : ∀ s1, zT s1 → K (rx_find rx_mL 18) [(3, .inl (i + 6)), (2, .inr (.inr (.inl 170))), (1, .inr (.inr (.inl 0))), (0, .inr (.inr (.inr 0)))] [] s1) : K (rx_find rx_mL 512) [(3, .inl i), (2, .inr (.inr (.inl 170))), (1, .inr (.inr (.inl 0))), (0, .inr (.inr (.inr 0)))] [] st := by
  have hcm : zmo (wcL [(63, (kT zu_10)), (77, k_year)]) (cl 200) := wcL_m (wm_cons (kT_m (z_all hTb 200 63 (none, [zu_10]) zu_10 rfl List.mem_cons_self) rfl (by decide) (by decide +kernel) rfl (fun _ => rfl) rfl rfl rfl rfl rfl rfl rfl rfl (fun _ => rfl) rfl (fun _ => rfl) rfl rfl rfl rfl rfl rfl (fun _ => rfl) rfl (fun _ => rfl) rfl rfl (fun _ => rfl) rfl (fun _ => rfl) rfl) (wm_cons (k_year_m hTb (by omega)) wm_nil))
  refine lr1_ok (wc := (wcL [(63, (kT zu_10)), (77, k_year)])) (stp := [18]) hcm hcl 80 ?_
  show ((-2147483648 ≤ i + (1 : Int) ∧ i + (1 : Int) ≤ 2147483647) ∧ (0 = 0 ∧ ((0 ≤ i + (1 : Int) ∧ i + (1 : Int) < (N : Int)) ∧ (aTs zu_10.1 [.inr (.inr (.inl 0)), .inl ((xs (i + (1 : Int) : Int).toNat).toInt)] ∧ (zT st ∧ (∀ (r1 : Int) (s1 : zS), zT s1 → ((-2147483648 ≤ i + (1 : Int) ∧ i + (1 : Int) ≤ 2147483647) ∧ (0 = 0 ∧ ((0 ≤ i + (1 : Int) ∧ i + (1 : Int) < (N : Int)) ∧ (170 = 170 ∧ (rq_year ((xs (i + (1 : Int) : Int).toNat).toInt) s1 ∧ (∀ (r2 : Int) (s2 : zS), en_year ((xs (i + (1 : Int) : Int).toNat).toInt) s1 r2 s2 → ((-2147483648 ≤ i + 6 ∧ i + 6 ≤ 2147483647) ∧ K (rx_find rx_mL 18) [(3, .inl (i + 6)), (2, .inr (.inr (.inl 170))), (1, .inr (.inr (.inl 0))), (0, .inr (.inr (.inr 0)))] [] s2)))))))))))))
  refine ⟨⟨by omega, by omega⟩, ?_⟩
  refine ⟨rfl, ⟨by omega, by omega⟩, ?_⟩
  refine ⟨⟨rfl, zsI_toInt _, True.intro⟩, hI, fun r1 s1 q1 => ?_⟩
  refine ⟨⟨by omega, by omega⟩, ?_⟩
  refine ⟨rfl, ⟨by omega, by omega⟩, ?_⟩
  refine ⟨rfl, q1.1, fun r2 s2 q2 => ?_⟩
  refine ⟨⟨by omega, by omega⟩, ?_⟩
  exact ih s2 (zT_V q2.1 q2.2.1 q2.2.2.1 q2.2.2.2 q1)
set_option maxRecDepth 100000 in
set_option maxHeartbeats 4000000 in
theorem lcase11 (hTb : aTb zSh rx_tb cl) (hcl : lcl N xs (cl 200) K) {i : Int} (h0 : 0 ≤ i) (h1 : i + 6 ≤ (N : Int)) (hN : N ≤ 3072) {st : zS} (hI : zT st) (ih : ∀ s1, zT s1 → K (rx_find rx_mL 18) [(3, .inl (i + 6)), (2, .inr (.inr (.inl 170))), (1, .inr (.inr (.inl 0))), (0, .inr (.inr (.inr 0)))] [] s1) : K (rx_find rx_mL 535) [(3, .inl i), (2, .inr (.inr (.inl 170))), (1, .inr (.inr (.inl 0))), (0, .inr (.inr (.inr 0)))] [] st := by
  have hcm : zmo (wcL [(64, (kT zu_11)), (65, k_goes)]) (cl 200) := wcL_m (wm_cons (kT_m (z_all hTb 200 64 (none, [zu_11]) zu_11 rfl List.mem_cons_self) rfl (by decide) (by decide +kernel) rfl (fun _ => rfl) rfl rfl rfl rfl rfl rfl rfl rfl (fun _ => rfl) rfl (fun _ => rfl) rfl rfl rfl rfl rfl rfl (fun _ => rfl) rfl (fun _ => rfl) rfl rfl (fun _ => rfl) rfl (fun _ => rfl) rfl) (wm_cons (k_goes_m hTb (by omega)) wm_nil))
  refine lr1_ok (wc := (wcL [(64, (kT zu_11)), (65, k_goes)])) (stp := [18]) hcm hcl 80 ?_
  show ((-2147483648 ≤ i + (1 : Int) ∧ i + (1 : Int) ≤ 2147483647) ∧ (0 = 0 ∧ ((0 ≤ i + (1 : Int) ∧ i + (1 : Int) < (N : Int)) ∧ ((-2147483648 ≤ i + (2 : Int) ∧ i + (2 : Int) ≤ 2147483647) ∧ (0 = 0 ∧ ((0 ≤ i + (2 : Int) ∧ i + (2 : Int) < (N : Int)) ∧ (aTs zu_11.1 [.inr (.inr (.inl 0)), .inl ((xs (i + (1 : Int) : Int).toNat).toInt), .inl ((xs (i + (2 : Int) : Int).toNat).toInt)] ∧ (zT st ∧ (∀ (r1 : Int) (s1 : zS), zT s1 → ((-2147483648 ≤ i + (1 : Int) ∧ i + (1 : Int) ≤ 2147483647) ∧ (0 = 0 ∧ ((0 ≤ i + (1 : Int) ∧ i + (1 : Int) < (N : Int)) ∧ ((-2147483648 ≤ i + (2 : Int) ∧ i + (2 : Int) ≤ 2147483647) ∧ (0 = 0 ∧ ((0 ≤ i + (2 : Int) ∧ i + (2 : Int) < (N : Int)) ∧ (170 = 170 ∧ (rq_goes ((xs (i + (1 : Int) : Int).toNat).toInt) ((xs (i + (2 : Int) : Int).toNat).toInt) s1 ∧ (∀ (r2 : Int) (s2 : zS), en_goes ((xs (i + (1 : Int) : Int).toNat).toInt) ((xs (i + (2 : Int) : Int).toNat).toInt) s1 r2 s2 → ((-2147483648 ≤ i + 6 ∧ i + 6 ≤ 2147483647) ∧ K (rx_find rx_mL 18) [(3, .inl (i + 6)), (2, .inr (.inr (.inl 170))), (1, .inr (.inr (.inl 0))), (0, .inr (.inr (.inr 0)))] [] s2)))))))))))))))))))
  refine ⟨⟨by omega, by omega⟩, ?_⟩
  refine ⟨rfl, ⟨by omega, by omega⟩, ?_⟩
  refine ⟨⟨by omega, by omega⟩, ?_⟩
  refine ⟨rfl, ⟨by omega, by omega⟩, ?_⟩
  refine ⟨⟨rfl, zsI_toInt _, zsI_toInt _, True.intro⟩, hI, fun r1 s1 q1 => ?_⟩
  refine ⟨⟨by omega, by omega⟩, ?_⟩
  refine ⟨rfl, ⟨by omega, by omega⟩, ?_⟩
  refine ⟨⟨by omega, by omega⟩, ?_⟩
  refine ⟨rfl, ⟨by omega, by omega⟩, ?_⟩
  refine ⟨rfl, q1.1, fun r2 s2 q2 => ?_⟩
  refine ⟨⟨by omega, by omega⟩, ?_⟩
  exact ih s2 (zT_V q2.1 q2.2.1 q2.2.2.1 q2.2.2.2 q1)
set_option maxRecDepth 100000 in
set_option maxHeartbeats 4000000 in
theorem lcase12 (hTb : aTb zSh rx_tb cl) (hcl : lcl N xs (cl 200) K) {i : Int} (h0 : 0 ≤ i) (h1 : i + 6 ≤ (N : Int)) (hN : N ≤ 3072) {st : zS} (hI : zT st) (ih : ∀ s1, zT s1 → K (rx_find rx_mL 18) [(3, .inl (i + 6)), (2, .inr (.inr (.inl 170))), (1, .inr (.inr (.inl 0))), (0, .inr (.inr (.inr 0)))] [] s1) : K (rx_find rx_mL 568) [(3, .inl i), (2, .inr (.inr (.inl 170))), (1, .inr (.inr (.inl 0))), (0, .inr (.inr (.inr 0)))] [] st := by
  have hcm : zmo (wcL [(153, (kT zu_12)), (154, k_wall)]) (cl 200) := wcL_m (wm_cons (kT_m (z_all hTb 200 153 (none, [zu_12]) zu_12 rfl List.mem_cons_self) rfl (by decide) (by decide +kernel) rfl (fun _ => rfl) rfl rfl rfl rfl rfl rfl rfl rfl (fun _ => rfl) rfl (fun _ => rfl) rfl rfl rfl rfl rfl rfl (fun _ => rfl) rfl (fun _ => rfl) rfl rfl (fun _ => rfl) rfl (fun _ => rfl) rfl) (wm_cons (k_wall_m hTb (by omega)) wm_nil))
  refine lr1_ok (wc := (wcL [(153, (kT zu_12)), (154, k_wall)])) (stp := [18]) hcm hcl 80 ?_
  show (aTs zu_12.1 [.inr (.inr (.inl 0))] ∧ (zT st ∧ (∀ (r1 : Int) (s1 : zS), zT s1 → (170 = 170 ∧ (rq_wall  s1 ∧ (∀ (r2 : Int) (s2 : zS), en_wall  s1 r2 s2 → ((-2147483648 ≤ i + 6 ∧ i + 6 ≤ 2147483647) ∧ K (rx_find rx_mL 18) [(3, .inl (i + 6)), (2, .inr (.inr (.inl 170))), (1, .inr (.inr (.inl 0))), (0, .inr (.inr (.inr 0)))] [] s2)))))))
  refine ⟨⟨rfl, True.intro⟩, hI, fun r1 s1 q1 => ?_⟩
  refine ⟨rfl, q1.1, fun r2 s2 q2 => ?_⟩
  refine ⟨⟨by omega, by omega⟩, ?_⟩
  exact ih s2 (zT_V q2.1 q2.2.1 q2.2.2.1 q2.2.2.2 q1)
set_option maxRecDepth 100000 in
set_option maxHeartbeats 4000000 in
theorem lcase13 (hTb : aTb zSh rx_tb cl) (hcl : lcl N xs (cl 200) K) {i : Int} (h0 : 0 ≤ i) (h1 : i + 6 ≤ (N : Int)) (hN : N ≤ 3072) {st : zS} (hI : zT st) (ih : ∀ s1, zT s1 → K (rx_find rx_mL 18) [(3, .inl (i + 6)), (2, .inr (.inr (.inl 170))), (1, .inr (.inr (.inl 0))), (0, .inr (.inr (.inr 0)))] [] s1) : K (rx_find rx_mL 581) [(3, .inl i), (2, .inr (.inr (.inl 170))), (1, .inr (.inr (.inl 0))), (0, .inr (.inr (.inr 0)))] [] st := by
  have hcm : zmo (wcL [(90, (kT zu_13)), (110, k_away)]) (cl 200) := wcL_m (wm_cons (kT_m (z_all hTb 200 90 (none, [zu_13]) zu_13 rfl List.mem_cons_self) rfl (by decide) (by decide +kernel) rfl (fun _ => rfl) rfl rfl rfl rfl rfl rfl rfl rfl (fun _ => rfl) rfl (fun _ => rfl) rfl rfl rfl rfl rfl rfl (fun _ => rfl) rfl (fun _ => rfl) rfl rfl (fun _ => rfl) rfl (fun _ => rfl) rfl) (wm_cons (k_away_m hTb (by omega)) wm_nil))
  refine lr1_ok (wc := (wcL [(90, (kT zu_13)), (110, k_away)])) (stp := [18]) hcm hcl 80 ?_
  show ((-2147483648 ≤ i + (1 : Int) ∧ i + (1 : Int) ≤ 2147483647) ∧ (0 = 0 ∧ ((0 ≤ i + (1 : Int) ∧ i + (1 : Int) < (N : Int)) ∧ (aTs zu_13.1 [.inr (.inr (.inl 0)), .inl ((xs (i + (1 : Int) : Int).toNat).toInt)] ∧ (zT st ∧ (∀ (r1 : Int) (s1 : zS), zT s1 → ((-2147483648 ≤ i + (1 : Int) ∧ i + (1 : Int) ≤ 2147483647) ∧ (0 = 0 ∧ ((0 ≤ i + (1 : Int) ∧ i + (1 : Int) < (N : Int)) ∧ (170 = 170 ∧ (rq_away ((xs (i + (1 : Int) : Int).toNat).toInt) s1 ∧ (∀ (r2 : Int) (s2 : zS), en_away ((xs (i + (1 : Int) : Int).toNat).toInt) s1 r2 s2 → ((-2147483648 ≤ i + 6 ∧ i + 6 ≤ 2147483647) ∧ K (rx_find rx_mL 18) [(3, .inl (i + 6)), (2, .inr (.inr (.inl 170))), (1, .inr (.inr (.inl 0))), (0, .inr (.inr (.inr 0)))] [] s2)))))))))))))
  refine ⟨⟨by omega, by omega⟩, ?_⟩
  refine ⟨rfl, ⟨by omega, by omega⟩, ?_⟩
  refine ⟨⟨rfl, zsI_toInt _, True.intro⟩, hI, fun r1 s1 q1 => ?_⟩
  refine ⟨⟨by omega, by omega⟩, ?_⟩
  refine ⟨rfl, ⟨by omega, by omega⟩, ?_⟩
  refine ⟨rfl, q1.1, fun r2 s2 q2 => ?_⟩
  refine ⟨⟨by omega, by omega⟩, ?_⟩
  exact ih s2 (zT_V q2.1 q2.2.1 q2.2.2.1 q2.2.2.2 q1)
set_option maxRecDepth 100000 in
set_option maxHeartbeats 4000000 in
theorem lcase14 (hTb : aTb zSh rx_tb cl) (hcl : lcl N xs (cl 200) K) {i : Int} (h0 : 0 ≤ i) (h1 : i + 6 ≤ (N : Int)) (hN : N ≤ 3072) {st : zS} (hI : zT st) (ih : ∀ s1, zT s1 → K (rx_find rx_mL 18) [(3, .inl (i + 6)), (2, .inr (.inr (.inl 170))), (1, .inr (.inr (.inl 0))), (0, .inr (.inr (.inr 0)))] [] s1) : K (rx_find rx_mL 604) [(3, .inl i), (2, .inr (.inr (.inl 170))), (1, .inr (.inr (.inl 0))), (0, .inr (.inr (.inr 0)))] [] st := by
  have hcm : zmo (wcL [(111, (kT zu_14)), (130, k_by)]) (cl 200) := wcL_m (wm_cons (kT_m (z_all hTb 200 111 (none, [zu_14]) zu_14 rfl List.mem_cons_self) rfl (by decide) (by decide +kernel) rfl (fun _ => rfl) rfl rfl rfl rfl rfl rfl rfl rfl (fun _ => rfl) rfl (fun _ => rfl) rfl rfl rfl rfl rfl rfl (fun _ => rfl) rfl (fun _ => rfl) rfl rfl (fun _ => rfl) rfl (fun _ => rfl) rfl) (wm_cons (k_by_m hTb (by omega)) wm_nil))
  refine lr1_ok (wc := (wcL [(111, (kT zu_14)), (130, k_by)])) (stp := [18]) hcm hcl 80 ?_
  show ((-2147483648 ≤ i + (1 : Int) ∧ i + (1 : Int) ≤ 2147483647) ∧ (0 = 0 ∧ ((0 ≤ i + (1 : Int) ∧ i + (1 : Int) < (N : Int)) ∧ (aTs zu_14.1 [.inr (.inr (.inl 0)), .inl ((xs (i + (1 : Int) : Int).toNat).toInt)] ∧ (zT st ∧ (∀ (r1 : Int) (s1 : zS), zT s1 → ((-2147483648 ≤ i + (1 : Int) ∧ i + (1 : Int) ≤ 2147483647) ∧ (0 = 0 ∧ ((0 ≤ i + (1 : Int) ∧ i + (1 : Int) < (N : Int)) ∧ (170 = 170 ∧ (rq_by ((xs (i + (1 : Int) : Int).toNat).toInt) s1 ∧ (∀ (r2 : Int) (s2 : zS), en_by ((xs (i + (1 : Int) : Int).toNat).toInt) s1 r2 s2 → ((-2147483648 ≤ i + 6 ∧ i + 6 ≤ 2147483647) ∧ K (rx_find rx_mL 18) [(3, .inl (i + 6)), (2, .inr (.inr (.inl 170))), (1, .inr (.inr (.inl 0))), (0, .inr (.inr (.inr 0)))] [] s2)))))))))))))
  refine ⟨⟨by omega, by omega⟩, ?_⟩
  refine ⟨rfl, ⟨by omega, by omega⟩, ?_⟩
  refine ⟨⟨rfl, zsI_toInt _, True.intro⟩, hI, fun r1 s1 q1 => ?_⟩
  refine ⟨⟨by omega, by omega⟩, ?_⟩
  refine ⟨rfl, ⟨by omega, by omega⟩, ?_⟩
  refine ⟨rfl, q1.1, fun r2 s2 q2 => ?_⟩
  refine ⟨⟨by omega, by omega⟩, ?_⟩
  exact ih s2 (zT_V q2.1 q2.2.1 q2.2.2.1 q2.2.2.2 q1)
set_option maxRecDepth 100000 in
set_option maxHeartbeats 4000000 in
theorem lcase15 (hTb : aTb zSh rx_tb cl) (hcl : lcl N xs (cl 200) K) {i : Int} (h0 : 0 ≤ i) (h1 : i + 6 ≤ (N : Int)) (hN : N ≤ 3072) {st : zS} (hI : zT st) (ih : ∀ s1, zT s1 → K (rx_find rx_mL 18) [(3, .inl (i + 6)), (2, .inr (.inr (.inl 170))), (1, .inr (.inr (.inl 0))), (0, .inr (.inr (.inr 0)))] [] s1) : K (rx_find rx_mL 627) [(3, .inl i), (2, .inr (.inr (.inl 170))), (1, .inr (.inr (.inl 0))), (0, .inr (.inr (.inr 0)))] [] st := by
  have hcm : zmo (wcL [(91, (kT zu_15)), (112, k_seats)]) (cl 200) := wcL_m (wm_cons (kT_m (z_all hTb 200 91 (none, [zu_15]) zu_15 rfl List.mem_cons_self) rfl (by decide) (by decide +kernel) rfl (fun _ => rfl) rfl rfl rfl rfl rfl rfl rfl rfl (fun _ => rfl) rfl (fun _ => rfl) rfl rfl rfl rfl rfl rfl (fun _ => rfl) rfl (fun _ => rfl) rfl rfl (fun _ => rfl) rfl (fun _ => rfl) rfl) (wm_cons (k_seats_m hTb (by omega)) wm_nil))
  refine lr1_ok (wc := (wcL [(91, (kT zu_15)), (112, k_seats)])) (stp := [18]) hcm hcl 80 ?_
  show ((-2147483648 ≤ i + (1 : Int) ∧ i + (1 : Int) ≤ 2147483647) ∧ (0 = 0 ∧ ((0 ≤ i + (1 : Int) ∧ i + (1 : Int) < (N : Int)) ∧ (aTs zu_15.1 [.inr (.inr (.inl 0)), .inl ((xs (i + (1 : Int) : Int).toNat).toInt)] ∧ (zT st ∧ (∀ (r1 : Int) (s1 : zS), zT s1 → ((-2147483648 ≤ i + (1 : Int) ∧ i + (1 : Int) ≤ 2147483647) ∧ (0 = 0 ∧ ((0 ≤ i + (1 : Int) ∧ i + (1 : Int) < (N : Int)) ∧ (170 = 170 ∧ (rq_seats ((xs (i + (1 : Int) : Int).toNat).toInt) s1 ∧ (∀ (r2 : Int) (s2 : zS), en_seats ((xs (i + (1 : Int) : Int).toNat).toInt) s1 r2 s2 → ((-2147483648 ≤ i + 6 ∧ i + 6 ≤ 2147483647) ∧ K (rx_find rx_mL 18) [(3, .inl (i + 6)), (2, .inr (.inr (.inl 170))), (1, .inr (.inr (.inl 0))), (0, .inr (.inr (.inr 0)))] [] s2)))))))))))))
  refine ⟨⟨by omega, by omega⟩, ?_⟩
  refine ⟨rfl, ⟨by omega, by omega⟩, ?_⟩
  refine ⟨⟨rfl, zsI_toInt _, True.intro⟩, hI, fun r1 s1 q1 => ?_⟩
  refine ⟨⟨by omega, by omega⟩, ?_⟩
  refine ⟨rfl, ⟨by omega, by omega⟩, ?_⟩
  refine ⟨rfl, q1.1, fun r2 s2 q2 => ?_⟩
  refine ⟨⟨by omega, by omega⟩, ?_⟩
  exact ih s2 (zT_V q2.1 q2.2.1 q2.2.2.1 q2.2.2.2 q1)
set_option maxRecDepth 100000 in
set_option maxHeartbeats 4000000 in
theorem lcase16 (hTb : aTb zSh rx_tb cl) (hcl : lcl N xs (cl 200) K) {i : Int} (h0 : 0 ≤ i) (h1 : i + 6 ≤ (N : Int)) (hN : N ≤ 3072) {st : zS} (hI : zT st) (ih : ∀ s1, zT s1 → K (rx_find rx_mL 18) [(3, .inl (i + 6)), (2, .inr (.inr (.inl 170))), (1, .inr (.inr (.inl 0))), (0, .inr (.inr (.inr 0)))] [] s1) : K (rx_find rx_mL 650) [(3, .inl i), (2, .inr (.inr (.inl 170))), (1, .inr (.inr (.inl 0))), (0, .inr (.inr (.inr 0)))] [] st := by
  have hcm : zmo (wcL [(78, (kT zu_16)), (79, k_later)]) (cl 200) := wcL_m (wm_cons (kT_m (z_all hTb 200 78 (none, [zu_16]) zu_16 rfl List.mem_cons_self) rfl (by decide) (by decide +kernel) rfl (fun _ => rfl) rfl rfl rfl rfl rfl rfl rfl rfl (fun _ => rfl) rfl (fun _ => rfl) rfl rfl rfl rfl rfl rfl (fun _ => rfl) rfl (fun _ => rfl) rfl rfl (fun _ => rfl) rfl (fun _ => rfl) rfl) (wm_cons (k_later_m hTb (by omega)) wm_nil))
  refine lr1_ok (wc := (wcL [(78, (kT zu_16)), (79, k_later)])) (stp := [18]) hcm hcl 80 ?_
  show ((-2147483648 ≤ i + (1 : Int) ∧ i + (1 : Int) ≤ 2147483647) ∧ (0 = 0 ∧ ((0 ≤ i + (1 : Int) ∧ i + (1 : Int) < (N : Int)) ∧ ((-2147483648 ≤ i + (2 : Int) ∧ i + (2 : Int) ≤ 2147483647) ∧ (0 = 0 ∧ ((0 ≤ i + (2 : Int) ∧ i + (2 : Int) < (N : Int)) ∧ (aTs zu_16.1 [.inr (.inr (.inl 0)), .inl ((xs (i + (1 : Int) : Int).toNat).toInt), .inl ((xs (i + (2 : Int) : Int).toNat).toInt)] ∧ (zT st ∧ (∀ (r1 : Int) (s1 : zS), zT s1 → ((-2147483648 ≤ i + (1 : Int) ∧ i + (1 : Int) ≤ 2147483647) ∧ (0 = 0 ∧ ((0 ≤ i + (1 : Int) ∧ i + (1 : Int) < (N : Int)) ∧ ((-2147483648 ≤ i + (2 : Int) ∧ i + (2 : Int) ≤ 2147483647) ∧ (0 = 0 ∧ ((0 ≤ i + (2 : Int) ∧ i + (2 : Int) < (N : Int)) ∧ (170 = 170 ∧ (rq_later ((xs (i + (1 : Int) : Int).toNat).toInt) ((xs (i + (2 : Int) : Int).toNat).toInt) s1 ∧ (∀ (r2 : Int) (s2 : zS), en_later ((xs (i + (1 : Int) : Int).toNat).toInt) ((xs (i + (2 : Int) : Int).toNat).toInt) s1 r2 s2 → ((-2147483648 ≤ i + 6 ∧ i + 6 ≤ 2147483647) ∧ K (rx_find rx_mL 18) [(3, .inl (i + 6)), (2, .inr (.inr (.inl 170))), (1, .inr (.inr (.inl 0))), (0, .inr (.inr (.inr 0)))] [] s2)))))))))))))))))))
  refine ⟨⟨by omega, by omega⟩, ?_⟩
  refine ⟨rfl, ⟨by omega, by omega⟩, ?_⟩
  refine ⟨⟨by omega, by omega⟩, ?_⟩
  refine ⟨rfl, ⟨by omega, by omega⟩, ?_⟩
  refine ⟨⟨rfl, zsI_toInt _, zsI_toInt _, True.intro⟩, hI, fun r1 s1 q1 => ?_⟩
  refine ⟨⟨by omega, by omega⟩, ?_⟩
  refine ⟨rfl, ⟨by omega, by omega⟩, ?_⟩
  refine ⟨⟨by omega, by omega⟩, ?_⟩
  refine ⟨rfl, ⟨by omega, by omega⟩, ?_⟩
  refine ⟨rfl, q1.1, fun r2 s2 q2 => ?_⟩
  refine ⟨⟨by omega, by omega⟩, ?_⟩
  exact ih s2 (zT_V q2.1 q2.2.1 q2.2.2.1 q2.2.2.2 q1)
set_option maxRecDepth 100000 in
set_option maxHeartbeats 4000000 in
theorem lcase17 (hTb : aTb zSh rx_tb cl) (hcl : lcl N xs (cl 200) K) {i : Int} (h0 : 0 ≤ i) (h1 : i + 6 ≤ (N : Int)) (hN : N ≤ 3072) {st : zS} (hI : zT st) (ih : ∀ s1, zT s1 → K (rx_find rx_mL 18) [(3, .inl (i + 6)), (2, .inr (.inr (.inl 170))), (1, .inr (.inr (.inl 0))), (0, .inr (.inr (.inr 0)))] [] s1) : K (rx_find rx_mL 683) [(3, .inl i), (2, .inr (.inr (.inl 170))), (1, .inr (.inr (.inl 0))), (0, .inr (.inr (.inr 0)))] [] st := by
  have hcm : zmo (wcL [(113, (kT zu_17)), (131, k_missed)]) (cl 200) := wcL_m (wm_cons (kT_m (z_all hTb 200 113 (none, [zu_17]) zu_17 rfl List.mem_cons_self) rfl (by decide) (by decide +kernel) rfl (fun _ => rfl) rfl rfl rfl rfl rfl rfl rfl rfl (fun _ => rfl) rfl (fun _ => rfl) rfl rfl rfl rfl rfl rfl (fun _ => rfl) rfl (fun _ => rfl) rfl rfl (fun _ => rfl) rfl (fun _ => rfl) rfl) (wm_cons (k_missed_m hTb (by omega)) wm_nil))
  refine lr1_ok (wc := (wcL [(113, (kT zu_17)), (131, k_missed)])) (stp := [18]) hcm hcl 80 ?_
  show ((-2147483648 ≤ i + (1 : Int) ∧ i + (1 : Int) ≤ 2147483647) ∧ (0 = 0 ∧ ((0 ≤ i + (1 : Int) ∧ i + (1 : Int) < (N : Int)) ∧ (aTs zu_17.1 [.inr (.inr (.inl 0)), .inl ((xs (i + (1 : Int) : Int).toNat).toInt)] ∧ (zT st ∧ (∀ (r1 : Int) (s1 : zS), zT s1 → ((-2147483648 ≤ i + (1 : Int) ∧ i + (1 : Int) ≤ 2147483647) ∧ (0 = 0 ∧ ((0 ≤ i + (1 : Int) ∧ i + (1 : Int) < (N : Int)) ∧ (170 = 170 ∧ (rq_missed ((xs (i + (1 : Int) : Int).toNat).toInt) s1 ∧ (∀ (r2 : Int) (s2 : zS), en_missed ((xs (i + (1 : Int) : Int).toNat).toInt) s1 r2 s2 → ((-2147483648 ≤ i + 6 ∧ i + 6 ≤ 2147483647) ∧ K (rx_find rx_mL 18) [(3, .inl (i + 6)), (2, .inr (.inr (.inl 170))), (1, .inr (.inr (.inl 0))), (0, .inr (.inr (.inr 0)))] [] s2)))))))))))))
  refine ⟨⟨by omega, by omega⟩, ?_⟩
  refine ⟨rfl, ⟨by omega, by omega⟩, ?_⟩
  refine ⟨⟨rfl, zsI_toInt _, True.intro⟩, hI, fun r1 s1 q1 => ?_⟩
  refine ⟨⟨by omega, by omega⟩, ?_⟩
  refine ⟨rfl, ⟨by omega, by omega⟩, ?_⟩
  refine ⟨rfl, q1.1, fun r2 s2 q2 => ?_⟩
  refine ⟨⟨by omega, by omega⟩, ?_⟩
  exact ih s2 (zT_V q2.1 q2.2.1 q2.2.2.1 q2.2.2.2 q1)
set_option maxRecDepth 100000 in
set_option maxHeartbeats 4000000 in
theorem lcase18 (hTb : aTb zSh rx_tb cl) (hcl : lcl N xs (cl 200) K) {i : Int} (h0 : 0 ≤ i) (h1 : i + 6 ≤ (N : Int)) (hN : N ≤ 3072) {st : zS} (hI : zT st) (ih : ∀ s1, zT s1 → K (rx_find rx_mL 18) [(3, .inl (i + 6)), (2, .inr (.inr (.inl 170))), (1, .inr (.inr (.inl 0))), (0, .inr (.inr (.inr 0)))] [] s1) : K (rx_find rx_mL 706) [(3, .inl i), (2, .inr (.inr (.inl 170))), (1, .inr (.inr (.inl 0))), (0, .inr (.inr (.inr 0)))] [] st := by
  have hcm : zmo (wcL [(156, (kT zu_18)), (159, k_held)]) (cl 200) := wcL_m (wm_cons (kT_m (z_all hTb 200 156 (none, [zu_18]) zu_18 rfl List.mem_cons_self) rfl (by decide) (by decide +kernel) rfl (fun _ => rfl) rfl rfl rfl rfl rfl rfl rfl rfl (fun _ => rfl) rfl (fun _ => rfl) rfl rfl rfl rfl rfl rfl (fun _ => rfl) rfl (fun _ => rfl) rfl rfl (fun _ => rfl) rfl (fun _ => rfl) rfl) (wm_cons (k_held_m hTb (by omega)) wm_nil))
  refine lr1_ok (wc := (wcL [(156, (kT zu_18)), (159, k_held)])) (stp := [18]) hcm hcl 80 ?_
  show (aTs zu_18.1 [.inr (.inr (.inl 0))] ∧ (zT st ∧ (∀ (r1 : Int) (s1 : zS), zT s1 → (170 = 170 ∧ (rq_held  s1 ∧ (∀ (r2 : Int) (s2 : zS), en_held  s1 r2 s2 → ((-2147483648 ≤ i + 6 ∧ i + 6 ≤ 2147483647) ∧ K (rx_find rx_mL 18) [(3, .inl (i + 6)), (2, .inr (.inr (.inl 170))), (1, .inr (.inr (.inl 0))), (0, .inr (.inr (.inr 0)))] [] s2)))))))
  refine ⟨⟨rfl, True.intro⟩, hI, fun r1 s1 q1 => ?_⟩
  refine ⟨rfl, q1.1, fun r2 s2 q2 => ?_⟩
  refine ⟨⟨by omega, by omega⟩, ?_⟩
  exact ih s2 (zT_V q2.1 q2.2.1 q2.2.2.1 q2.2.2.2 q1)
set_option maxRecDepth 100000 in
set_option maxHeartbeats 4000000 in
theorem lcase19 (hTb : aTb zSh rx_tb cl) (hcl : lcl N xs (cl 200) K) {i : Int} (h0 : 0 ≤ i) (h1 : i + 6 ≤ (N : Int)) (hN : N ≤ 3072) {st : zS} (hI : zT st) (ih : ∀ s1, zT s1 → K (rx_find rx_mL 18) [(3, .inl (i + 6)), (2, .inr (.inr (.inl 170))), (1, .inr (.inr (.inl 0))), (0, .inr (.inr (.inr 0)))] [] s1) : K (rx_find rx_mL 719) [(3, .inl i), (2, .inr (.inr (.inl 170))), (1, .inr (.inr (.inl 0))), (0, .inr (.inr (.inr 0)))] [] st := by
  rcases hI.2.2.2.2.1 with ⟨h8, hr⟩ | ⟨h8, hr⟩
  · have hcm : zmo (wcL [(161, k_wHalfA), (164, k_vHalf)]) (cl 200) := wcL_m (wm_cons (k_wHalfA_m hTb (by omega)) (wm_cons (k_vHalf_m hTb (by omega)) wm_nil))
    refine lr1_ok (wc := (wcL [(161, k_wHalfA), (164, k_vHalf)])) (stp := [18]) hcm hcl 80 ?_
    show (0 = 0 ∧ (rq_wHalfA st ∧ (∀ (r1 : Int) (s1 : zS), en_wHalfA st r1 s1 → (170 = 170 ∧ (rq_vHalf s1 ∧ (∀ (r2 : Int) (s2 : zS), en_vHalf s1 r2 s2 → ((-2147483648 ≤ i + 6 ∧ i + 6 ≤ 2147483647) ∧ K (rx_find rx_mL 18) [(3, .inl (i + 6)), (2, .inr (.inr (.inl 170))), (1, .inr (.inr (.inl 0))), (0, .inr (.inr (.inr 0)))] [] s2)))))))
    refine ⟨rfl, ⟨hI.1.1, h8⟩, fun r1 s1 q1 => ?_⟩
    refine ⟨rfl, q1.1, fun r2 s2 q2 => ?_⟩
    obtain ⟨g1, f1, tz1, o1⟩ := q1
    obtain ⟨g2, f2, tz2, o2⟩ := q2
    have hzr : r1 = r2 ∧ zRw s2 := by
      have hn : s1 170 1 = st 1 1 := (f1 170 1 rfl rfl).trans hI.2.1.symm
      have hp : s1 172 (s1 170 13).toNat = st 122 1 := by
        rw [f1 170 13 rfl rfl, f1 172 _ rfl rfl]
        exact hr.1.1
      have he : HFok (fun j : Int => s1 171 j.toNat) (s1 170 1) (s1 172 (s1 170 13).toNat) ↔ HFok (fun j : Int => st 2 j.toNat % 256) (st 1 1) (st 122 1) := by
        rw [hp, hn]
        refine HFok_e (fun j z1 z2 => ?_)
        show s1 171 j.toNat = st 2 j.toNat % 256
        rw [f1 171 _ rfl rfl]
        have z3 := hI.2.2.1 j.toNat (by omega)
        have z4 := g_tape hI.1.1 j.toNat
        omega
      have h8s : s2 0 8 = st 0 8 := (f2 0 8 rfl rfl).trans (f1 0 8 rfl rfl)
      have t1 : tn 122 s2 = tn 122 st := (tn_fr (x := 122) rfl f2).trans (tn_fr (x := 122) rfl f1)
      have t2 : tn 135 s2 = tn 135 st := (tn_fr (x := 135) rfl f2).trans (tn_fr (x := 135) rfl f1)
      have hw : TW (tn 122 st) := hI.2.2.2.2.2.1.1 h8
      have hp8 : 0 ≤ st 122 1 ∧ st 122 1 ≤ 8 := hw.1.1
      have hW : (s2 0 8 = 122 → TW (tn 122 s2)) ∧ (s2 0 8 = 135 → TW (tn 135 s2)) := by rw [h8s, t1, t2]; exact hI.2.2.2.2.2.1
      have c5 : s2 115 5 = s1 115 5 := f2 115 5 rfl rfl
      have d5 : s1 170 71 = st 170 71 := f1 170 71 rfl rfl
      have hk := hI.2.2.2.2.2.2.1
      rcases o1 with ⟨a1, a2, a3, a4, a5⟩ | ⟨a1, a2, a3, a4, a5, a6⟩
      · rcases o2 with ⟨b1, b2, b3, b4, b5⟩ | ⟨b1, b2, b3, b4, b5, b6⟩
        · refine ⟨by rw [a2, b2, hn], hW, by omega, fun i hi => ?_⟩
          have y1 := a5 (i : Int) (by omega) (by omega)
          have y2 := b5 (i : Int) (by omega) (by omega)
          have y3 := a1.2.2.2 (i : Int) (by omega) (by omega)
          have z1 := hI.2.2.1 (2 * (i : Int)).toNat (by omega)
          have z2 := hI.2.2.1 (2 * (i : Int) + 1).toNat (by omega)
          have z3 := g_tape hI.1.1 (2 * (i : Int)).toNat
          have z4 := g_tape hI.1.1 (2 * (i : Int) + 1).toNat
          rw [Int.toNat_natCast] at y1 y2
          rw [f1 171 _ rfl rfl, f1 171 _ rfl rfl] at y2
          have x1 : s2 116 i = s1 116 i := f2 116 i rfl rfl
          have x2 : s2 117 i = s1 117 i := f2 117 i rfl rfl
          have y4 : st 2 (2 * (i : Int) + 1).toNat % 256 < st 122 1 := y3.2
          omega
        · exact absurd (he.mpr a1) b1
      · rcases o2 with ⟨b1, b2, b3, b4, b5⟩ | ⟨b1, b2, b3, b4, b5, b6⟩
        · exact absurd (he.mp b1) a1
        · refine ⟨by rw [a2, b2], hW, by omega, fun i hi => ?_⟩
          have y := hI.2.2.2.2.2.2.2 i (by omega)
          have x1 : s2 116 i = st 116 i := (f2 116 i rfl rfl).trans (a4 i)
          have x2 : s2 117 i = st 117 i := (f2 117 i rfl rfl).trans (a5 i)
          have x3 : s2 216 i = st 216 i := (b4 i).trans (f1 216 i rfl rfl)
          have x4 : s2 217 i = st 217 i := (b5 i).trans (f1 217 i rfl rfl)
          omega
    have ze := hzr.1
    have hON := zON_fr g1 f2 (fun _ => rfl) rfl rfl rfl rfl rfl rfl rfl (zON_fr hI.1.1 f1 (fun _ => rfl) rfl rfl rfl rfl rfl rfl rfl ⟨hI.2.2.2.1, hI.2.2.2.2.1⟩)
    have hZ : zT s2 := ⟨⟨g2, zJ_fr rfl f2 (zJ_fr rfl f1 hI.1.2)⟩, ((f2 1 1 rfl rfl).trans tz1).trans tz2.symm, (fun i hi => absurd hi (by rw [f2 1 1 rfl rfl, tz1]; omega)), hON.1, hON.2, hzr.2⟩
    refine ⟨⟨by omega, by omega⟩, ?_⟩
    exact ih s2 hZ
  · have hcm : zmo (wcL [(161, k_wHalfB), (164, k_vHalf)]) (cl 200) := wcL_m (wm_cons (k_wHalfB_m hTb (by omega)) (wm_cons (k_vHalf_m hTb (by omega)) wm_nil))
    refine lr1_ok (wc := (wcL [(161, k_wHalfB), (164, k_vHalf)])) (stp := [18]) hcm hcl 80 ?_
    show (0 = 0 ∧ (rq_wHalfB st ∧ (∀ (r1 : Int) (s1 : zS), en_wHalfB st r1 s1 → (170 = 170 ∧ (rq_vHalf s1 ∧ (∀ (r2 : Int) (s2 : zS), en_vHalf s1 r2 s2 → ((-2147483648 ≤ i + 6 ∧ i + 6 ≤ 2147483647) ∧ K (rx_find rx_mL 18) [(3, .inl (i + 6)), (2, .inr (.inr (.inl 170))), (1, .inr (.inr (.inl 0))), (0, .inr (.inr (.inr 0)))] [] s2)))))))
    refine ⟨rfl, ⟨hI.1.1, h8⟩, fun r1 s1 q1 => ?_⟩
    refine ⟨rfl, q1.1, fun r2 s2 q2 => ?_⟩
    obtain ⟨g1, f1, tz1, o1⟩ := q1
    obtain ⟨g2, f2, tz2, o2⟩ := q2
    have hzr : r1 = r2 ∧ zRw s2 := by
      have hn : s1 170 1 = st 1 1 := (f1 170 1 rfl rfl).trans hI.2.1.symm
      have hp : s1 172 (s1 170 13).toNat = st 135 1 := by
        rw [f1 170 13 rfl rfl, f1 172 _ rfl rfl]
        exact hr.1.1
      have he : HFok (fun j : Int => s1 171 j.toNat) (s1 170 1) (s1 172 (s1 170 13).toNat) ↔ HFok (fun j : Int => st 2 j.toNat % 256) (st 1 1) (st 135 1) := by
        rw [hp, hn]
        refine HFok_e (fun j z1 z2 => ?_)
        show s1 171 j.toNat = st 2 j.toNat % 256
        rw [f1 171 _ rfl rfl]
        have z3 := hI.2.2.1 j.toNat (by omega)
        have z4 := g_tape hI.1.1 j.toNat
        omega
      have h8s : s2 0 8 = st 0 8 := (f2 0 8 rfl rfl).trans (f1 0 8 rfl rfl)
      have t1 : tn 122 s2 = tn 122 st := (tn_fr (x := 122) rfl f2).trans (tn_fr (x := 122) rfl f1)
      have t2 : tn 135 s2 = tn 135 st := (tn_fr (x := 135) rfl f2).trans (tn_fr (x := 135) rfl f1)
      have hw : TW (tn 135 st) := hI.2.2.2.2.2.1.2 h8
      have hp8 : 0 ≤ st 135 1 ∧ st 135 1 ≤ 8 := hw.1.1
      have hW : (s2 0 8 = 122 → TW (tn 122 s2)) ∧ (s2 0 8 = 135 → TW (tn 135 s2)) := by rw [h8s, t1, t2]; exact hI.2.2.2.2.2.1
      have c5 : s2 115 5 = s1 115 5 := f2 115 5 rfl rfl
      have d5 : s1 170 71 = st 170 71 := f1 170 71 rfl rfl
      have hk := hI.2.2.2.2.2.2.1
      rcases o1 with ⟨a1, a2, a3, a4, a5⟩ | ⟨a1, a2, a3, a4, a5, a6⟩
      · rcases o2 with ⟨b1, b2, b3, b4, b5⟩ | ⟨b1, b2, b3, b4, b5, b6⟩
        · refine ⟨by rw [a2, b2, hn], hW, by omega, fun i hi => ?_⟩
          have y1 := a5 (i : Int) (by omega) (by omega)
          have y2 := b5 (i : Int) (by omega) (by omega)
          have y3 := a1.2.2.2 (i : Int) (by omega) (by omega)
          have z1 := hI.2.2.1 (2 * (i : Int)).toNat (by omega)
          have z2 := hI.2.2.1 (2 * (i : Int) + 1).toNat (by omega)
          have z3 := g_tape hI.1.1 (2 * (i : Int)).toNat
          have z4 := g_tape hI.1.1 (2 * (i : Int) + 1).toNat
          rw [Int.toNat_natCast] at y1 y2
          rw [f1 171 _ rfl rfl, f1 171 _ rfl rfl] at y2
          have x1 : s2 116 i = s1 116 i := f2 116 i rfl rfl
          have x2 : s2 117 i = s1 117 i := f2 117 i rfl rfl
          have y4 : st 2 (2 * (i : Int) + 1).toNat % 256 < st 135 1 := y3.2
          omega
        · exact absurd (he.mpr a1) b1
      · rcases o2 with ⟨b1, b2, b3, b4, b5⟩ | ⟨b1, b2, b3, b4, b5, b6⟩
        · exact absurd (he.mp b1) a1
        · refine ⟨by rw [a2, b2], hW, by omega, fun i hi => ?_⟩
          have y := hI.2.2.2.2.2.2.2 i (by omega)
          have x1 : s2 116 i = st 116 i := (f2 116 i rfl rfl).trans (a4 i)
          have x2 : s2 117 i = st 117 i := (f2 117 i rfl rfl).trans (a5 i)
          have x3 : s2 216 i = st 216 i := (b4 i).trans (f1 216 i rfl rfl)
          have x4 : s2 217 i = st 217 i := (b5 i).trans (f1 217 i rfl rfl)
          omega
    have ze := hzr.1
    have hON := zON_fr g1 f2 (fun _ => rfl) rfl rfl rfl rfl rfl rfl rfl (zON_fr hI.1.1 f1 (fun _ => rfl) rfl rfl rfl rfl rfl rfl rfl ⟨hI.2.2.2.1, hI.2.2.2.2.1⟩)
    have hZ : zT s2 := ⟨⟨g2, zJ_fr rfl f2 (zJ_fr rfl f1 hI.1.2)⟩, ((f2 1 1 rfl rfl).trans tz1).trans tz2.symm, (fun i hi => absurd hi (by rw [f2 1 1 rfl rfl, tz1]; omega)), hON.1, hON.2, hzr.2⟩
    refine ⟨⟨by omega, by omega⟩, ?_⟩
    exact ih s2 hZ
set_option maxRecDepth 100000 in
set_option maxHeartbeats 4000000 in
theorem lcase20 (hTb : aTb zSh rx_tb cl) (hcl : lcl N xs (cl 200) K) {i : Int} (h0 : 0 ≤ i) (h1 : i + 6 ≤ (N : Int)) (hN : N ≤ 3072) {st : zS} (hI : zT st) (ih : ∀ s1, zT s1 → K (rx_find rx_mL 18) [(3, .inl (i + 6)), (2, .inr (.inr (.inl 170))), (1, .inr (.inr (.inl 0))), (0, .inr (.inr (.inr 0)))] [] s1) : K (rx_find rx_mL 732) [(3, .inl i), (2, .inr (.inr (.inl 170))), (1, .inr (.inr (.inl 0))), (0, .inr (.inr (.inr 0)))] [] st := by
  have hcm : zmo (wcL [(38, (kT zu_19)), (50, k_filled)]) (cl 200) := wcL_m (wm_cons (kT_m (z_all hTb 200 38 (none, [zu_19]) zu_19 rfl List.mem_cons_self) rfl (by decide) (by decide +kernel) rfl (fun _ => rfl) rfl rfl rfl rfl rfl rfl rfl rfl (fun _ => rfl) rfl (fun _ => rfl) rfl rfl rfl rfl rfl rfl (fun _ => rfl) rfl (fun _ => rfl) rfl rfl (fun _ => rfl) rfl (fun _ => rfl) rfl) (wm_cons (k_filled_m hTb (by omega)) wm_nil))
  refine lr1_ok (wc := (wcL [(38, (kT zu_19)), (50, k_filled)])) (stp := [18]) hcm hcl 80 ?_
  show ((-2147483648 ≤ i + (1 : Int) ∧ i + (1 : Int) ≤ 2147483647) ∧ (0 = 0 ∧ ((0 ≤ i + (1 : Int) ∧ i + (1 : Int) < (N : Int)) ∧ (aTs zu_19.1 [.inr (.inr (.inl 0)), .inl ((xs (i + (1 : Int) : Int).toNat).toInt)] ∧ (zT st ∧ (∀ (r1 : Int) (s1 : zS), zT s1 → ((-2147483648 ≤ i + (1 : Int) ∧ i + (1 : Int) ≤ 2147483647) ∧ (0 = 0 ∧ ((0 ≤ i + (1 : Int) ∧ i + (1 : Int) < (N : Int)) ∧ (170 = 170 ∧ (rq_filled ((xs (i + (1 : Int) : Int).toNat).toInt) s1 ∧ (∀ (r2 : Int) (s2 : zS), en_filled ((xs (i + (1 : Int) : Int).toNat).toInt) s1 r2 s2 → ((-2147483648 ≤ i + 6 ∧ i + 6 ≤ 2147483647) ∧ K (rx_find rx_mL 18) [(3, .inl (i + 6)), (2, .inr (.inr (.inl 170))), (1, .inr (.inr (.inl 0))), (0, .inr (.inr (.inr 0)))] [] s2)))))))))))))
  refine ⟨⟨by omega, by omega⟩, ?_⟩
  refine ⟨rfl, ⟨by omega, by omega⟩, ?_⟩
  refine ⟨⟨rfl, zsI_toInt _, True.intro⟩, hI, fun r1 s1 q1 => ?_⟩
  refine ⟨⟨by omega, by omega⟩, ?_⟩
  refine ⟨rfl, ⟨by omega, by omega⟩, ?_⟩
  refine ⟨rfl, q1.1, fun r2 s2 q2 => ?_⟩
  refine ⟨⟨by omega, by omega⟩, ?_⟩
  exact ih s2 (zT_V q2.1 q2.2.1 q2.2.2.1 q2.2.2.2 q1)
set_option maxRecDepth 100000 in
set_option maxHeartbeats 4000000 in
theorem lcase21 (hTb : aTb zSh rx_tb cl) (hcl : lcl N xs (cl 200) K) {i : Int} (h0 : 0 ≤ i) (h1 : i + 6 ≤ (N : Int)) (hN : N ≤ 3072) {st : zS} (hI : zT st) (ih : ∀ s1, zT s1 → K (rx_find rx_mL 18) [(3, .inl (i + 6)), (2, .inr (.inr (.inl 170))), (1, .inr (.inr (.inl 0))), (0, .inr (.inr (.inr 0)))] [] s1) : K (rx_find rx_mL 755) [(3, .inl i), (2, .inr (.inr (.inl 170))), (1, .inr (.inr (.inl 0))), (0, .inr (.inr (.inr 0)))] [] st := by
  rcases hI.2.2.2.2.1 with ⟨h8, hr⟩ | ⟨h8, hr⟩
  · have hcm : zmo (wcL [(24, k_wFillingA), (30, (k_vFilling (tn 122 st)))]) (cl 200) := wcL_m (wm_cons (k_wFillingA_m hTb (by omega)) (wm_cons (k_vFilling_m hTb (by omega)) wm_nil))
    refine lr1_ok (wc := (wcL [(24, k_wFillingA), (30, (k_vFilling (tn 122 st)))])) (stp := [18]) hcm hcl 80 ?_
    show ((-2147483648 ≤ i + (1 : Int) ∧ i + (1 : Int) ≤ 2147483647) ∧ (0 = 0 ∧ ((0 ≤ i + (1 : Int) ∧ i + (1 : Int) < (N : Int)) ∧ ((-2147483648 ≤ i + (2 : Int) ∧ i + (2 : Int) ≤ 2147483647) ∧ (0 = 0 ∧ ((0 ≤ i + (2 : Int) ∧ i + (2 : Int) < (N : Int)) ∧ (0 = 0 ∧ (rq_wFillingA ((xs (i + (1 : Int) : Int).toNat).toInt) ((xs (i + (2 : Int) : Int).toNat).toInt) st ∧ (∀ (r1 : Int) (s1 : zS), en_wFillingA ((xs (i + (1 : Int) : Int).toNat).toInt) ((xs (i + (2 : Int) : Int).toNat).toInt) st r1 s1 → ((-2147483648 ≤ i + (1 : Int) ∧ i + (1 : Int) ≤ 2147483647) ∧ (0 = 0 ∧ ((0 ≤ i + (1 : Int) ∧ i + (1 : Int) < (N : Int)) ∧ ((-2147483648 ≤ i + (2 : Int) ∧ i + (2 : Int) ≤ 2147483647) ∧ (0 = 0 ∧ ((0 ≤ i + (2 : Int) ∧ i + (2 : Int) < (N : Int)) ∧ (170 = 170 ∧ (rq_vFilling (tn 122 st) ((xs (i + (1 : Int) : Int).toNat).toInt) ((xs (i + (2 : Int) : Int).toNat).toInt) s1 ∧ (∀ (r2 : Int) (s2 : zS), en_vFilling (tn 122 st) ((xs (i + (1 : Int) : Int).toNat).toInt) ((xs (i + (2 : Int) : Int).toNat).toInt) s1 r2 s2 → ((r1 = r2 → ((-2147483648 ≤ i + 6 ∧ i + 6 ≤ 2147483647) ∧ K (rx_find rx_mL 18) [(3, .inl (i + 6)), (2, .inr (.inr (.inl 170))), (1, .inr (.inr (.inl 0))), (0, .inr (.inr (.inr 0)))] [] s2)) ∧ (¬ (r1 = r2) → ((0 : Int) = 1)))))))))))))))))))))
    refine ⟨⟨by omega, by omega⟩, ?_⟩
    refine ⟨rfl, ⟨by omega, by omega⟩, ?_⟩
    refine ⟨⟨by omega, by omega⟩, ?_⟩
    refine ⟨rfl, ⟨by omega, by omega⟩, ?_⟩
    refine ⟨rfl, ⟨hI.1.1, h8, (hI.2.2.2.2.2.1.1 h8), fun i hi => (hI.2.2.2.2.2.2.2 i hi).2.2⟩, fun r1 s1 q1 => ?_⟩
    refine ⟨⟨by omega, by omega⟩, ?_⟩
    refine ⟨rfl, ⟨by omega, by omega⟩, ?_⟩
    refine ⟨⟨by omega, by omega⟩, ?_⟩
    refine ⟨rfl, ⟨by omega, by omega⟩, ?_⟩
    refine ⟨rfl, ⟨q1.1, (by rw [show s1 170 13 = st 170 13 from q1.2.1 170 13 rfl rfl]; exact RT_fr rfl q1.2.1 hr), (hI.2.2.2.2.2.1.1 h8)⟩, fun r2 s2 q2 => ?_⟩
    obtain ⟨g1, f1, e1⟩ := q1
    obtain ⟨g2, f2, e2⟩ := q2
    have ze : r1 = r2 := by
      have e1 : r1 = fG (tn 122 st) (st 116) (st 117) (st 115 5) ((xs (i + (1 : Int) : Int).toNat).toInt) ((xs (i + (2 : Int) : Int).toNat).toInt) := e1
      have e2 : r2 = fG (tn 122 st) (s1 216) (s1 217) (s1 170 71) ((xs (i + (1 : Int) : Int).toNat).toInt) ((xs (i + (2 : Int) : Int).toNat).toInt) := e2
      rw [e1, e2, show s1 216 = st 216 from funext (fun i => f1 216 i rfl rfl), show s1 217 = st 217 from funext (fun i => f1 217 i rfl rfl), show s1 170 71 = st 170 71 from f1 170 71 rfl rfl, ← hI.2.2.2.2.2.2.1]
      have hf := flo_e (n := ((xs (i + (1 : Int) : Int).toNat).toInt)) (fun (i : Nat) (hi : (i : Int) < st 115 5) => (⟨(hI.2.2.2.2.2.2.2 i hi).1, (hI.2.2.2.2.2.2.2 i hi).2.1⟩ : st 116 i = st 216 i ∧ st 117 i = st 217 i))
      unfold fG
      rw [hf]
    have hZ1 : zT s1 := zT_fr g1 (zJ_fr rfl f1 hI.1.2) f1 (fun _ => rfl) rfl rfl rfl rfl rfl rfl rfl rfl (fun _ => rfl) rfl (fun _ => rfl) rfl rfl rfl rfl ⟨f1 115 5 rfl rfl, fun i => f1 116 i rfl rfl, fun i => f1 117 i rfl rfl, f1 170 71 rfl rfl, fun i => f1 216 i rfl rfl, fun i => f1 217 i rfl rfl⟩ hI
    have hZ : zT s2 := zT_fr g2 (zJ_fr rfl f2 hZ1.1.2) f2 (fun _ => rfl) rfl rfl rfl rfl rfl rfl rfl rfl (fun _ => rfl) rfl (fun _ => rfl) rfl rfl rfl rfl ⟨f2 115 5 rfl rfl, fun i => f2 116 i rfl rfl, fun i => f2 117 i rfl rfl, f2 170 71 rfl rfl, fun i => f2 216 i rfl rfl, fun i => f2 217 i rfl rfl⟩ hZ1
    refine ⟨fun hb => ?_, fun hb => ?_⟩
    · refine ⟨⟨by omega, by omega⟩, ?_⟩
      exact ih s2 hZ
    · exfalso
      omega
  · have hcm : zmo (wcL [(24, k_wFillingB), (30, (k_vFilling (tn 135 st)))]) (cl 200) := wcL_m (wm_cons (k_wFillingB_m hTb (by omega)) (wm_cons (k_vFilling_m hTb (by omega)) wm_nil))
    refine lr1_ok (wc := (wcL [(24, k_wFillingB), (30, (k_vFilling (tn 135 st)))])) (stp := [18]) hcm hcl 80 ?_
    show ((-2147483648 ≤ i + (1 : Int) ∧ i + (1 : Int) ≤ 2147483647) ∧ (0 = 0 ∧ ((0 ≤ i + (1 : Int) ∧ i + (1 : Int) < (N : Int)) ∧ ((-2147483648 ≤ i + (2 : Int) ∧ i + (2 : Int) ≤ 2147483647) ∧ (0 = 0 ∧ ((0 ≤ i + (2 : Int) ∧ i + (2 : Int) < (N : Int)) ∧ (0 = 0 ∧ (rq_wFillingB ((xs (i + (1 : Int) : Int).toNat).toInt) ((xs (i + (2 : Int) : Int).toNat).toInt) st ∧ (∀ (r1 : Int) (s1 : zS), en_wFillingB ((xs (i + (1 : Int) : Int).toNat).toInt) ((xs (i + (2 : Int) : Int).toNat).toInt) st r1 s1 → ((-2147483648 ≤ i + (1 : Int) ∧ i + (1 : Int) ≤ 2147483647) ∧ (0 = 0 ∧ ((0 ≤ i + (1 : Int) ∧ i + (1 : Int) < (N : Int)) ∧ ((-2147483648 ≤ i + (2 : Int) ∧ i + (2 : Int) ≤ 2147483647) ∧ (0 = 0 ∧ ((0 ≤ i + (2 : Int) ∧ i + (2 : Int) < (N : Int)) ∧ (170 = 170 ∧ (rq_vFilling (tn 135 st) ((xs (i + (1 : Int) : Int).toNat).toInt) ((xs (i + (2 : Int) : Int).toNat).toInt) s1 ∧ (∀ (r2 : Int) (s2 : zS), en_vFilling (tn 135 st) ((xs (i + (1 : Int) : Int).toNat).toInt) ((xs (i + (2 : Int) : Int).toNat).toInt) s1 r2 s2 → ((r1 = r2 → ((-2147483648 ≤ i + 6 ∧ i + 6 ≤ 2147483647) ∧ K (rx_find rx_mL 18) [(3, .inl (i + 6)), (2, .inr (.inr (.inl 170))), (1, .inr (.inr (.inl 0))), (0, .inr (.inr (.inr 0)))] [] s2)) ∧ (¬ (r1 = r2) → ((0 : Int) = 1)))))))))))))))))))))
    refine ⟨⟨by omega, by omega⟩, ?_⟩
    refine ⟨rfl, ⟨by omega, by omega⟩, ?_⟩
    refine ⟨⟨by omega, by omega⟩, ?_⟩
    refine ⟨rfl, ⟨by omega, by omega⟩, ?_⟩
    refine ⟨rfl, ⟨hI.1.1, h8, (hI.2.2.2.2.2.1.2 h8), fun i hi => (hI.2.2.2.2.2.2.2 i hi).2.2⟩, fun r1 s1 q1 => ?_⟩
    refine ⟨⟨by omega, by omega⟩, ?_⟩
    refine ⟨rfl, ⟨by omega, by omega⟩, ?_⟩
    refine ⟨⟨by omega, by omega⟩, ?_⟩
    refine ⟨rfl, ⟨by omega, by omega⟩, ?_⟩
    refine ⟨rfl, ⟨q1.1, (by rw [show s1 170 13 = st 170 13 from q1.2.1 170 13 rfl rfl]; exact RT_fr rfl q1.2.1 hr), (hI.2.2.2.2.2.1.2 h8)⟩, fun r2 s2 q2 => ?_⟩
    obtain ⟨g1, f1, e1⟩ := q1
    obtain ⟨g2, f2, e2⟩ := q2
    have ze : r1 = r2 := by
      have e1 : r1 = fG (tn 135 st) (st 116) (st 117) (st 115 5) ((xs (i + (1 : Int) : Int).toNat).toInt) ((xs (i + (2 : Int) : Int).toNat).toInt) := e1
      have e2 : r2 = fG (tn 135 st) (s1 216) (s1 217) (s1 170 71) ((xs (i + (1 : Int) : Int).toNat).toInt) ((xs (i + (2 : Int) : Int).toNat).toInt) := e2
      rw [e1, e2, show s1 216 = st 216 from funext (fun i => f1 216 i rfl rfl), show s1 217 = st 217 from funext (fun i => f1 217 i rfl rfl), show s1 170 71 = st 170 71 from f1 170 71 rfl rfl, ← hI.2.2.2.2.2.2.1]
      have hf := flo_e (n := ((xs (i + (1 : Int) : Int).toNat).toInt)) (fun (i : Nat) (hi : (i : Int) < st 115 5) => (⟨(hI.2.2.2.2.2.2.2 i hi).1, (hI.2.2.2.2.2.2.2 i hi).2.1⟩ : st 116 i = st 216 i ∧ st 117 i = st 217 i))
      unfold fG
      rw [hf]
    have hZ1 : zT s1 := zT_fr g1 (zJ_fr rfl f1 hI.1.2) f1 (fun _ => rfl) rfl rfl rfl rfl rfl rfl rfl rfl (fun _ => rfl) rfl (fun _ => rfl) rfl rfl rfl rfl ⟨f1 115 5 rfl rfl, fun i => f1 116 i rfl rfl, fun i => f1 117 i rfl rfl, f1 170 71 rfl rfl, fun i => f1 216 i rfl rfl, fun i => f1 217 i rfl rfl⟩ hI
    have hZ : zT s2 := zT_fr g2 (zJ_fr rfl f2 hZ1.1.2) f2 (fun _ => rfl) rfl rfl rfl rfl rfl rfl rfl rfl (fun _ => rfl) rfl (fun _ => rfl) rfl rfl rfl rfl ⟨f2 115 5 rfl rfl, fun i => f2 116 i rfl rfl, fun i => f2 117 i rfl rfl, f2 170 71 rfl rfl, fun i => f2 216 i rfl rfl, fun i => f2 217 i rfl rfl⟩ hZ1
    refine ⟨fun hb => ?_, fun hb => ?_⟩
    · refine ⟨⟨by omega, by omega⟩, ?_⟩
      exact ih s2 hZ
    · exfalso
      omega
set_option maxRecDepth 100000 in
set_option maxHeartbeats 4000000 in
theorem lcase22 (hTb : aTb zSh rx_tb cl) (hcl : lcl N xs (cl 200) K) {i : Int} (h0 : 0 ≤ i) (h1 : i + 6 ≤ (N : Int)) (hN : N ≤ 3072) {st : zS} (hI : zT st) (ih : ∀ s1, zT s1 → K (rx_find rx_mL 18) [(3, .inl (i + 6)), (2, .inr (.inr (.inl 170))), (1, .inr (.inr (.inl 0))), (0, .inr (.inr (.inr 0)))] [] s1) : K (rx_find rx_mL 788) [(3, .inl i), (2, .inr (.inr (.inl 170))), (1, .inr (.inr (.inl 0))), (0, .inr (.inr (.inr 0)))] [] st := by
  have hcm : zmo (wcL [(37, (kT zu_21)), (48, k_asked)]) (cl 200) := wcL_m (wm_cons (kT_m (z_all hTb 200 37 (none, [zu_21]) zu_21 rfl List.mem_cons_self) rfl (by decide) (by decide +kernel) rfl (fun _ => rfl) rfl rfl rfl rfl rfl rfl rfl rfl (fun _ => rfl) rfl (fun _ => rfl) rfl rfl rfl rfl rfl rfl (fun _ => rfl) rfl (fun _ => rfl) rfl rfl (fun _ => rfl) rfl (fun _ => rfl) rfl) (wm_cons (k_asked_m hTb (by omega)) wm_nil))
  refine lr1_ok (wc := (wcL [(37, (kT zu_21)), (48, k_asked)])) (stp := [18]) hcm hcl 80 ?_
  show ((-2147483648 ≤ i + (1 : Int) ∧ i + (1 : Int) ≤ 2147483647) ∧ (0 = 0 ∧ ((0 ≤ i + (1 : Int) ∧ i + (1 : Int) < (N : Int)) ∧ ((-2147483648 ≤ i + (2 : Int) ∧ i + (2 : Int) ≤ 2147483647) ∧ (0 = 0 ∧ ((0 ≤ i + (2 : Int) ∧ i + (2 : Int) < (N : Int)) ∧ (aTs zu_21.1 [.inr (.inr (.inl 0)), .inl ((xs (i + (1 : Int) : Int).toNat).toInt), .inl ((xs (i + (2 : Int) : Int).toNat).toInt)] ∧ (zT st ∧ (∀ (r1 : Int) (s1 : zS), zT s1 → ((-2147483648 ≤ i + (1 : Int) ∧ i + (1 : Int) ≤ 2147483647) ∧ (0 = 0 ∧ ((0 ≤ i + (1 : Int) ∧ i + (1 : Int) < (N : Int)) ∧ ((-2147483648 ≤ i + (2 : Int) ∧ i + (2 : Int) ≤ 2147483647) ∧ (0 = 0 ∧ ((0 ≤ i + (2 : Int) ∧ i + (2 : Int) < (N : Int)) ∧ (170 = 170 ∧ (rq_asked ((xs (i + (1 : Int) : Int).toNat).toInt) ((xs (i + (2 : Int) : Int).toNat).toInt) s1 ∧ (∀ (r2 : Int) (s2 : zS), en_asked ((xs (i + (1 : Int) : Int).toNat).toInt) ((xs (i + (2 : Int) : Int).toNat).toInt) s1 r2 s2 → ((-2147483648 ≤ i + 6 ∧ i + 6 ≤ 2147483647) ∧ K (rx_find rx_mL 18) [(3, .inl (i + 6)), (2, .inr (.inr (.inl 170))), (1, .inr (.inr (.inl 0))), (0, .inr (.inr (.inr 0)))] [] s2)))))))))))))))))))
  refine ⟨⟨by omega, by omega⟩, ?_⟩
  refine ⟨rfl, ⟨by omega, by omega⟩, ?_⟩
  refine ⟨⟨by omega, by omega⟩, ?_⟩
  refine ⟨rfl, ⟨by omega, by omega⟩, ?_⟩
  refine ⟨⟨rfl, zsI_toInt _, zsI_toInt _, True.intro⟩, hI, fun r1 s1 q1 => ?_⟩
  refine ⟨⟨by omega, by omega⟩, ?_⟩
  refine ⟨rfl, ⟨by omega, by omega⟩, ?_⟩
  refine ⟨⟨by omega, by omega⟩, ?_⟩
  refine ⟨rfl, ⟨by omega, by omega⟩, ?_⟩
  refine ⟨rfl, q1.1, fun r2 s2 q2 => ?_⟩
  refine ⟨⟨by omega, by omega⟩, ?_⟩
  exact ih s2 (zT_V q2.1 q2.2.1 q2.2.2.1 q2.2.2.2 q1)
set_option maxRecDepth 100000 in
set_option maxHeartbeats 4000000 in
theorem lcase23 (hTb : aTb zSh rx_tb cl) (hcl : lcl N xs (cl 200) K) {i : Int} (h0 : 0 ≤ i) (h1 : i + 6 ≤ (N : Int)) (hN : N ≤ 3072) {st : zS} (hI : zT st) (ih : ∀ s1, zT s1 → K (rx_find rx_mL 18) [(3, .inl (i + 6)), (2, .inr (.inr (.inl 170))), (1, .inr (.inr (.inl 0))), (0, .inr (.inr (.inr 0)))] [] s1) : K (rx_find rx_mL 821) [(3, .inl i), (2, .inr (.inr (.inl 170))), (1, .inr (.inr (.inl 0))), (0, .inr (.inr (.inr 0)))] [] st := by
  have hcm : zmo (wcL [(114, (kT zu_22)), (115, k_years)]) (cl 200) := wcL_m (wm_cons (kT_m (z_all hTb 200 114 (none, [zu_22]) zu_22 rfl List.mem_cons_self) rfl (by decide) (by decide +kernel) rfl (fun _ => rfl) rfl rfl rfl rfl rfl rfl rfl rfl (fun _ => rfl) rfl (fun _ => rfl) rfl rfl rfl rfl rfl rfl (fun _ => rfl) rfl (fun _ => rfl) rfl rfl (fun _ => rfl) rfl (fun _ => rfl) rfl) (wm_cons (k_years_m hTb (by omega)) wm_nil))
  refine lr1_ok (wc := (wcL [(114, (kT zu_22)), (115, k_years)])) (stp := [18]) hcm hcl 80 ?_
  show ((-2147483648 ≤ i + (1 : Int) ∧ i + (1 : Int) ≤ 2147483647) ∧ (0 = 0 ∧ ((0 ≤ i + (1 : Int) ∧ i + (1 : Int) < (N : Int)) ∧ (aTs zu_22.1 [.inr (.inr (.inl 0)), .inl ((xs (i + (1 : Int) : Int).toNat).toInt)] ∧ (zT st ∧ (∀ (r1 : Int) (s1 : zS), zT s1 → ((-2147483648 ≤ i + (1 : Int) ∧ i + (1 : Int) ≤ 2147483647) ∧ (0 = 0 ∧ ((0 ≤ i + (1 : Int) ∧ i + (1 : Int) < (N : Int)) ∧ (170 = 170 ∧ (rq_years ((xs (i + (1 : Int) : Int).toNat).toInt) s1 ∧ (∀ (r2 : Int) (s2 : zS), en_years ((xs (i + (1 : Int) : Int).toNat).toInt) s1 r2 s2 → ((-2147483648 ≤ i + 6 ∧ i + 6 ≤ 2147483647) ∧ K (rx_find rx_mL 18) [(3, .inl (i + 6)), (2, .inr (.inr (.inl 170))), (1, .inr (.inr (.inl 0))), (0, .inr (.inr (.inr 0)))] [] s2)))))))))))))
  refine ⟨⟨by omega, by omega⟩, ?_⟩
  refine ⟨rfl, ⟨by omega, by omega⟩, ?_⟩
  refine ⟨⟨rfl, zsI_toInt _, True.intro⟩, hI, fun r1 s1 q1 => ?_⟩
  refine ⟨⟨by omega, by omega⟩, ?_⟩
  refine ⟨rfl, ⟨by omega, by omega⟩, ?_⟩
  refine ⟨rfl, q1.1, fun r2 s2 q2 => ?_⟩
  refine ⟨⟨by omega, by omega⟩, ?_⟩
  exact ih s2 (zT_V q2.1 q2.2.1 q2.2.2.1 q2.2.2.2 q1)
set_option maxRecDepth 100000 in
set_option maxHeartbeats 4000000 in
theorem lcase24 (hTb : aTb zSh rx_tb cl) (hcl : lcl N xs (cl 200) K) {i : Int} (h0 : 0 ≤ i) (h1 : i + 6 ≤ (N : Int)) (hN : N ≤ 3072) {st : zS} (hI : zT st) (ih : ∀ s1, zT s1 → K (rx_find rx_mL 18) [(3, .inl (i + 6)), (2, .inr (.inr (.inl 170))), (1, .inr (.inr (.inl 0))), (0, .inr (.inr (.inr 0)))] [] s1) : K (rx_find rx_mL 844) [(3, .inl i), (2, .inr (.inr (.inl 170))), (1, .inr (.inr (.inl 0))), (0, .inr (.inr (.inr 0)))] [] st := by
  have hcm : zmo (wcL [(116, (kT zu_23)), (117, k_chance)]) (cl 200) := wcL_m (wm_cons (kT_m (z_all hTb 200 116 (none, [zu_23]) zu_23 rfl List.mem_cons_self) rfl (by decide) (by decide +kernel) rfl (fun _ => rfl) rfl rfl rfl rfl rfl rfl rfl rfl (fun _ => rfl) rfl (fun _ => rfl) rfl rfl rfl rfl rfl rfl (fun _ => rfl) rfl (fun _ => rfl) rfl rfl (fun _ => rfl) rfl (fun _ => rfl) rfl) (wm_cons (k_chance_m hTb (by omega)) wm_nil))
  refine lr1_ok (wc := (wcL [(116, (kT zu_23)), (117, k_chance)])) (stp := [18]) hcm hcl 80 ?_
  show ((-2147483648 ≤ i + (1 : Int) ∧ i + (1 : Int) ≤ 2147483647) ∧ (0 = 0 ∧ ((0 ≤ i + (1 : Int) ∧ i + (1 : Int) < (N : Int)) ∧ (aTs zu_23.1 [.inr (.inr (.inl 0)), .inl ((xs (i + (1 : Int) : Int).toNat).toInt)] ∧ (zT st ∧ (∀ (r1 : Int) (s1 : zS), zT s1 → ((-2147483648 ≤ i + (1 : Int) ∧ i + (1 : Int) ≤ 2147483647) ∧ (0 = 0 ∧ ((0 ≤ i + (1 : Int) ∧ i + (1 : Int) < (N : Int)) ∧ (170 = 170 ∧ (rq_chance ((xs (i + (1 : Int) : Int).toNat).toInt) s1 ∧ (∀ (r2 : Int) (s2 : zS), en_chance ((xs (i + (1 : Int) : Int).toNat).toInt) s1 r2 s2 → ((-2147483648 ≤ i + 6 ∧ i + 6 ≤ 2147483647) ∧ K (rx_find rx_mL 18) [(3, .inl (i + 6)), (2, .inr (.inr (.inl 170))), (1, .inr (.inr (.inl 0))), (0, .inr (.inr (.inr 0)))] [] s2)))))))))))))
  refine ⟨⟨by omega, by omega⟩, ?_⟩
  refine ⟨rfl, ⟨by omega, by omega⟩, ?_⟩
  refine ⟨⟨rfl, zsI_toInt _, True.intro⟩, hI, fun r1 s1 q1 => ?_⟩
  refine ⟨⟨by omega, by omega⟩, ?_⟩
  refine ⟨rfl, ⟨by omega, by omega⟩, ?_⟩
  refine ⟨rfl, q1.1, fun r2 s2 q2 => ?_⟩
  refine ⟨⟨by omega, by omega⟩, ?_⟩
  exact ih s2 (zT_V q2.1 q2.2.1 q2.2.2.1 q2.2.2.2 q1)
set_option maxRecDepth 100000 in
set_option maxHeartbeats 4000000 in
theorem lcase25 (hTb : aTb zSh rx_tb cl) (hcl : lcl N xs (cl 200) K) {i : Int} (h0 : 0 ≤ i) (h1 : i + 6 ≤ (N : Int)) (hN : N ≤ 3072) {st : zS} (hI : zT st) (ih : ∀ s1, zT s1 → K (rx_find rx_mL 18) [(3, .inl (i + 6)), (2, .inr (.inr (.inl 170))), (1, .inr (.inr (.inl 0))), (0, .inr (.inr (.inr 0)))] [] s1) : K (rx_find rx_mL 867) [(3, .inl i), (2, .inr (.inr (.inl 170))), (1, .inr (.inr (.inl 0))), (0, .inr (.inr (.inr 0)))] [] st := by
  have hcm : zmo (wcL [(118, (kT zu_24)), (132, k_shut)]) (cl 200) := wcL_m (wm_cons (kT_m (z_all hTb 200 118 (none, [zu_24]) zu_24 rfl List.mem_cons_self) rfl (by decide) (by decide +kernel) rfl (fun _ => rfl) rfl rfl rfl rfl rfl rfl rfl rfl (fun _ => rfl) rfl (fun _ => rfl) rfl rfl rfl rfl rfl rfl (fun _ => rfl) rfl (fun _ => rfl) rfl rfl (fun _ => rfl) rfl (fun _ => rfl) rfl) (wm_cons (k_shut_m hTb (by omega)) wm_nil))
  refine lr1_ok (wc := (wcL [(118, (kT zu_24)), (132, k_shut)])) (stp := [18]) hcm hcl 80 ?_
  show ((-2147483648 ≤ i + (1 : Int) ∧ i + (1 : Int) ≤ 2147483647) ∧ (0 = 0 ∧ ((0 ≤ i + (1 : Int) ∧ i + (1 : Int) < (N : Int)) ∧ ((-2147483648 ≤ i + (2 : Int) ∧ i + (2 : Int) ≤ 2147483647) ∧ (0 = 0 ∧ ((0 ≤ i + (2 : Int) ∧ i + (2 : Int) < (N : Int)) ∧ (aTs zu_24.1 [.inr (.inr (.inl 0)), .inl ((xs (i + (1 : Int) : Int).toNat).toInt), .inl ((xs (i + (2 : Int) : Int).toNat).toInt)] ∧ (zT st ∧ (∀ (r1 : Int) (s1 : zS), zT s1 → ((-2147483648 ≤ i + (1 : Int) ∧ i + (1 : Int) ≤ 2147483647) ∧ (0 = 0 ∧ ((0 ≤ i + (1 : Int) ∧ i + (1 : Int) < (N : Int)) ∧ ((-2147483648 ≤ i + (2 : Int) ∧ i + (2 : Int) ≤ 2147483647) ∧ (0 = 0 ∧ ((0 ≤ i + (2 : Int) ∧ i + (2 : Int) < (N : Int)) ∧ (170 = 170 ∧ (rq_shut ((xs (i + (1 : Int) : Int).toNat).toInt) ((xs (i + (2 : Int) : Int).toNat).toInt) s1 ∧ (∀ (r2 : Int) (s2 : zS), en_shut ((xs (i + (1 : Int) : Int).toNat).toInt) ((xs (i + (2 : Int) : Int).toNat).toInt) s1 r2 s2 → ((-2147483648 ≤ i + 6 ∧ i + 6 ≤ 2147483647) ∧ K (rx_find rx_mL 18) [(3, .inl (i + 6)), (2, .inr (.inr (.inl 170))), (1, .inr (.inr (.inl 0))), (0, .inr (.inr (.inr 0)))] [] s2)))))))))))))))))))
  refine ⟨⟨by omega, by omega⟩, ?_⟩
  refine ⟨rfl, ⟨by omega, by omega⟩, ?_⟩
  refine ⟨⟨by omega, by omega⟩, ?_⟩
  refine ⟨rfl, ⟨by omega, by omega⟩, ?_⟩
  refine ⟨⟨rfl, zsI_toInt _, zsI_toInt _, True.intro⟩, hI, fun r1 s1 q1 => ?_⟩
  refine ⟨⟨by omega, by omega⟩, ?_⟩
  refine ⟨rfl, ⟨by omega, by omega⟩, ?_⟩
  refine ⟨⟨by omega, by omega⟩, ?_⟩
  refine ⟨rfl, ⟨by omega, by omega⟩, ?_⟩
  refine ⟨rfl, q1.1, fun r2 s2 q2 => ?_⟩
  refine ⟨⟨by omega, by omega⟩, ?_⟩
  exact ih s2 (zT_V q2.1 q2.2.1 q2.2.2.1 q2.2.2.2 q1)
set_option maxRecDepth 100000 in
set_option maxHeartbeats 4000000 in
theorem lcase26 (hTb : aTb zSh rx_tb cl) (hcl : lcl N xs (cl 200) K) {i : Int} (h0 : 0 ≤ i) (h1 : i + 6 ≤ (N : Int)) (hN : N ≤ 3072) {st : zS} (hI : zT st) (ih : ∀ s1, zT s1 → K (rx_find rx_mL 18) [(3, .inl (i + 6)), (2, .inr (.inr (.inl 170))), (1, .inr (.inr (.inl 0))), (0, .inr (.inr (.inr 0)))] [] s1) : K (rx_find rx_mL 900) [(3, .inl i), (2, .inr (.inr (.inl 170))), (1, .inr (.inr (.inl 0))), (0, .inr (.inr (.inr 0)))] [] st := by
  have hcm : zmo (wcL [(119, (kT zu_25)), (133, k_move)]) (cl 200) := wcL_m (wm_cons (kT_m (z_all hTb 200 119 (none, [zu_25]) zu_25 rfl List.mem_cons_self) rfl (by decide) (by decide +kernel) rfl (fun _ => rfl) rfl rfl rfl rfl rfl rfl rfl rfl (fun _ => rfl) rfl (fun _ => rfl) rfl rfl rfl rfl rfl rfl (fun _ => rfl) rfl (fun _ => rfl) rfl rfl (fun _ => rfl) rfl (fun _ => rfl) rfl) (wm_cons (k_move_m hTb (by omega)) wm_nil))
  refine lr1_ok (wc := (wcL [(119, (kT zu_25)), (133, k_move)])) (stp := [18]) hcm hcl 80 ?_
  show ((-2147483648 ≤ i + (1 : Int) ∧ i + (1 : Int) ≤ 2147483647) ∧ (0 = 0 ∧ ((0 ≤ i + (1 : Int) ∧ i + (1 : Int) < (N : Int)) ∧ ((-2147483648 ≤ i + (2 : Int) ∧ i + (2 : Int) ≤ 2147483647) ∧ (0 = 0 ∧ ((0 ≤ i + (2 : Int) ∧ i + (2 : Int) < (N : Int)) ∧ (aTs zu_25.1 [.inr (.inr (.inl 0)), .inl ((xs (i + (1 : Int) : Int).toNat).toInt), .inl ((xs (i + (2 : Int) : Int).toNat).toInt)] ∧ (zT st ∧ (∀ (r1 : Int) (s1 : zS), zT s1 → ((-2147483648 ≤ i + (1 : Int) ∧ i + (1 : Int) ≤ 2147483647) ∧ (0 = 0 ∧ ((0 ≤ i + (1 : Int) ∧ i + (1 : Int) < (N : Int)) ∧ ((-2147483648 ≤ i + (2 : Int) ∧ i + (2 : Int) ≤ 2147483647) ∧ (0 = 0 ∧ ((0 ≤ i + (2 : Int) ∧ i + (2 : Int) < (N : Int)) ∧ (170 = 170 ∧ (rq_move ((xs (i + (1 : Int) : Int).toNat).toInt) ((xs (i + (2 : Int) : Int).toNat).toInt) s1 ∧ (∀ (r2 : Int) (s2 : zS), en_move ((xs (i + (1 : Int) : Int).toNat).toInt) ((xs (i + (2 : Int) : Int).toNat).toInt) s1 r2 s2 → ((-2147483648 ≤ i + 6 ∧ i + 6 ≤ 2147483647) ∧ K (rx_find rx_mL 18) [(3, .inl (i + 6)), (2, .inr (.inr (.inl 170))), (1, .inr (.inr (.inl 0))), (0, .inr (.inr (.inr 0)))] [] s2)))))))))))))))))))
  refine ⟨⟨by omega, by omega⟩, ?_⟩
  refine ⟨rfl, ⟨by omega, by omega⟩, ?_⟩
  refine ⟨⟨by omega, by omega⟩, ?_⟩
  refine ⟨rfl, ⟨by omega, by omega⟩, ?_⟩
  refine ⟨⟨rfl, zsI_toInt _, zsI_toInt _, True.intro⟩, hI, fun r1 s1 q1 => ?_⟩
  refine ⟨⟨by omega, by omega⟩, ?_⟩
  refine ⟨rfl, ⟨by omega, by omega⟩, ?_⟩
  refine ⟨⟨by omega, by omega⟩, ?_⟩
  refine ⟨rfl, ⟨by omega, by omega⟩, ?_⟩
  refine ⟨rfl, q1.1, fun r2 s2 q2 => ?_⟩
  refine ⟨⟨by omega, by omega⟩, ?_⟩
  exact ih s2 (zT_V q2.1 q2.2.1 q2.2.2.1 q2.2.2.2 q1)
set_option maxRecDepth 100000 in
set_option maxHeartbeats 4000000 in
theorem lcase27 (hTb : aTb zSh rx_tb cl) (hcl : lcl N xs (cl 200) K) {i : Int} (h0 : 0 ≤ i) (h1 : i + 6 ≤ (N : Int)) (hN : N ≤ 3072) {st : zS} (hI : zT st) (ih : ∀ s1, zT s1 → K (rx_find rx_mL 18) [(3, .inl (i + 6)), (2, .inr (.inr (.inl 170))), (1, .inr (.inr (.inl 0))), (0, .inr (.inr (.inr 0)))] [] s1) : K (rx_find rx_mL 933) [(3, .inl i), (2, .inr (.inr (.inl 170))), (1, .inr (.inr (.inl 0))), (0, .inr (.inr (.inr 0)))] [] st := by
  have hcm : zmo (wcL [(120, (kT zu_26)), (134, k_teach)]) (cl 200) := wcL_m (wm_cons (kT_m (z_all hTb 200 120 (none, [zu_26]) zu_26 rfl List.mem_cons_self) rfl (by decide) (by decide +kernel) rfl (fun _ => rfl) rfl rfl rfl rfl rfl rfl rfl rfl (fun _ => rfl) rfl (fun _ => rfl) rfl rfl rfl rfl rfl rfl (fun _ => rfl) rfl (fun _ => rfl) rfl rfl (fun _ => rfl) rfl (fun _ => rfl) rfl) (wm_cons (k_teach_m hTb (by omega)) wm_nil))
  refine lr1_ok (wc := (wcL [(120, (kT zu_26)), (134, k_teach)])) (stp := [18]) hcm hcl 80 ?_
  show ((-2147483648 ≤ i + (1 : Int) ∧ i + (1 : Int) ≤ 2147483647) ∧ (0 = 0 ∧ ((0 ≤ i + (1 : Int) ∧ i + (1 : Int) < (N : Int)) ∧ ((-2147483648 ≤ i + (2 : Int) ∧ i + (2 : Int) ≤ 2147483647) ∧ (0 = 0 ∧ ((0 ≤ i + (2 : Int) ∧ i + (2 : Int) < (N : Int)) ∧ (aTs zu_26.1 [.inr (.inr (.inl 0)), .inl ((xs (i + (1 : Int) : Int).toNat).toInt), .inl ((xs (i + (2 : Int) : Int).toNat).toInt)] ∧ (zT st ∧ (∀ (r1 : Int) (s1 : zS), zT s1 → ((-2147483648 ≤ i + (1 : Int) ∧ i + (1 : Int) ≤ 2147483647) ∧ (0 = 0 ∧ ((0 ≤ i + (1 : Int) ∧ i + (1 : Int) < (N : Int)) ∧ ((-2147483648 ≤ i + (2 : Int) ∧ i + (2 : Int) ≤ 2147483647) ∧ (0 = 0 ∧ ((0 ≤ i + (2 : Int) ∧ i + (2 : Int) < (N : Int)) ∧ (170 = 170 ∧ (rq_teach ((xs (i + (1 : Int) : Int).toNat).toInt) ((xs (i + (2 : Int) : Int).toNat).toInt) s1 ∧ (∀ (r2 : Int) (s2 : zS), en_teach ((xs (i + (1 : Int) : Int).toNat).toInt) ((xs (i + (2 : Int) : Int).toNat).toInt) s1 r2 s2 → ((-2147483648 ≤ i + 6 ∧ i + 6 ≤ 2147483647) ∧ K (rx_find rx_mL 18) [(3, .inl (i + 6)), (2, .inr (.inr (.inl 170))), (1, .inr (.inr (.inl 0))), (0, .inr (.inr (.inr 0)))] [] s2)))))))))))))))))))
  refine ⟨⟨by omega, by omega⟩, ?_⟩
  refine ⟨rfl, ⟨by omega, by omega⟩, ?_⟩
  refine ⟨⟨by omega, by omega⟩, ?_⟩
  refine ⟨rfl, ⟨by omega, by omega⟩, ?_⟩
  refine ⟨⟨rfl, zsI_toInt _, zsI_toInt _, True.intro⟩, hI, fun r1 s1 q1 => ?_⟩
  refine ⟨⟨by omega, by omega⟩, ?_⟩
  refine ⟨rfl, ⟨by omega, by omega⟩, ?_⟩
  refine ⟨⟨by omega, by omega⟩, ?_⟩
  refine ⟨rfl, ⟨by omega, by omega⟩, ?_⟩
  refine ⟨rfl, q1.1, fun r2 s2 q2 => ?_⟩
  refine ⟨⟨by omega, by omega⟩, ?_⟩
  exact ih s2 (zT_V q2.1 q2.2.1 q2.2.2.1 q2.2.2.2 q1)
set_option maxRecDepth 100000 in
set_option maxHeartbeats 4000000 in
theorem lcase28 (hTb : aTb zSh rx_tb cl) (hcl : lcl N xs (cl 200) K) {i : Int} (h0 : 0 ≤ i) (h1 : i + 6 ≤ (N : Int)) (hN : N ≤ 3072) {st : zS} (hI : zT st) (ih : ∀ s1, zT s1 → K (rx_find rx_mL 18) [(3, .inl (i + 6)), (2, .inr (.inr (.inl 170))), (1, .inr (.inr (.inl 0))), (0, .inr (.inr (.inr 0)))] [] s1) : K (rx_find rx_mL 966) [(3, .inl i), (2, .inr (.inr (.inl 170))), (1, .inr (.inr (.inl 0))), (0, .inr (.inr (.inr 0)))] [] st := by
  have hcm : zmo (wcL [(165, (kT zu_27)), (166, k_forget)]) (cl 200) := wcL_m (wm_cons (kT_m (z_all hTb 200 165 (none, [zu_27]) zu_27 rfl List.mem_cons_self) rfl (by decide) (by decide +kernel) rfl (fun _ => rfl) rfl rfl rfl rfl rfl rfl rfl rfl (fun _ => rfl) rfl (fun _ => rfl) rfl rfl rfl rfl rfl rfl (fun _ => rfl) rfl (fun _ => rfl) rfl rfl (fun _ => rfl) rfl (fun _ => rfl) rfl) (wm_cons (k_forget_m hTb (by omega)) wm_nil))
  refine lr1_ok (wc := (wcL [(165, (kT zu_27)), (166, k_forget)])) (stp := [18]) hcm hcl 80 ?_
  show (aTs zu_27.1 [.inr (.inr (.inl 0))] ∧ (zT st ∧ (∀ (r1 : Int) (s1 : zS), zT s1 → (170 = 170 ∧ (rq_forget  s1 ∧ (∀ (r2 : Int) (s2 : zS), en_forget  s1 r2 s2 → ((-2147483648 ≤ i + 6 ∧ i + 6 ≤ 2147483647) ∧ K (rx_find rx_mL 18) [(3, .inl (i + 6)), (2, .inr (.inr (.inl 170))), (1, .inr (.inr (.inl 0))), (0, .inr (.inr (.inr 0)))] [] s2)))))))
  refine ⟨⟨rfl, True.intro⟩, hI, fun r1 s1 q1 => ?_⟩
  refine ⟨rfl, q1.1, fun r2 s2 q2 => ?_⟩
  refine ⟨⟨by omega, by omega⟩, ?_⟩
  exact ih s2 (zT_V q2.1 q2.2.1 q2.2.2.1 q2.2.2.2 q1)
set_option maxRecDepth 100000 in
set_option maxHeartbeats 4000000 in
theorem lcase29 (hTb : aTb zSh rx_tb cl) (hcl : lcl N xs (cl 200) K) {i : Int} (h0 : 0 ≤ i) (h1 : i + 6 ≤ (N : Int)) (hN : N ≤ 3072) {st : zS} (hI : zT st) (ih : ∀ s1, zT s1 → K (rx_find rx_mL 18) [(3, .inl (i + 6)), (2, .inr (.inr (.inl 170))), (1, .inr (.inr (.inl 0))), (0, .inr (.inr (.inr 0)))] [] s1) : K (rx_find rx_mL 979) [(3, .inl i), (2, .inr (.inr (.inl 170))), (1, .inr (.inr (.inl 0))), (0, .inr (.inr (.inr 0)))] [] st := by
  have hcm : zmo (wcL [(167, (kT zu_28)), (169, k_undo)]) (cl 200) := wcL_m (wm_cons (kT_m (z_all hTb 200 167 (none, [zu_28]) zu_28 rfl List.mem_cons_self) rfl (by decide) (by decide +kernel) rfl (fun _ => rfl) rfl rfl rfl rfl rfl rfl rfl rfl (fun _ => rfl) rfl (fun _ => rfl) rfl rfl rfl rfl rfl rfl (fun _ => rfl) rfl (fun _ => rfl) rfl rfl (fun _ => rfl) rfl (fun _ => rfl) rfl) (wm_cons (k_undo_m hTb (by omega)) wm_nil))
  refine lr1_ok (wc := (wcL [(167, (kT zu_28)), (169, k_undo)])) (stp := [18]) hcm hcl 80 ?_
  show (aTs zu_28.1 [.inr (.inr (.inl 0))] ∧ (zT st ∧ (∀ (r1 : Int) (s1 : zS), zT s1 → (170 = 170 ∧ (rq_undo  s1 ∧ (∀ (r2 : Int) (s2 : zS), en_undo  s1 r2 s2 → ((-2147483648 ≤ i + 6 ∧ i + 6 ≤ 2147483647) ∧ K (rx_find rx_mL 18) [(3, .inl (i + 6)), (2, .inr (.inr (.inl 170))), (1, .inr (.inr (.inl 0))), (0, .inr (.inr (.inr 0)))] [] s2)))))))
  refine ⟨⟨rfl, True.intro⟩, hI, fun r1 s1 q1 => ?_⟩
  refine ⟨rfl, q1.1, fun r2 s2 q2 => ?_⟩
  refine ⟨⟨by omega, by omega⟩, ?_⟩
  exact ih s2 (zT_V q2.1 q2.2.1 q2.2.2.1 q2.2.2.2 q1)
set_option maxRecDepth 100000 in
set_option maxHeartbeats 4000000 in
theorem lcase30 (hTb : aTb zSh rx_tb cl) (hcl : lcl N xs (cl 200) K) {i : Int} (h0 : 0 ≤ i) (h1 : i + 6 ≤ (N : Int)) (hN : N ≤ 3072) {st : zS} (hI : zT st) (ih : ∀ s1, zT s1 → K (rx_find rx_mL 18) [(3, .inl (i + 6)), (2, .inr (.inr (.inl 170))), (1, .inr (.inr (.inl 0))), (0, .inr (.inr (.inr 0)))] [] s1) : K (rx_find rx_mL 992) [(3, .inl i), (2, .inr (.inr (.inl 170))), (1, .inr (.inr (.inl 0))), (0, .inr (.inr (.inr 0)))] [] st := by
  have hcm : zmo (wcL [(121, (kT zu_29)), (135, k_seed)]) (cl 200) := wcL_m (wm_cons (kT_m (z_all hTb 200 121 (none, [zu_29]) zu_29 rfl List.mem_cons_self) rfl (by decide) (by decide +kernel) rfl (fun _ => rfl) rfl rfl rfl rfl rfl rfl rfl rfl (fun _ => rfl) rfl (fun _ => rfl) rfl rfl rfl rfl rfl rfl (fun _ => rfl) rfl (fun _ => rfl) rfl rfl (fun _ => rfl) rfl (fun _ => rfl) rfl) (wm_cons (k_seed_m hTb (by omega)) wm_nil))
  refine lr1_ok (wc := (wcL [(121, (kT zu_29)), (135, k_seed)])) (stp := [18]) hcm hcl 80 ?_
  show ((-2147483648 ≤ i + (1 : Int) ∧ i + (1 : Int) ≤ 2147483647) ∧ (0 = 0 ∧ ((0 ≤ i + (1 : Int) ∧ i + (1 : Int) < (N : Int)) ∧ (aTs zu_29.1 [.inr (.inr (.inl 0)), .inl ((xs (i + (1 : Int) : Int).toNat).toInt)] ∧ (zT st ∧ (∀ (r1 : Int) (s1 : zS), zT s1 → ((-2147483648 ≤ i + (1 : Int) ∧ i + (1 : Int) ≤ 2147483647) ∧ (0 = 0 ∧ ((0 ≤ i + (1 : Int) ∧ i + (1 : Int) < (N : Int)) ∧ (170 = 170 ∧ (rq_seed ((xs (i + (1 : Int) : Int).toNat).toInt) s1 ∧ (∀ (r2 : Int) (s2 : zS), en_seed ((xs (i + (1 : Int) : Int).toNat).toInt) s1 r2 s2 → ((-2147483648 ≤ i + 6 ∧ i + 6 ≤ 2147483647) ∧ K (rx_find rx_mL 18) [(3, .inl (i + 6)), (2, .inr (.inr (.inl 170))), (1, .inr (.inr (.inl 0))), (0, .inr (.inr (.inr 0)))] [] s2)))))))))))))
  refine ⟨⟨by omega, by omega⟩, ?_⟩
  refine ⟨rfl, ⟨by omega, by omega⟩, ?_⟩
  refine ⟨⟨rfl, zsI_toInt _, True.intro⟩, hI, fun r1 s1 q1 => ?_⟩
  refine ⟨⟨by omega, by omega⟩, ?_⟩
  refine ⟨rfl, ⟨by omega, by omega⟩, ?_⟩
  refine ⟨rfl, ⟨q1.1.1, q1.1.2, zsI_toInt _⟩, fun r2 s2 q2 => ?_⟩
  refine ⟨⟨by omega, by omega⟩, ?_⟩
  exact ih s2 (zT_V q2.1 q2.2.1 q2.2.2.1 q2.2.2.2.1 q1)
set_option maxRecDepth 100000 in
set_option maxHeartbeats 4000000 in
theorem lcase31 (hTb : aTb zSh rx_tb cl) (hcl : lcl N xs (cl 200) K) {i : Int} (h0 : 0 ≤ i) (h1 : i + 6 ≤ (N : Int)) (hN : N ≤ 3072) {st : zS} (hI : zT st) (ih : ∀ s1, zT s1 → K (rx_find rx_mL 18) [(3, .inl (i + 6)), (2, .inr (.inr (.inl 170))), (1, .inr (.inr (.inl 0))), (0, .inr (.inr (.inr 0)))] [] s1) : K (rx_find rx_mL 1015) [(3, .inl i), (2, .inr (.inr (.inl 170))), (1, .inr (.inr (.inl 0))), (0, .inr (.inr (.inr 0)))] [] st := by
  have hcm : zmo (wcL [(122, (kT zu_30)), (136, k_kept)]) (cl 200) := wcL_m (wm_cons (kT_m (z_all hTb 200 122 (none, [zu_30]) zu_30 rfl List.mem_cons_self) rfl (by decide) (by decide +kernel) rfl (fun _ => rfl) rfl rfl rfl rfl rfl rfl rfl rfl (fun _ => rfl) rfl (fun _ => rfl) rfl rfl rfl rfl rfl rfl (fun _ => rfl) rfl (fun _ => rfl) rfl rfl (fun _ => rfl) rfl (fun _ => rfl) rfl) (wm_cons (k_kept_m hTb (by omega)) wm_nil))
  refine lr1_ok (wc := (wcL [(122, (kT zu_30)), (136, k_kept)])) (stp := [18]) hcm hcl 80 ?_
  show ((-2147483648 ≤ i + (1 : Int) ∧ i + (1 : Int) ≤ 2147483647) ∧ (0 = 0 ∧ ((0 ≤ i + (1 : Int) ∧ i + (1 : Int) < (N : Int)) ∧ ((-2147483648 ≤ i + (2 : Int) ∧ i + (2 : Int) ≤ 2147483647) ∧ (0 = 0 ∧ ((0 ≤ i + (2 : Int) ∧ i + (2 : Int) < (N : Int)) ∧ (aTs zu_30.1 [.inr (.inr (.inl 0)), .inl ((xs (i + (1 : Int) : Int).toNat).toInt), .inl ((xs (i + (2 : Int) : Int).toNat).toInt)] ∧ (zT st ∧ (∀ (r1 : Int) (s1 : zS), zT s1 → ((-2147483648 ≤ i + (1 : Int) ∧ i + (1 : Int) ≤ 2147483647) ∧ (0 = 0 ∧ ((0 ≤ i + (1 : Int) ∧ i + (1 : Int) < (N : Int)) ∧ ((-2147483648 ≤ i + (2 : Int) ∧ i + (2 : Int) ≤ 2147483647) ∧ (0 = 0 ∧ ((0 ≤ i + (2 : Int) ∧ i + (2 : Int) < (N : Int)) ∧ (170 = 170 ∧ (rq_kept ((xs (i + (1 : Int) : Int).toNat).toInt) ((xs (i + (2 : Int) : Int).toNat).toInt) s1 ∧ (∀ (r2 : Int) (s2 : zS), en_kept ((xs (i + (1 : Int) : Int).toNat).toInt) ((xs (i + (2 : Int) : Int).toNat).toInt) s1 r2 s2 → ((-2147483648 ≤ i + 6 ∧ i + 6 ≤ 2147483647) ∧ K (rx_find rx_mL 18) [(3, .inl (i + 6)), (2, .inr (.inr (.inl 170))), (1, .inr (.inr (.inl 0))), (0, .inr (.inr (.inr 0)))] [] s2)))))))))))))))))))
  refine ⟨⟨by omega, by omega⟩, ?_⟩
  refine ⟨rfl, ⟨by omega, by omega⟩, ?_⟩
  refine ⟨⟨by omega, by omega⟩, ?_⟩
  refine ⟨rfl, ⟨by omega, by omega⟩, ?_⟩
  refine ⟨⟨rfl, zsI_toInt _, zsI_toInt _, True.intro⟩, hI, fun r1 s1 q1 => ?_⟩
  refine ⟨⟨by omega, by omega⟩, ?_⟩
  refine ⟨rfl, ⟨by omega, by omega⟩, ?_⟩
  refine ⟨⟨by omega, by omega⟩, ?_⟩
  refine ⟨rfl, ⟨by omega, by omega⟩, ?_⟩
  refine ⟨rfl, q1.1, fun r2 s2 q2 => ?_⟩
  refine ⟨⟨by omega, by omega⟩, ?_⟩
  exact ih s2 (zT_V q2.1 q2.2.1 q2.2.2.1 q2.2.2.2 q1)
set_option maxRecDepth 100000 in
set_option maxHeartbeats 4000000 in
theorem lcase32 (hTb : aTb zSh rx_tb cl) (hcl : lcl N xs (cl 200) K) {i : Int} (h0 : 0 ≤ i) (h1 : i + 6 ≤ (N : Int)) (hN : N ≤ 3072) {st : zS} (hI : zT st) (ih : ∀ s1, zT s1 → K (rx_find rx_mL 18) [(3, .inl (i + 6)), (2, .inr (.inr (.inl 170))), (1, .inr (.inr (.inl 0))), (0, .inr (.inr (.inr 0)))] [] s1) : K (rx_find rx_mL 1048) [(3, .inl i), (2, .inr (.inr (.inl 170))), (1, .inr (.inr (.inl 0))), (0, .inr (.inr (.inr 0)))] [] st := by
  have hcm : zmo (wcL [(170, (kT zu_31)), (173, k_image)]) (cl 200) := wcL_m (wm_cons (kT_m (z_all hTb 200 170 (none, [zu_31]) zu_31 rfl List.mem_cons_self) rfl (by decide) (by decide +kernel) rfl (fun _ => rfl) rfl rfl rfl rfl rfl rfl rfl rfl (fun _ => rfl) rfl (fun _ => rfl) rfl rfl rfl rfl rfl rfl (fun _ => rfl) rfl (fun _ => rfl) rfl rfl (fun _ => rfl) rfl (fun _ => rfl) rfl) (wm_cons (k_image_m hTb (by omega)) wm_nil))
  refine lr1_ok (wc := (wcL [(170, (kT zu_31)), (173, k_image)])) (stp := [18]) hcm hcl 80 ?_
  show (aTs zu_31.1 [.inr (.inr (.inl 0))] ∧ (zT st ∧ (∀ (r1 : Int) (s1 : zS), zT s1 → (170 = 170 ∧ (rq_image  s1 ∧ (∀ (r2 : Int) (s2 : zS), en_image  s1 r2 s2 → ((-2147483648 ≤ i + 6 ∧ i + 6 ≤ 2147483647) ∧ K (rx_find rx_mL 18) [(3, .inl (i + 6)), (2, .inr (.inr (.inl 170))), (1, .inr (.inr (.inl 0))), (0, .inr (.inr (.inr 0)))] [] s2)))))))
  refine ⟨⟨rfl, True.intro⟩, hI, fun r1 s1 q1 => ?_⟩
  refine ⟨rfl, q1.1, fun r2 s2 q2 => ?_⟩
  refine ⟨⟨by omega, by omega⟩, ?_⟩
  exact ih s2 (zT_fr q2.1 q2.2.2 q2.2.1 (fun _ => rfl) rfl rfl rfl rfl rfl rfl rfl rfl (fun _ => rfl) rfl (fun _ => rfl) rfl rfl rfl rfl ⟨q2.2.1 115 5 rfl rfl, fun i => q2.2.1 116 i rfl rfl, fun i => q2.2.1 117 i rfl rfl, q2.2.1 170 71 rfl rfl, fun i => q2.2.1 216 i rfl rfl, fun i => q2.2.1 217 i rfl rfl⟩ q1)
set_option maxRecDepth 100000 in
set_option maxHeartbeats 4000000 in
theorem lcase33 (hTb : aTb zSh rx_tb cl) (hcl : lcl N xs (cl 200) K) {i : Int} (h0 : 0 ≤ i) (h1 : i + 6 ≤ (N : Int)) (hN : N ≤ 3072) {st : zS} (hI : zT st) (ih : ∀ s1, zT s1 → K (rx_find rx_mL 18) [(3, .inl (i + 6)), (2, .inr (.inr (.inl 170))), (1, .inr (.inr (.inl 0))), (0, .inr (.inr (.inr 0)))] [] s1) : K (rx_find rx_mL 1061) [(3, .inl i), (2, .inr (.inr (.inl 170))), (1, .inr (.inr (.inl 0))), (0, .inr (.inr (.inr 0)))] [] st := by
  have hcm : zmo (wcL [(123, (kT zu_32)), (137, k_octet)]) (cl 200) := wcL_m (wm_cons (kT_m (z_all hTb 200 123 (none, [zu_32]) zu_32 rfl List.mem_cons_self) rfl (by decide) (by decide +kernel) rfl (fun _ => rfl) rfl rfl rfl rfl rfl rfl rfl rfl (fun _ => rfl) rfl (fun _ => rfl) rfl rfl rfl rfl rfl rfl (fun _ => rfl) rfl (fun _ => rfl) rfl rfl (fun _ => rfl) rfl (fun _ => rfl) rfl) (wm_cons (k_octet_m hTb (by omega)) wm_nil))
  refine lr1_ok (wc := (wcL [(123, (kT zu_32)), (137, k_octet)])) (stp := [18]) hcm hcl 80 ?_
  show ((-2147483648 ≤ i + (1 : Int) ∧ i + (1 : Int) ≤ 2147483647) ∧ (0 = 0 ∧ ((0 ≤ i + (1 : Int) ∧ i + (1 : Int) < (N : Int)) ∧ (aTs zu_32.1 [.inr (.inr (.inl 0)), .inl ((xs (i + (1 : Int) : Int).toNat).toInt)] ∧ (zT st ∧ (∀ (r1 : Int) (s1 : zS), zT s1 → ((-2147483648 ≤ i + (1 : Int) ∧ i + (1 : Int) ≤ 2147483647) ∧ (0 = 0 ∧ ((0 ≤ i + (1 : Int) ∧ i + (1 : Int) < (N : Int)) ∧ (170 = 170 ∧ (rq_octet ((xs (i + (1 : Int) : Int).toNat).toInt) s1 ∧ (∀ (r2 : Int) (s2 : zS), en_octet ((xs (i + (1 : Int) : Int).toNat).toInt) s1 r2 s2 → ((-2147483648 ≤ i + 6 ∧ i + 6 ≤ 2147483647) ∧ K (rx_find rx_mL 18) [(3, .inl (i + 6)), (2, .inr (.inr (.inl 170))), (1, .inr (.inr (.inl 0))), (0, .inr (.inr (.inr 0)))] [] s2)))))))))))))
  refine ⟨⟨by omega, by omega⟩, ?_⟩
  refine ⟨rfl, ⟨by omega, by omega⟩, ?_⟩
  refine ⟨⟨rfl, zsI_toInt _, True.intro⟩, hI, fun r1 s1 q1 => ?_⟩
  refine ⟨⟨by omega, by omega⟩, ?_⟩
  refine ⟨rfl, ⟨by omega, by omega⟩, ?_⟩
  refine ⟨rfl, q1.1, fun r2 s2 q2 => ?_⟩
  refine ⟨⟨by omega, by omega⟩, ?_⟩
  exact ih s2 (zT_V q2.1 q2.2.1 q2.2.2.1 q2.2.2.2 q1)
set_option maxRecDepth 100000 in
set_option maxHeartbeats 4000000 in
theorem lcase34 (hTb : aTb zSh rx_tb cl) (hcl : lcl N xs (cl 200) K) {i : Int} (h0 : 0 ≤ i) (h1 : i + 6 ≤ (N : Int)) (hN : N ≤ 3072) {st : zS} (hI : zT st) (ih : ∀ s1, zT s1 → K (rx_find rx_mL 18) [(3, .inl (i + 6)), (2, .inr (.inr (.inl 170))), (1, .inr (.inr (.inl 0))), (0, .inr (.inr (.inr 0)))] [] s1) : K (rx_find rx_mL 1084) [(3, .inl i), (2, .inr (.inr (.inl 170))), (1, .inr (.inr (.inl 0))), (0, .inr (.inr (.inr 0)))] [] st := by
  have hcm : zmo (wcL [(174, kTz), (176, k_on)]) (cl 200) := wcL_m (wm_cons (kTz_on hTb (by omega)) (wm_cons (k_on_m hTb (by omega)) wm_nil))
  refine lr1_ok (wc := (wcL [(174, kTz), (176, k_on)])) (stp := [18]) hcm hcl 80 ?_
  show (0 = 0 ∧ (zT st ∧ (∀ (r1 : Int) (s1 : zS), zMt s1 → (170 = 170 ∧ (rq_on  s1 ∧ (∀ (r2 : Int) (s2 : zS), en_on  s1 r2 s2 → ((-2147483648 ≤ i + 6 ∧ i + 6 ≤ 2147483647) ∧ K (rx_find rx_mL 18) [(3, .inl (i + 6)), (2, .inr (.inr (.inl 170))), (1, .inr (.inr (.inl 0))), (0, .inr (.inr (.inr 0)))] [] s2)))))))
  refine ⟨rfl, hI, fun r1 s1 q1 => ?_⟩
  refine ⟨rfl, q1.1, fun r2 s2 q2 => ?_⟩
  refine ⟨⟨by omega, by omega⟩, ?_⟩
  exact ih s2 (zMt_V q2.1 q2.2.1 q2.2.2.2 q2.2.2.1 q1)
set_option maxRecDepth 100000 in
set_option maxHeartbeats 4000000 in
theorem lcase35 (hTb : aTb zSh rx_tb cl) (hcl : lcl N xs (cl 200) K) {i : Int} (h0 : 0 ≤ i) (h1 : i + 6 ≤ (N : Int)) (hN : N ≤ 3072) {st : zS} (hI : zT st) (ih : ∀ s1, zT s1 → K (rx_find rx_mL 18) [(3, .inl (i + 6)), (2, .inr (.inr (.inl 170))), (1, .inr (.inr (.inl 0))), (0, .inr (.inr (.inr 0)))] [] s1) : K (rx_find rx_mL 1097) [(3, .inl i), (2, .inr (.inr (.inl 170))), (1, .inr (.inr (.inl 0))), (0, .inr (.inr (.inr 0)))] [] st := by
  have hcm : zmo (wcL [(57, (kT zu_33)), (68, k_status)]) (cl 200) := wcL_m (wm_cons (kT_m (z_all hTb 200 57 (none, [zu_33]) zu_33 rfl List.mem_cons_self) rfl (by decide) (by decide +kernel) rfl (fun _ => rfl) rfl rfl rfl rfl rfl rfl rfl rfl (fun _ => rfl) rfl (fun _ => rfl) rfl rfl rfl rfl rfl rfl (fun _ => rfl) rfl (fun _ => rfl) rfl rfl (fun _ => rfl) rfl (fun _ => rfl) rfl) (wm_cons (k_status_m hTb (by omega)) wm_nil))
  refine lr1_ok (wc := (wcL [(57, (kT zu_33)), (68, k_status)])) (stp := [18]) hcm hcl 80 ?_
  show ((-2147483648 ≤ i + (1 : Int) ∧ i + (1 : Int) ≤ 2147483647) ∧ (0 = 0 ∧ ((0 ≤ i + (1 : Int) ∧ i + (1 : Int) < (N : Int)) ∧ (aTs zu_33.1 [.inr (.inr (.inl 0)), .inl ((xs (i + (1 : Int) : Int).toNat).toInt)] ∧ (zT st ∧ (∀ (r1 : Int) (s1 : zS), zT s1 → ((-2147483648 ≤ i + (1 : Int) ∧ i + (1 : Int) ≤ 2147483647) ∧ (0 = 0 ∧ ((0 ≤ i + (1 : Int) ∧ i + (1 : Int) < (N : Int)) ∧ (170 = 170 ∧ (rq_status ((xs (i + (1 : Int) : Int).toNat).toInt) s1 ∧ (∀ (r2 : Int) (s2 : zS), en_status ((xs (i + (1 : Int) : Int).toNat).toInt) s1 r2 s2 → ((-2147483648 ≤ i + 6 ∧ i + 6 ≤ 2147483647) ∧ K (rx_find rx_mL 18) [(3, .inl (i + 6)), (2, .inr (.inr (.inl 170))), (1, .inr (.inr (.inl 0))), (0, .inr (.inr (.inr 0)))] [] s2)))))))))))))
  refine ⟨⟨by omega, by omega⟩, ?_⟩
  refine ⟨rfl, ⟨by omega, by omega⟩, ?_⟩
  refine ⟨⟨rfl, zsI_toInt _, True.intro⟩, hI, fun r1 s1 q1 => ?_⟩
  refine ⟨⟨by omega, by omega⟩, ?_⟩
  refine ⟨rfl, ⟨by omega, by omega⟩, ?_⟩
  refine ⟨rfl, q1.1, fun r2 s2 q2 => ?_⟩
  refine ⟨⟨by omega, by omega⟩, ?_⟩
  exact ih s2 (zT_V q2.1 q2.2.1 q2.2.2.1 q2.2.2.2 q1)
set_option maxRecDepth 100000 in
set_option maxHeartbeats 4000000 in
theorem lhead (hTb : aTb zSh rx_tb cl) (hcl : lcl N xs (cl 200) K) (hN : N ≤ 3072) : ∀ (u : Nat) (i : Int), 0 ≤ i → i ≤ (N : Int) → ((N : Int) - i).toNat = u → ∀ st : zS, zT st → K (rx_find rx_mL 18) [(3, .inl i), (2, .inr (.inr (.inl 170))), (1, .inr (.inr (.inl 0))), (0, .inr (.inr (.inr 0)))] [] st := by
  intro u
  induction u using Nat.strongRecOn with
  | _ u ihu =>
    intro i h0 h2 hu st hI
    have hcm : zmo (wcL []) (cl 200) := wcL_m wm_nil
    by_cases h1 : i + 6 ≤ (N : Int)
    · have ih : ∀ s1, zT s1 → K (rx_find rx_mL 18) [(3, .inl (i + 6)), (2, .inr (.inr (.inl 170))), (1, .inr (.inr (.inl 0))), (0, .inr (.inr (.inr 0)))] [] s1 := fun s1 z => ihu _ (by omega) (i + 6) (by omega) (by omega) rfl s1 z
      have hd : K (rx_find rx_mL 1120) [(3, .inl i), (2, .inr (.inr (.inl 170))), (1, .inr (.inr (.inl 0))), (0, .inr (.inr (.inr 0)))] [] st := by
        refine lr1_ok (wc := wcL []) (stp := [18]) hcm hcl 5 ?_
        show ((-2147483648 ≤ i + 6 ∧ i + 6 ≤ 2147483647) ∧ K (rx_find rx_mL 18) [(3, .inl (i + 6)), (2, .inr (.inr (.inl 170))), (1, .inr (.inr (.inl 0))), (0, .inr (.inr (.inr 0)))] [] st)
        exact ⟨⟨by omega, by omega⟩, ih st hI⟩
      refine lr1_ok (wc := wcL []) (stp := [1120, 192, 255, 278, 291, 314, 337, 380, 413, 446, 479, 512, 535, 568, 581, 604, 627, 650, 683, 706, 719, 732, 755, 788, 821, 844, 867, 900, 933, 966, 979, 992, 1015, 1048, 1061, 1084, 1097]) hcm hcl 20 ?_
      show (0 = 0 ∧ ((-2147483648 ≤ (N : Int) - 6 ∧ (N : Int) - 6 ≤ 2147483647) ∧ (((N : Int) - 6 < i → ((1 : Int) = 1)) ∧ (¬ ((N : Int) - 6 < i) → (0 = 0 ∧ ((0 ≤ i ∧ i < (N : Int)) ∧ ((zd (Nat.land (zi (xs (i : Int).toNat).toInt) (zi 63)) < 0 → K (rx_find rx_mL 1120) [(3, .inl i), (2, .inr (.inr (.inl 170))), (1, .inr (.inr (.inl 0))), (0, .inr (.inr (.inr 0)))] [] st) ∧ (35 < zd (Nat.land (zi (xs (i : Int).toNat).toInt) (zi 63)) → K (rx_find rx_mL 1120) [(3, .inl i), (2, .inr (.inr (.inl 170))), (1, .inr (.inr (.inl 0))), (0, .inr (.inr (.inr 0)))] [] st) ∧ (zd (Nat.land (zi (xs (i : Int).toNat).toInt) (zi 63)) = 0 → K (rx_find rx_mL 192) [(3, .inl i), (2, .inr (.inr (.inl 170))), (1, .inr (.inr (.inl 0))), (0, .inr (.inr (.inr 0)))] [] st) ∧ (zd (Nat.land (zi (xs (i : Int).toNat).toInt) (zi 63)) = 1 → K (rx_find rx_mL 255) [(3, .inl i), (2, .inr (.inr (.inl 170))), (1, .inr (.inr (.inl 0))), (0, .inr (.inr (.inr 0)))] [] st) ∧ (zd (Nat.land (zi (xs (i : Int).toNat).toInt) (zi 63)) = 2 → K (rx_find rx_mL 278) [(3, .inl i), (2, .inr (.inr (.inl 170))), (1, .inr (.inr (.inl 0))), (0, .inr (.inr (.inr 0)))] [] st) ∧ (zd (Nat.land (zi (xs (i : Int).toNat).toInt) (zi 63)) = 3 → K (rx_find rx_mL 291) [(3, .inl i), (2, .inr (.inr (.inl 170))), (1, .inr (.inr (.inl 0))), (0, .inr (.inr (.inr 0)))] [] st) ∧ (zd (Nat.land (zi (xs (i : Int).toNat).toInt) (zi 63)) = 4 → K (rx_find rx_mL 314) [(3, .inl i), (2, .inr (.inr (.inl 170))), (1, .inr (.inr (.inl 0))), (0, .inr (.inr (.inr 0)))] [] st) ∧ (zd (Nat.land (zi (xs (i : Int).toNat).toInt) (zi 63)) = 5 → K (rx_find rx_mL 337) [(3, .inl i), (2, .inr (.inr (.inl 170))), (1, .inr (.inr (.inl 0))), (0, .inr (.inr (.inr 0)))] [] st) ∧ (zd (Nat.land (zi (xs (i : Int).toNat).toInt) (zi 63)) = 6 → K (rx_find rx_mL 380) [(3, .inl i), (2, .inr (.inr (.inl 170))), (1, .inr (.inr (.inl 0))), (0, .inr (.inr (.inr 0)))] [] st) ∧ (zd (Nat.land (zi (xs (i : Int).toNat).toInt) (zi 63)) = 7 → K (rx_find rx_mL 413) [(3, .inl i), (2, .inr (.inr (.inl 170))), (1, .inr (.inr (.inl 0))), (0, .inr (.inr (.inr 0)))] [] st) ∧ (zd (Nat.land (zi (xs (i : Int).toNat).toInt) (zi 63)) = 8 → K (rx_find rx_mL 446) [(3, .inl i), (2, .inr (.inr (.inl 170))), (1, .inr (.inr (.inl 0))), (0, .inr (.inr (.inr 0)))] [] st) ∧ (zd (Nat.land (zi (xs (i : Int).toNat).toInt) (zi 63)) = 9 → K (rx_find rx_mL 479) [(3, .inl i), (2, .inr (.inr (.inl 170))), (1, .inr (.inr (.inl 0))), (0, .inr (.inr (.inr 0)))] [] st) ∧ (zd (Nat.land (zi (xs (i : Int).toNat).toInt) (zi 63)) = 10 → K (rx_find rx_mL 512) [(3, .inl i), (2, .inr (.inr (.inl 170))), (1, .inr (.inr (.inl 0))), (0, .inr (.inr (.inr 0)))] [] st) ∧ (zd (Nat.land (zi (xs (i : Int).toNat).toInt) (zi 63)) = 11 → K (rx_find rx_mL 535) [(3, .inl i), (2, .inr (.inr (.inl 170))), (1, .inr (.inr (.inl 0))), (0, .inr (.inr (.inr 0)))] [] st) ∧ (zd (Nat.land (zi (xs (i : Int).toNat).toInt) (zi 63)) = 12 → K (rx_find rx_mL 568) [(3, .inl i), (2, .inr (.inr (.inl 170))), (1, .inr (.inr (.inl 0))), (0, .inr (.inr (.inr 0)))] [] st) ∧ (zd (Nat.land (zi (xs (i : Int).toNat).toInt) (zi 63)) = 13 → K (rx_find rx_mL 581) [(3, .inl i), (2, .inr (.inr (.inl 170))), (1, .inr (.inr (.inl 0))), (0, .inr (.inr (.inr 0)))] [] st) ∧ (zd (Nat.land (zi (xs (i : Int).toNat).toInt) (zi 63)) = 14 → K (rx_find rx_mL 604) [(3, .inl i), (2, .inr (.inr (.inl 170))), (1, .inr (.inr (.inl 0))), (0, .inr (.inr (.inr 0)))] [] st) ∧ (zd (Nat.land (zi (xs (i : Int).toNat).toInt) (zi 63)) = 15 → K (rx_find rx_mL 627) [(3, .inl i), (2, .inr (.inr (.inl 170))), (1, .inr (.inr (.inl 0))), (0, .inr (.inr (.inr 0)))] [] st) ∧ (zd (Nat.land (zi (xs (i : Int).toNat).toInt) (zi 63)) = 16 → K (rx_find rx_mL 650) [(3, .inl i), (2, .inr (.inr (.inl 170))), (1, .inr (.inr (.inl 0))), (0, .inr (.inr (.inr 0)))] [] st) ∧ (zd (Nat.land (zi (xs (i : Int).toNat).toInt) (zi 63)) = 17 → K (rx_find rx_mL 683) [(3, .inl i), (2, .inr (.inr (.inl 170))), (1, .inr (.inr (.inl 0))), (0, .inr (.inr (.inr 0)))] [] st) ∧ (zd (Nat.land (zi (xs (i : Int).toNat).toInt) (zi 63)) = 18 → K (rx_find rx_mL 706) [(3, .inl i), (2, .inr (.inr (.inl 170))), (1, .inr (.inr (.inl 0))), (0, .inr (.inr (.inr 0)))] [] st) ∧ (zd (Nat.land (zi (xs (i : Int).toNat).toInt) (zi 63)) = 19 → K (rx_find rx_mL 719) [(3, .inl i), (2, .inr (.inr (.inl 170))), (1, .inr (.inr (.inl 0))), (0, .inr (.inr (.inr 0)))] [] st) ∧ (zd (Nat.land (zi (xs (i : Int).toNat).toInt) (zi 63)) = 20 → K (rx_find rx_mL 732) [(3, .inl i), (2, .inr (.inr (.inl 170))), (1, .inr (.inr (.inl 0))), (0, .inr (.inr (.inr 0)))] [] st) ∧ (zd (Nat.land (zi (xs (i : Int).toNat).toInt) (zi 63)) = 21 → K (rx_find rx_mL 755) [(3, .inl i), (2, .inr (.inr (.inl 170))), (1, .inr (.inr (.inl 0))), (0, .inr (.inr (.inr 0)))] [] st) ∧ (zd (Nat.land (zi (xs (i : Int).toNat).toInt) (zi 63)) = 22 → K (rx_find rx_mL 788) [(3, .inl i), (2, .inr (.inr (.inl 170))), (1, .inr (.inr (.inl 0))), (0, .inr (.inr (.inr 0)))] [] st) ∧ (zd (Nat.land (zi (xs (i : Int).toNat).toInt) (zi 63)) = 23 → K (rx_find rx_mL 821) [(3, .inl i), (2, .inr (.inr (.inl 170))), (1, .inr (.inr (.inl 0))), (0, .inr (.inr (.inr 0)))] [] st) ∧ (zd (Nat.land (zi (xs (i : Int).toNat).toInt) (zi 63)) = 24 → K (rx_find rx_mL 844) [(3, .inl i), (2, .inr (.inr (.inl 170))), (1, .inr (.inr (.inl 0))), (0, .inr (.inr (.inr 0)))] [] st) ∧ (zd (Nat.land (zi (xs (i : Int).toNat).toInt) (zi 63)) = 25 → K (rx_find rx_mL 867) [(3, .inl i), (2, .inr (.inr (.inl 170))), (1, .inr (.inr (.inl 0))), (0, .inr (.inr (.inr 0)))] [] st) ∧ (zd (Nat.land (zi (xs (i : Int).toNat).toInt) (zi 63)) = 26 → K (rx_find rx_mL 900) [(3, .inl i), (2, .inr (.inr (.inl 170))), (1, .inr (.inr (.inl 0))), (0, .inr (.inr (.inr 0)))] [] st) ∧ (zd (Nat.land (zi (xs (i : Int).toNat).toInt) (zi 63)) = 27 → K (rx_find rx_mL 933) [(3, .inl i), (2, .inr (.inr (.inl 170))), (1, .inr (.inr (.inl 0))), (0, .inr (.inr (.inr 0)))] [] st) ∧ (zd (Nat.land (zi (xs (i : Int).toNat).toInt) (zi 63)) = 28 → K (rx_find rx_mL 966) [(3, .inl i), (2, .inr (.inr (.inl 170))), (1, .inr (.inr (.inl 0))), (0, .inr (.inr (.inr 0)))] [] st) ∧ (zd (Nat.land (zi (xs (i : Int).toNat).toInt) (zi 63)) = 29 → K (rx_find rx_mL 979) [(3, .inl i), (2, .inr (.inr (.inl 170))), (1, .inr (.inr (.inl 0))), (0, .inr (.inr (.inr 0)))] [] st) ∧ (zd (Nat.land (zi (xs (i : Int).toNat).toInt) (zi 63)) = 30 → K (rx_find rx_mL 992) [(3, .inl i), (2, .inr (.inr (.inl 170))), (1, .inr (.inr (.inl 0))), (0, .inr (.inr (.inr 0)))] [] st) ∧ (zd (Nat.land (zi (xs (i : Int).toNat).toInt) (zi 63)) = 31 → K (rx_find rx_mL 1015) [(3, .inl i), (2, .inr (.inr (.inl 170))), (1, .inr (.inr (.inl 0))), (0, .inr (.inr (.inr 0)))] [] st) ∧ (zd (Nat.land (zi (xs (i : Int).toNat).toInt) (zi 63)) = 32 → K (rx_find rx_mL 1048) [(3, .inl i), (2, .inr (.inr (.inl 170))), (1, .inr (.inr (.inl 0))), (0, .inr (.inr (.inr 0)))] [] st) ∧ (zd (Nat.land (zi (xs (i : Int).toNat).toInt) (zi 63)) = 33 → K (rx_find rx_mL 1061) [(3, .inl i), (2, .inr (.inr (.inl 170))), (1, .inr (.inr (.inl 0))), (0, .inr (.inr (.inr 0)))] [] st) ∧ (zd (Nat.land (zi (xs (i : Int).toNat).toInt) (zi 63)) = 34 → K (rx_find rx_mL 1084) [(3, .inl i), (2, .inr (.inr (.inl 170))), (1, .inr (.inr (.inl 0))), (0, .inr (.inr (.inr 0)))] [] st) ∧ (zd (Nat.land (zi (xs (i : Int).toNat).toInt) (zi 63)) = 35 → K (rx_find rx_mL 1097) [(3, .inl i), (2, .inr (.inr (.inl 170))), (1, .inr (.inr (.inl 0))), (0, .inr (.inr (.inr 0)))] [] st) ∧ True)))))))
      exact ⟨rfl, ⟨by omega, by omega⟩, fun z => rfl, fun _ => ⟨rfl, ⟨by omega, by omega⟩, fun _ => hd, fun _ => hd, fun _ => lcase0 hTb hcl h0 h1 hN hI ih, fun _ => lcase1 hTb hcl h0 h1 hN hI ih, fun _ => lcase2 hTb hcl h0 h1 hN hI ih, fun _ => lcase3 hTb hcl h0 h1 hN hI ih, fun _ => lcase4 hTb hcl h0 h1 hN hI ih, fun _ => lcase5 hTb hcl h0 h1 hN hI ih, fun _ => lcase6 hTb hcl h0 h1 hN hI ih, fun _ => lcase7 hTb hcl h0 h1 hN hI ih, fun _ => lcase8 hTb hcl h0 h1 hN hI ih, fun _ => lcase9 hTb hcl h0 h1 hN hI ih, fun _ => lcase10 hTb hcl h0 h1 hN hI ih, fun _ => lcase11 hTb hcl h0 h1 hN hI ih, fun _ => lcase12 hTb hcl h0 h1 hN hI ih, fun _ => lcase13 hTb hcl h0 h1 hN hI ih, fun _ => lcase14 hTb hcl h0 h1 hN hI ih, fun _ => lcase15 hTb hcl h0 h1 hN hI ih, fun _ => lcase16 hTb hcl h0 h1 hN hI ih, fun _ => lcase17 hTb hcl h0 h1 hN hI ih, fun _ => lcase18 hTb hcl h0 h1 hN hI ih, fun _ => lcase19 hTb hcl h0 h1 hN hI ih, fun _ => lcase20 hTb hcl h0 h1 hN hI ih, fun _ => lcase21 hTb hcl h0 h1 hN hI ih, fun _ => lcase22 hTb hcl h0 h1 hN hI ih, fun _ => lcase23 hTb hcl h0 h1 hN hI ih, fun _ => lcase24 hTb hcl h0 h1 hN hI ih, fun _ => lcase25 hTb hcl h0 h1 hN hI ih, fun _ => lcase26 hTb hcl h0 h1 hN hI ih, fun _ => lcase27 hTb hcl h0 h1 hN hI ih, fun _ => lcase28 hTb hcl h0 h1 hN hI ih, fun _ => lcase29 hTb hcl h0 h1 hN hI ih, fun _ => lcase30 hTb hcl h0 h1 hN hI ih, fun _ => lcase31 hTb hcl h0 h1 hN hI ih, fun _ => lcase32 hTb hcl h0 h1 hN hI ih, fun _ => lcase33 hTb hcl h0 h1 hN hI ih, fun _ => lcase34 hTb hcl h0 h1 hN hI ih, fun _ => lcase35 hTb hcl h0 h1 hN hI ih, True.intro⟩⟩
    · refine lr1_ok (wc := wcL []) (stp := [1120, 192, 255, 278, 291, 314, 337, 380, 413, 446, 479, 512, 535, 568, 581, 604, 627, 650, 683, 706, 719, 732, 755, 788, 821, 844, 867, 900, 933, 966, 979, 992, 1015, 1048, 1061, 1084, 1097]) hcm hcl 20 ?_
      show (0 = 0 ∧ ((-2147483648 ≤ (N : Int) - 6 ∧ (N : Int) - 6 ≤ 2147483647) ∧ (((N : Int) - 6 < i → ((1 : Int) = 1)) ∧ (¬ ((N : Int) - 6 < i) → (0 = 0 ∧ ((0 ≤ i ∧ i < (N : Int)) ∧ ((zd (Nat.land (zi (xs (i : Int).toNat).toInt) (zi 63)) < 0 → K (rx_find rx_mL 1120) [(3, .inl i), (2, .inr (.inr (.inl 170))), (1, .inr (.inr (.inl 0))), (0, .inr (.inr (.inr 0)))] [] st) ∧ (35 < zd (Nat.land (zi (xs (i : Int).toNat).toInt) (zi 63)) → K (rx_find rx_mL 1120) [(3, .inl i), (2, .inr (.inr (.inl 170))), (1, .inr (.inr (.inl 0))), (0, .inr (.inr (.inr 0)))] [] st) ∧ (zd (Nat.land (zi (xs (i : Int).toNat).toInt) (zi 63)) = 0 → K (rx_find rx_mL 192) [(3, .inl i), (2, .inr (.inr (.inl 170))), (1, .inr (.inr (.inl 0))), (0, .inr (.inr (.inr 0)))] [] st) ∧ (zd (Nat.land (zi (xs (i : Int).toNat).toInt) (zi 63)) = 1 → K (rx_find rx_mL 255) [(3, .inl i), (2, .inr (.inr (.inl 170))), (1, .inr (.inr (.inl 0))), (0, .inr (.inr (.inr 0)))] [] st) ∧ (zd (Nat.land (zi (xs (i : Int).toNat).toInt) (zi 63)) = 2 → K (rx_find rx_mL 278) [(3, .inl i), (2, .inr (.inr (.inl 170))), (1, .inr (.inr (.inl 0))), (0, .inr (.inr (.inr 0)))] [] st) ∧ (zd (Nat.land (zi (xs (i : Int).toNat).toInt) (zi 63)) = 3 → K (rx_find rx_mL 291) [(3, .inl i), (2, .inr (.inr (.inl 170))), (1, .inr (.inr (.inl 0))), (0, .inr (.inr (.inr 0)))] [] st) ∧ (zd (Nat.land (zi (xs (i : Int).toNat).toInt) (zi 63)) = 4 → K (rx_find rx_mL 314) [(3, .inl i), (2, .inr (.inr (.inl 170))), (1, .inr (.inr (.inl 0))), (0, .inr (.inr (.inr 0)))] [] st) ∧ (zd (Nat.land (zi (xs (i : Int).toNat).toInt) (zi 63)) = 5 → K (rx_find rx_mL 337) [(3, .inl i), (2, .inr (.inr (.inl 170))), (1, .inr (.inr (.inl 0))), (0, .inr (.inr (.inr 0)))] [] st) ∧ (zd (Nat.land (zi (xs (i : Int).toNat).toInt) (zi 63)) = 6 → K (rx_find rx_mL 380) [(3, .inl i), (2, .inr (.inr (.inl 170))), (1, .inr (.inr (.inl 0))), (0, .inr (.inr (.inr 0)))] [] st) ∧ (zd (Nat.land (zi (xs (i : Int).toNat).toInt) (zi 63)) = 7 → K (rx_find rx_mL 413) [(3, .inl i), (2, .inr (.inr (.inl 170))), (1, .inr (.inr (.inl 0))), (0, .inr (.inr (.inr 0)))] [] st) ∧ (zd (Nat.land (zi (xs (i : Int).toNat).toInt) (zi 63)) = 8 → K (rx_find rx_mL 446) [(3, .inl i), (2, .inr (.inr (.inl 170))), (1, .inr (.inr (.inl 0))), (0, .inr (.inr (.inr 0)))] [] st) ∧ (zd (Nat.land (zi (xs (i : Int).toNat).toInt) (zi 63)) = 9 → K (rx_find rx_mL 479) [(3, .inl i), (2, .inr (.inr (.inl 170))), (1, .inr (.inr (.inl 0))), (0, .inr (.inr (.inr 0)))] [] st) ∧ (zd (Nat.land (zi (xs (i : Int).toNat).toInt) (zi 63)) = 10 → K (rx_find rx_mL 512) [(3, .inl i), (2, .inr (.inr (.inl 170))), (1, .inr (.inr (.inl 0))), (0, .inr (.inr (.inr 0)))] [] st) ∧ (zd (Nat.land (zi (xs (i : Int).toNat).toInt) (zi 63)) = 11 → K (rx_find rx_mL 535) [(3, .inl i), (2, .inr (.inr (.inl 170))), (1, .inr (.inr (.inl 0))), (0, .inr (.inr (.inr 0)))] [] st) ∧ (zd (Nat.land (zi (xs (i : Int).toNat).toInt) (zi 63)) = 12 → K (rx_find rx_mL 568) [(3, .inl i), (2, .inr (.inr (.inl 170))), (1, .inr (.inr (.inl 0))), (0, .inr (.inr (.inr 0)))] [] st) ∧ (zd (Nat.land (zi (xs (i : Int).toNat).toInt) (zi 63)) = 13 → K (rx_find rx_mL 581) [(3, .inl i), (2, .inr (.inr (.inl 170))), (1, .inr (.inr (.inl 0))), (0, .inr (.inr (.inr 0)))] [] st) ∧ (zd (Nat.land (zi (xs (i : Int).toNat).toInt) (zi 63)) = 14 → K (rx_find rx_mL 604) [(3, .inl i), (2, .inr (.inr (.inl 170))), (1, .inr (.inr (.inl 0))), (0, .inr (.inr (.inr 0)))] [] st) ∧ (zd (Nat.land (zi (xs (i : Int).toNat).toInt) (zi 63)) = 15 → K (rx_find rx_mL 627) [(3, .inl i), (2, .inr (.inr (.inl 170))), (1, .inr (.inr (.inl 0))), (0, .inr (.inr (.inr 0)))] [] st) ∧ (zd (Nat.land (zi (xs (i : Int).toNat).toInt) (zi 63)) = 16 → K (rx_find rx_mL 650) [(3, .inl i), (2, .inr (.inr (.inl 170))), (1, .inr (.inr (.inl 0))), (0, .inr (.inr (.inr 0)))] [] st) ∧ (zd (Nat.land (zi (xs (i : Int).toNat).toInt) (zi 63)) = 17 → K (rx_find rx_mL 683) [(3, .inl i), (2, .inr (.inr (.inl 170))), (1, .inr (.inr (.inl 0))), (0, .inr (.inr (.inr 0)))] [] st) ∧ (zd (Nat.land (zi (xs (i : Int).toNat).toInt) (zi 63)) = 18 → K (rx_find rx_mL 706) [(3, .inl i), (2, .inr (.inr (.inl 170))), (1, .inr (.inr (.inl 0))), (0, .inr (.inr (.inr 0)))] [] st) ∧ (zd (Nat.land (zi (xs (i : Int).toNat).toInt) (zi 63)) = 19 → K (rx_find rx_mL 719) [(3, .inl i), (2, .inr (.inr (.inl 170))), (1, .inr (.inr (.inl 0))), (0, .inr (.inr (.inr 0)))] [] st) ∧ (zd (Nat.land (zi (xs (i : Int).toNat).toInt) (zi 63)) = 20 → K (rx_find rx_mL 732) [(3, .inl i), (2, .inr (.inr (.inl 170))), (1, .inr (.inr (.inl 0))), (0, .inr (.inr (.inr 0)))] [] st) ∧ (zd (Nat.land (zi (xs (i : Int).toNat).toInt) (zi 63)) = 21 → K (rx_find rx_mL 755) [(3, .inl i), (2, .inr (.inr (.inl 170))), (1, .inr (.inr (.inl 0))), (0, .inr (.inr (.inr 0)))] [] st) ∧ (zd (Nat.land (zi (xs (i : Int).toNat).toInt) (zi 63)) = 22 → K (rx_find rx_mL 788) [(3, .inl i), (2, .inr (.inr (.inl 170))), (1, .inr (.inr (.inl 0))), (0, .inr (.inr (.inr 0)))] [] st) ∧ (zd (Nat.land (zi (xs (i : Int).toNat).toInt) (zi 63)) = 23 → K (rx_find rx_mL 821) [(3, .inl i), (2, .inr (.inr (.inl 170))), (1, .inr (.inr (.inl 0))), (0, .inr (.inr (.inr 0)))] [] st) ∧ (zd (Nat.land (zi (xs (i : Int).toNat).toInt) (zi 63)) = 24 → K (rx_find rx_mL 844) [(3, .inl i), (2, .inr (.inr (.inl 170))), (1, .inr (.inr (.inl 0))), (0, .inr (.inr (.inr 0)))] [] st) ∧ (zd (Nat.land (zi (xs (i : Int).toNat).toInt) (zi 63)) = 25 → K (rx_find rx_mL 867) [(3, .inl i), (2, .inr (.inr (.inl 170))), (1, .inr (.inr (.inl 0))), (0, .inr (.inr (.inr 0)))] [] st) ∧ (zd (Nat.land (zi (xs (i : Int).toNat).toInt) (zi 63)) = 26 → K (rx_find rx_mL 900) [(3, .inl i), (2, .inr (.inr (.inl 170))), (1, .inr (.inr (.inl 0))), (0, .inr (.inr (.inr 0)))] [] st) ∧ (zd (Nat.land (zi (xs (i : Int).toNat).toInt) (zi 63)) = 27 → K (rx_find rx_mL 933) [(3, .inl i), (2, .inr (.inr (.inl 170))), (1, .inr (.inr (.inl 0))), (0, .inr (.inr (.inr 0)))] [] st) ∧ (zd (Nat.land (zi (xs (i : Int).toNat).toInt) (zi 63)) = 28 → K (rx_find rx_mL 966) [(3, .inl i), (2, .inr (.inr (.inl 170))), (1, .inr (.inr (.inl 0))), (0, .inr (.inr (.inr 0)))] [] st) ∧ (zd (Nat.land (zi (xs (i : Int).toNat).toInt) (zi 63)) = 29 → K (rx_find rx_mL 979) [(3, .inl i), (2, .inr (.inr (.inl 170))), (1, .inr (.inr (.inl 0))), (0, .inr (.inr (.inr 0)))] [] st) ∧ (zd (Nat.land (zi (xs (i : Int).toNat).toInt) (zi 63)) = 30 → K (rx_find rx_mL 992) [(3, .inl i), (2, .inr (.inr (.inl 170))), (1, .inr (.inr (.inl 0))), (0, .inr (.inr (.inr 0)))] [] st) ∧ (zd (Nat.land (zi (xs (i : Int).toNat).toInt) (zi 63)) = 31 → K (rx_find rx_mL 1015) [(3, .inl i), (2, .inr (.inr (.inl 170))), (1, .inr (.inr (.inl 0))), (0, .inr (.inr (.inr 0)))] [] st) ∧ (zd (Nat.land (zi (xs (i : Int).toNat).toInt) (zi 63)) = 32 → K (rx_find rx_mL 1048) [(3, .inl i), (2, .inr (.inr (.inl 170))), (1, .inr (.inr (.inl 0))), (0, .inr (.inr (.inr 0)))] [] st) ∧ (zd (Nat.land (zi (xs (i : Int).toNat).toInt) (zi 63)) = 33 → K (rx_find rx_mL 1061) [(3, .inl i), (2, .inr (.inr (.inl 170))), (1, .inr (.inr (.inl 0))), (0, .inr (.inr (.inr 0)))] [] st) ∧ (zd (Nat.land (zi (xs (i : Int).toNat).toInt) (zi 63)) = 34 → K (rx_find rx_mL 1084) [(3, .inl i), (2, .inr (.inr (.inl 170))), (1, .inr (.inr (.inl 0))), (0, .inr (.inr (.inr 0)))] [] st) ∧ (zd (Nat.land (zi (xs (i : Int).toNat).toInt) (zi 63)) = 35 → K (rx_find rx_mL 1097) [(3, .inl i), (2, .inr (.inr (.inl 170))), (1, .inr (.inr (.inl 0))), (0, .inr (.inr (.inr 0)))] [] st) ∧ True)))))))
      exact ⟨rfl, ⟨by omega, by omega⟩, fun z => rfl, fun z => absurd (show (N : Int) - 6 < i by omega) z⟩
end LCS
