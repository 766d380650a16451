/-! printed by wip/p32/libt.py: the class's town empties the tape -/
def kY (s : aS) : zCall := fun _ as st Q => aTs s.1 as ∧ gInv zgt st ∧ ∀ (r : Int) (s1 : zS), gInv zgt s1 → aFr s.2.1 st s1 → Q (some (.inl r)) s1
def kYv (s : aS) : zCall := fun _ as st Q => aTs s.1 as ∧ gInv zgt st ∧ ∀ (s1 : zS), gInv zgt s1 → aFr s.2.1 st s1 → Q none s1
theorem kY_m {cl : Nat → zCall} {D nu : Nat} {s : aS} (hS : aSp zgt cl D nu s) (hn : s.2.2.2.2.1 = 0) (hd : s.2.2.2.1 ≤ D) {b : aB} (hr : s.2.2.1 = some (.inl b)) : ∀ as st (Q Q' : zQ), (∀ r st', Q r st' → Q' r st') → kY s nu as st Q → cl D nu as st Q' := by
  intro as st Q Q' hQ h
  obtain ⟨h1, h2, h3⟩ := h
  refine hS as st h1 h2 ⟨fun _ => by omega, fun q => absurd hn q⟩ Q' (fun rz st' g f r => ?_)
  rw [hr] at r
  rcases rz with _ | (z | (z | z))
  · exact absurd r id
  · exact hQ _ _ (h3 z st' g f)
  · exact absurd r id
  · exact absurd r id
theorem kYv_m {cl : Nat → zCall} {D nu : Nat} {s : aS} (hS : aSp zgt cl D nu s) (hn : s.2.2.2.2.1 = 0) (hd : s.2.2.2.1 ≤ D) (hr : s.2.2.1 = none) : ∀ as st (Q Q' : zQ), (∀ r st', Q r st' → Q' r st') → kYv s nu as st Q → cl D nu as st Q' := by
  intro as st Q Q' hQ h
  obtain ⟨h1, h2, h3⟩ := h
  refine hS as st h1 h2 ⟨fun _ => by omega, fun q => absurd hn q⟩ Q' (fun rz st' g f r => ?_)
  rw [hr] at r
  rcases rz with _ | z
  · exact hQ _ _ (h3 st' g f)
  · exact absurd r id
def zb_122 : aS := ([.inr (.inr 5), .inr (.inr 122)], ([(5, 0), (5, 1), (5, 4), (7, 2)], [6, 8, 9]), none, (6, 0, 0))
def zb_135 : aS := ([.inr (.inr 5), .inr (.inr 135)], ([(5, 0), (5, 1), (5, 4), (7, 2)], [6, 8, 9]), none, (6, 0, 0))
def zb_f : aS := ([.inr (.inr 10)], ([(10, 5)], []), none, (2, 0, 0))
def zb_c : aS := ([.inr (.inr 115)], ([(115, 5)], []), none, (2, 0, 0))
set_option maxRecDepth 100000 in
theorem zb_122_ok : ains zSh zgt zit rx_tb 3000 145 zb_122 [] = true := by decide +kernel
set_option maxRecDepth 100000 in
theorem zb_135_ok : ains zSh zgt zit rx_tb 3000 145 zb_135 [] = true := by decide +kernel
set_option maxRecDepth 100000 in
theorem zb_f_ok : ains zSh zgt zit rx_tb 3000 146 zb_f [] = true := by decide +kernel
set_option maxRecDepth 100000 in
theorem zb_c_ok : ains zSh zgt zit rx_tb 3000 147 zb_c [] = true := by decide +kernel
section R7p
variable {cl : Nat → zCall}
set_option maxRecDepth 100000 in
set_option maxHeartbeats 4000000 in
theorem ctw_122_122 (hTb : aTb zSh rx_tb cl) {d : Nat} (hd : 130 ≤ d) {Q : zQ} {K : zG} (hcl : zcl zSh rx_m140 3 1 (cl d) Q K) {st : zS} (hI : zI st) (g8 : st 0 8 = 122) (g9 : st 0 9 = 122) (hQ : ∀ (r : Int) (s1 : zS), zI s1 → s1 1 1 = 0 → s1 170 1 = st 170 1 → Q (some (.inl r)) s1) : K rx_m140 (zargs [.inr (.inr (.inl 0))] 0) [] st := by
  have hcm1 : zmo (wcL [(141, kY zu_34), (89, k_cCut), (163, k_cRefuse)]) (cl d) := wcL_m (wm_cons (kY_m (z_all hTb d 141 (none, [zu_34, zu_35]) zu_34 rfl List.mem_cons_self) rfl (by show 126 ≤ d; omega) rfl) (wm_cons (k_cCut_m hTb (by omega)) (wm_cons (k_cRefuse_m hTb (by omega)) wm_nil)))
  have hcm2 : zmo (wcL [(145, kYv zb_122), (146, kYv zb_f), (147, kYv zb_c)]) (cl d) := wcL_m (wm_cons (kYv_m (ains_ok hTb zb_122_ok d (fun d' _ => z_all hTb d')) rfl (by show 6 ≤ d; omega) rfl) (wm_cons (kYv_m (ains_ok hTb zb_f_ok d (fun d' _ => z_all hTb d')) rfl (by show 2 ≤ d; omega) rfl) (wm_cons (kYv_m (ains_ok hTb zb_c_ok d (fun d' _ => z_all hTb d')) rfl (by show 2 ≤ d; omega) rfl) wm_nil)))
  refine yr1_ok (Rt := Q) (wc := zno) (stp := [8]) zno_m hcl [] 20 ?_
  show K (rx_find rx_m140 8) [(0, .inr (.inr (.inl 0)))] [.inr (.inr (.inl (st 0 9).toNat)), .inr (.inr (.inl 148))] st
  rw [g9]
  refine yr1_ok (Rt := Q) (wc := (wcL [(141, kY zu_34), (89, k_cCut), (163, k_cRefuse)])) (stp := [52]) hcm1 hcl [] 60 ?_
  show (aTs zu_34.1 [.inr (.inr (.inl 148)), .inr (.inr (.inl 122))] ∧ (gInv zgt st ∧ (∀ (r1 : Int) (s1 : zS), gInv zgt s1 → aFr zu_34.2.1 st s1 → (1 = 1 ∧ (rq_cCut (0) (zup (zup s1 0 10 (s1 148 3)) 0 11 (s1 148 4)) ∧ (∀ (s3 : zS), en_cCut (0) (zup (zup s1 0 10 (s1 148 3)) 0 11 (s1 148 4)) s3 → ((¬ r1 = (0 : Int) → K (rx_find rx_m140 52) [(1, .inl r1), (0, .inr (.inr (.inl 0)))] [] s3) ∧ (¬ (¬ r1 = (0 : Int)) → (0 = 0 ∧ (rq_cRefuse (1) s3 ∧ (∀ (r4 : Int) (s4 : zS), en_cRefuse (1) s3 r4 s4 → Q (some (.inl r4)) s4)))))))))))
  refine ⟨⟨rfl, rfl, True.intro⟩, hI.1, fun r1 s1 q1 f1 => ⟨rfl, gInv_up (gInv_up q1 ⟨(.negSucc 2147483647, .ofNat 2147483647), List.mem_singleton.mpr rfl, (gI1 (q1 148 3)).1, (gI1 (q1 148 3)).2⟩) ⟨(.negSucc 2147483647, .ofNat 2147483647), List.mem_singleton.mpr rfl, (gI1 (q1 148 4)).1, (gI1 (q1 148 4)).2⟩, fun s3 q3 => ?_⟩⟩
  obtain ⟨g3, f3, t3⟩ := q3
  change (0 ≤ (0 : Int) ∧ (0 : Int) < s1 1 1 → s3 1 1 = 0) ∧ (¬ (0 ≤ (0 : Int) ∧ (0 : Int) < s1 1 1) → s3 1 1 = s1 1 1) at t3
  have z3 : s3 1 1 = 0 := by
    have := g_tsize q1
    omega
  have j3 : zJ s3 := zJ_fr rfl f3 (zJ_up rfl (zJ_up rfl (zJ_fr (by decide +kernel) f1 hI.2)))
  have k3 : s3 170 1 = st 170 1 := (f3 170 1 rfl rfl).trans (f1 170 1 rfl rfl)
  have h8 : s3 0 8 = 122 := (f3 0 8 rfl rfl).trans ((f1 0 8 rfl rfl).trans g8)
  have h9 : s3 0 9 = 122 := (f3 0 9 rfl rfl).trans ((f1 0 9 rfl rfl).trans g9)
  refine ⟨fun _ => ?_, fun _ => ⟨rfl, ⟨g3, by decide⟩, fun r4 s4 q4 => hQ r4 s4 ⟨q4.1, zJ_fr rfl q4.2.1 j3⟩ ((q4.2.1 1 1 rfl rfl).trans z3) ((q4.2.1 170 1 rfl rfl).trans k3)⟩⟩
  refine yr1_ok (Rt := Q) (wc := zno) (stp := [57]) zno_m hcl [] 10 ?_
  show K (rx_find rx_m140 57) [(2, .inr (.inr (.inl (s3 0 8).toNat))), (1, .inl r1), (0, .inr (.inr (.inl 0)))] [] s3
  rw [h8]
  refine yr1_ok (Rt := Q) (wc := zno) (stp := [62]) zno_m hcl [] 10 ?_
  show K (rx_find rx_m140 62) [(2, .inr (.inr (.inl 122))), (1, .inl r1), (0, .inr (.inr (.inl 0)))] [.inr (.inr (.inl (s3 0 9).toNat)), .inr (.inr (.inl 0))] s3
  rw [h9]
  refine yr1_ok (Rt := Q) (wc := (wcL [(145, kYv zb_122), (146, kYv zb_f), (147, kYv zb_c)])) (stp := [99]) hcm2 hcl [] 60 ?_
  show (aTs zb_122.1 [.inr (.inr (.inl 5)), .inr (.inr (.inl 122))] ∧ (gInv zgt (zup (zup s3 0 8 (122 : Int)) 0 9 (122 : Int)) ∧ (∀ (s5 : zS), gInv zgt s5 → aFr zb_122.2.1 (zup (zup s3 0 8 (122 : Int)) 0 9 (122 : Int)) s5 → (aTs zb_f.1 [.inr (.inr (.inl 10))] ∧ (gInv zgt s5 ∧ (∀ (s6 : zS), gInv zgt s6 → aFr zb_f.2.1 s5 s6 → (aTs zb_c.1 [.inr (.inr (.inl 115))] ∧ (gInv zgt s6 ∧ (∀ (s7 : zS), gInv zgt s7 → aFr zb_c.2.1 s6 s7 → K (rx_find rx_m140 99) [(2, .inr (.inr (.inl 122))), (1, .inl r1), (0, .inr (.inr (.inl 0)))] [.inr (.inr (.inl (s7 0 8).toNat))] s7)))))))))
  refine ⟨⟨rfl, rfl, True.intro⟩, gInv_up (gInv_up g3 ⟨(.ofNat 122, .ofNat 122), List.mem_cons_self, by decide, by decide⟩) ⟨(.ofNat 122, .ofNat 122), List.mem_cons_self, by decide, by decide⟩, fun s5 g5 f5 => ⟨⟨rfl, True.intro⟩, g5, fun s6 g6 f6 => ⟨⟨rfl, True.intro⟩, g6, fun s7 g7 f7 => ?_⟩⟩⟩
  have h78 : s7 0 8 = 122 := (f7 0 8 rfl rfl).trans ((f6 0 8 rfl rfl).trans (f5 0 8 rfl rfl))
  rw [h78]
  refine yr1_ok (Rt := Q) (wc := zno) (stp := []) zno_m hcl [] 10 ?_
  show Q (some (.inl (s7 122 0))) s7
  exact hQ _ s7 ⟨g7, zJ_fr rfl f7 (zJ_fr rfl f6 (zJ_fr rfl f5 (zJ_up rfl (zJ_up rfl j3))))⟩ ((f7 1 1 rfl rfl).trans ((f6 1 1 rfl rfl).trans ((f5 1 1 rfl rfl).trans z3))) ((f7 170 1 rfl rfl).trans ((f6 170 1 rfl rfl).trans ((f5 170 1 rfl rfl).trans k3)))
set_option maxRecDepth 100000 in
set_option maxHeartbeats 4000000 in
theorem ctw_122_135 (hTb : aTb zSh rx_tb cl) {d : Nat} (hd : 130 ≤ d) {Q : zQ} {K : zG} (hcl : zcl zSh rx_m140 3 1 (cl d) Q K) {st : zS} (hI : zI st) (g8 : st 0 8 = 122) (g9 : st 0 9 = 135) (hQ : ∀ (r : Int) (s1 : zS), zI s1 → s1 1 1 = 0 → s1 170 1 = st 170 1 → Q (some (.inl r)) s1) : K rx_m140 (zargs [.inr (.inr (.inl 0))] 0) [] st := by
  have hcm1 : zmo (wcL [(141, kY zu_35), (89, k_cCut), (163, k_cRefuse)]) (cl d) := wcL_m (wm_cons (kY_m (z_all hTb d 141 (none, [zu_34, zu_35]) zu_35 rfl (List.mem_cons_of_mem _ List.mem_cons_self)) rfl (by show 126 ≤ d; omega) rfl) (wm_cons (k_cCut_m hTb (by omega)) (wm_cons (k_cRefuse_m hTb (by omega)) wm_nil)))
  have hcm2 : zmo (wcL [(145, kYv zb_135), (146, kYv zb_f), (147, kYv zb_c)]) (cl d) := wcL_m (wm_cons (kYv_m (ains_ok hTb zb_135_ok d (fun d' _ => z_all hTb d')) rfl (by show 6 ≤ d; omega) rfl) (wm_cons (kYv_m (ains_ok hTb zb_f_ok d (fun d' _ => z_all hTb d')) rfl (by show 2 ≤ d; omega) rfl) (wm_cons (kYv_m (ains_ok hTb zb_c_ok d (fun d' _ => z_all hTb d')) rfl (by show 2 ≤ d; omega) rfl) wm_nil)))
  refine yr1_ok (Rt := Q) (wc := zno) (stp := [8]) zno_m hcl [] 20 ?_
  show K (rx_find rx_m140 8) [(0, .inr (.inr (.inl 0)))] [.inr (.inr (.inl (st 0 9).toNat)), .inr (.inr (.inl 148))] st
  rw [g9]
  refine yr1_ok (Rt := Q) (wc := (wcL [(141, kY zu_35), (89, k_cCut), (163, k_cRefuse)])) (stp := [52]) hcm1 hcl [] 60 ?_
  show (aTs zu_35.1 [.inr (.inr (.inl 148)), .inr (.inr (.inl 135))] ∧ (gInv zgt st ∧ (∀ (r1 : Int) (s1 : zS), gInv zgt s1 → aFr zu_35.2.1 st s1 → (1 = 1 ∧ (rq_cCut (0) (zup (zup s1 0 10 (s1 148 3)) 0 11 (s1 148 4)) ∧ (∀ (s3 : zS), en_cCut (0) (zup (zup s1 0 10 (s1 148 3)) 0 11 (s1 148 4)) s3 → ((¬ r1 = (0 : Int) → K (rx_find rx_m140 52) [(1, .inl r1), (0, .inr (.inr (.inl 0)))] [] s3) ∧ (¬ (¬ r1 = (0 : Int)) → (0 = 0 ∧ (rq_cRefuse (1) s3 ∧ (∀ (r4 : Int) (s4 : zS), en_cRefuse (1) s3 r4 s4 → Q (some (.inl r4)) s4)))))))))))
  refine ⟨⟨rfl, rfl, True.intro⟩, hI.1, fun r1 s1 q1 f1 => ⟨rfl, gInv_up (gInv_up q1 ⟨(.negSucc 2147483647, .ofNat 2147483647), List.mem_singleton.mpr rfl, (gI1 (q1 148 3)).1, (gI1 (q1 148 3)).2⟩) ⟨(.negSucc 2147483647, .ofNat 2147483647), List.mem_singleton.mpr rfl, (gI1 (q1 148 4)).1, (gI1 (q1 148 4)).2⟩, fun s3 q3 => ?_⟩⟩
  obtain ⟨g3, f3, t3⟩ := q3
  change (0 ≤ (0 : Int) ∧ (0 : Int) < s1 1 1 → s3 1 1 = 0) ∧ (¬ (0 ≤ (0 : Int) ∧ (0 : Int) < s1 1 1) → s3 1 1 = s1 1 1) at t3
  have z3 : s3 1 1 = 0 := by
    have := g_tsize q1
    omega
  have j3 : zJ s3 := zJ_fr rfl f3 (zJ_up rfl (zJ_up rfl (zJ_fr (by decide +kernel) f1 hI.2)))
  have k3 : s3 170 1 = st 170 1 := (f3 170 1 rfl rfl).trans (f1 170 1 rfl rfl)
  have h8 : s3 0 8 = 122 := (f3 0 8 rfl rfl).trans ((f1 0 8 rfl rfl).trans g8)
  have h9 : s3 0 9 = 135 := (f3 0 9 rfl rfl).trans ((f1 0 9 rfl rfl).trans g9)
  refine ⟨fun _ => ?_, fun _ => ⟨rfl, ⟨g3, by decide⟩, fun r4 s4 q4 => hQ r4 s4 ⟨q4.1, zJ_fr rfl q4.2.1 j3⟩ ((q4.2.1 1 1 rfl rfl).trans z3) ((q4.2.1 170 1 rfl rfl).trans k3)⟩⟩
  refine yr1_ok (Rt := Q) (wc := zno) (stp := [57]) zno_m hcl [] 10 ?_
  show K (rx_find rx_m140 57) [(2, .inr (.inr (.inl (s3 0 8).toNat))), (1, .inl r1), (0, .inr (.inr (.inl 0)))] [] s3
  rw [h8]
  refine yr1_ok (Rt := Q) (wc := zno) (stp := [62]) zno_m hcl [] 10 ?_
  show K (rx_find rx_m140 62) [(2, .inr (.inr (.inl 122))), (1, .inl r1), (0, .inr (.inr (.inl 0)))] [.inr (.inr (.inl (s3 0 9).toNat)), .inr (.inr (.inl 0))] s3
  rw [h9]
  refine yr1_ok (Rt := Q) (wc := (wcL [(145, kYv zb_135), (146, kYv zb_f), (147, kYv zb_c)])) (stp := [99]) hcm2 hcl [] 60 ?_
  show (aTs zb_135.1 [.inr (.inr (.inl 5)), .inr (.inr (.inl 135))] ∧ (gInv zgt (zup (zup s3 0 8 (135 : Int)) 0 9 (122 : Int)) ∧ (∀ (s5 : zS), gInv zgt s5 → aFr zb_135.2.1 (zup (zup s3 0 8 (135 : Int)) 0 9 (122 : Int)) s5 → (aTs zb_f.1 [.inr (.inr (.inl 10))] ∧ (gInv zgt s5 ∧ (∀ (s6 : zS), gInv zgt s6 → aFr zb_f.2.1 s5 s6 → (aTs zb_c.1 [.inr (.inr (.inl 115))] ∧ (gInv zgt s6 ∧ (∀ (s7 : zS), gInv zgt s7 → aFr zb_c.2.1 s6 s7 → K (rx_find rx_m140 99) [(2, .inr (.inr (.inl 122))), (1, .inl r1), (0, .inr (.inr (.inl 0)))] [.inr (.inr (.inl (s7 0 8).toNat))] s7)))))))))
  refine ⟨⟨rfl, rfl, True.intro⟩, gInv_up (gInv_up g3 ⟨(.ofNat 135, .ofNat 135), List.mem_cons_of_mem _ List.mem_cons_self, by decide, by decide⟩) ⟨(.ofNat 122, .ofNat 122), List.mem_cons_self, by decide, by decide⟩, fun s5 g5 f5 => ⟨⟨rfl, True.intro⟩, g5, fun s6 g6 f6 => ⟨⟨rfl, True.intro⟩, g6, fun s7 g7 f7 => ?_⟩⟩⟩
  have h78 : s7 0 8 = 135 := (f7 0 8 rfl rfl).trans ((f6 0 8 rfl rfl).trans (f5 0 8 rfl rfl))
  rw [h78]
  refine yr1_ok (Rt := Q) (wc := zno) (stp := []) zno_m hcl [] 10 ?_
  show Q (some (.inl (s7 135 0))) s7
  exact hQ _ s7 ⟨g7, zJ_fr rfl f7 (zJ_fr rfl f6 (zJ_fr rfl f5 (zJ_up rfl (zJ_up rfl j3))))⟩ ((f7 1 1 rfl rfl).trans ((f6 1 1 rfl rfl).trans ((f5 1 1 rfl rfl).trans z3))) ((f7 170 1 rfl rfl).trans ((f6 170 1 rfl rfl).trans ((f5 170 1 rfl rfl).trans k3)))
set_option maxRecDepth 100000 in
set_option maxHeartbeats 4000000 in
theorem ctw_135_122 (hTb : aTb zSh rx_tb cl) {d : Nat} (hd : 130 ≤ d) {Q : zQ} {K : zG} (hcl : zcl zSh rx_m140 3 1 (cl d) Q K) {st : zS} (hI : zI st) (g8 : st 0 8 = 135) (g9 : st 0 9 = 122) (hQ : ∀ (r : Int) (s1 : zS), zI s1 → s1 1 1 = 0 → s1 170 1 = st 170 1 → Q (some (.inl r)) s1) : K rx_m140 (zargs [.inr (.inr (.inl 0))] 0) [] st := by
  have hcm1 : zmo (wcL [(141, kY zu_34), (89, k_cCut), (163, k_cRefuse)]) (cl d) := wcL_m (wm_cons (kY_m (z_all hTb d 141 (none, [zu_34, zu_35]) zu_34 rfl List.mem_cons_self) rfl (by show 126 ≤ d; omega) rfl) (wm_cons (k_cCut_m hTb (by omega)) (wm_cons (k_cRefuse_m hTb (by omega)) wm_nil)))
  have hcm2 : zmo (wcL [(145, kYv zb_122), (146, kYv zb_f), (147, kYv zb_c)]) (cl d) := wcL_m (wm_cons (kYv_m (ains_ok hTb zb_122_ok d (fun d' _ => z_all hTb d')) rfl (by show 6 ≤ d; omega) rfl) (wm_cons (kYv_m (ains_ok hTb zb_f_ok d (fun d' _ => z_all hTb d')) rfl (by show 2 ≤ d; omega) rfl) (wm_cons (kYv_m (ains_ok hTb zb_c_ok d (fun d' _ => z_all hTb d')) rfl (by show 2 ≤ d; omega) rfl) wm_nil)))
  refine yr1_ok (Rt := Q) (wc := zno) (stp := [8]) zno_m hcl [] 20 ?_
  show K (rx_find rx_m140 8) [(0, .inr (.inr (.inl 0)))] [.inr (.inr (.inl (st 0 9).toNat)), .inr (.inr (.inl 148))] st
  rw [g9]
  refine yr1_ok (Rt := Q) (wc := (wcL [(141, kY zu_34), (89, k_cCut), (163, k_cRefuse)])) (stp := [52]) hcm1 hcl [] 60 ?_
  show (aTs zu_34.1 [.inr (.inr (.inl 148)), .inr (.inr (.inl 122))] ∧ (gInv zgt st ∧ (∀ (r1 : Int) (s1 : zS), gInv zgt s1 → aFr zu_34.2.1 st s1 → (1 = 1 ∧ (rq_cCut (0) (zup (zup s1 0 10 (s1 148 3)) 0 11 (s1 148 4)) ∧ (∀ (s3 : zS), en_cCut (0) (zup (zup s1 0 10 (s1 148 3)) 0 11 (s1 148 4)) s3 → ((¬ r1 = (0 : Int) → K (rx_find rx_m140 52) [(1, .inl r1), (0, .inr (.inr (.inl 0)))] [] s3) ∧ (¬ (¬ r1 = (0 : Int)) → (0 = 0 ∧ (rq_cRefuse (1) s3 ∧ (∀ (r4 : Int) (s4 : zS), en_cRefuse (1) s3 r4 s4 → Q (some (.inl r4)) s4)))))))))))
  refine ⟨⟨rfl, rfl, True.intro⟩, hI.1, fun r1 s1 q1 f1 => ⟨rfl, gInv_up (gInv_up q1 ⟨(.negSucc 2147483647, .ofNat 2147483647), List.mem_singleton.mpr rfl, (gI1 (q1 148 3)).1, (gI1 (q1 148 3)).2⟩) ⟨(.negSucc 2147483647, .ofNat 2147483647), List.mem_singleton.mpr rfl, (gI1 (q1 148 4)).1, (gI1 (q1 148 4)).2⟩, fun s3 q3 => ?_⟩⟩
  obtain ⟨g3, f3, t3⟩ := q3
  change (0 ≤ (0 : Int) ∧ (0 : Int) < s1 1 1 → s3 1 1 = 0) ∧ (¬ (0 ≤ (0 : Int) ∧ (0 : Int) < s1 1 1) → s3 1 1 = s1 1 1) at t3
  have z3 : s3 1 1 = 0 := by
    have := g_tsize q1
    omega
  have j3 : zJ s3 := zJ_fr rfl f3 (zJ_up rfl (zJ_up rfl (zJ_fr (by decide +kernel) f1 hI.2)))
  have k3 : s3 170 1 = st 170 1 := (f3 170 1 rfl rfl).trans (f1 170 1 rfl rfl)
  have h8 : s3 0 8 = 135 := (f3 0 8 rfl rfl).trans ((f1 0 8 rfl rfl).trans g8)
  have h9 : s3 0 9 = 122 := (f3 0 9 rfl rfl).trans ((f1 0 9 rfl rfl).trans g9)
  refine ⟨fun _ => ?_, fun _ => ⟨rfl, ⟨g3, by decide⟩, fun r4 s4 q4 => hQ r4 s4 ⟨q4.1, zJ_fr rfl q4.2.1 j3⟩ ((q4.2.1 1 1 rfl rfl).trans z3) ((q4.2.1 170 1 rfl rfl).trans k3)⟩⟩
  refine yr1_ok (Rt := Q) (wc := zno) (stp := [57]) zno_m hcl [] 10 ?_
  show K (rx_find rx_m140 57) [(2, .inr (.inr (.inl (s3 0 8).toNat))), (1, .inl r1), (0, .inr (.inr (.inl 0)))] [] s3
  rw [h8]
  refine yr1_ok (Rt := Q) (wc := zno) (stp := [62]) zno_m hcl [] 10 ?_
  show K (rx_find rx_m140 62) [(2, .inr (.inr (.inl 135))), (1, .inl r1), (0, .inr (.inr (.inl 0)))] [.inr (.inr (.inl (s3 0 9).toNat)), .inr (.inr (.inl 0))] s3
  rw [h9]
  refine yr1_ok (Rt := Q) (wc := (wcL [(145, kYv zb_122), (146, kYv zb_f), (147, kYv zb_c)])) (stp := [99]) hcm2 hcl [] 60 ?_
  show (aTs zb_122.1 [.inr (.inr (.inl 5)), .inr (.inr (.inl 122))] ∧ (gInv zgt (zup (zup s3 0 8 (122 : Int)) 0 9 (135 : Int)) ∧ (∀ (s5 : zS), gInv zgt s5 → aFr zb_122.2.1 (zup (zup s3 0 8 (122 : Int)) 0 9 (135 : Int)) s5 → (aTs zb_f.1 [.inr (.inr (.inl 10))] ∧ (gInv zgt s5 ∧ (∀ (s6 : zS), gInv zgt s6 → aFr zb_f.2.1 s5 s6 → (aTs zb_c.1 [.inr (.inr (.inl 115))] ∧ (gInv zgt s6 ∧ (∀ (s7 : zS), gInv zgt s7 → aFr zb_c.2.1 s6 s7 → K (rx_find rx_m140 99) [(2, .inr (.inr (.inl 135))), (1, .inl r1), (0, .inr (.inr (.inl 0)))] [.inr (.inr (.inl (s7 0 8).toNat))] s7)))))))))
  refine ⟨⟨rfl, rfl, True.intro⟩, gInv_up (gInv_up g3 ⟨(.ofNat 122, .ofNat 122), List.mem_cons_self, by decide, by decide⟩) ⟨(.ofNat 135, .ofNat 135), List.mem_cons_of_mem _ List.mem_cons_self, by decide, by decide⟩, fun s5 g5 f5 => ⟨⟨rfl, True.intro⟩, g5, fun s6 g6 f6 => ⟨⟨rfl, True.intro⟩, g6, fun s7 g7 f7 => ?_⟩⟩⟩
  have h78 : s7 0 8 = 122 := (f7 0 8 rfl rfl).trans ((f6 0 8 rfl rfl).trans (f5 0 8 rfl rfl))
  rw [h78]
  refine yr1_ok (Rt := Q) (wc := zno) (stp := []) zno_m hcl [] 10 ?_
  show Q (some (.inl (s7 122 0))) s7
  exact hQ _ s7 ⟨g7, zJ_fr rfl f7 (zJ_fr rfl f6 (zJ_fr rfl f5 (zJ_up rfl (zJ_up rfl j3))))⟩ ((f7 1 1 rfl rfl).trans ((f6 1 1 rfl rfl).trans ((f5 1 1 rfl rfl).trans z3))) ((f7 170 1 rfl rfl).trans ((f6 170 1 rfl rfl).trans ((f5 170 1 rfl rfl).trans k3)))
set_option maxRecDepth 100000 in
set_option maxHeartbeats 4000000 in
theorem ctw_135_135 (hTb : aTb zSh rx_tb cl) {d : Nat} (hd : 130 ≤ d) {Q : zQ} {K : zG} (hcl : zcl zSh rx_m140 3 1 (cl d) Q K) {st : zS} (hI : zI st) (g8 : st 0 8 = 135) (g9 : st 0 9 = 135) (hQ : ∀ (r : Int) (s1 : zS), zI s1 → s1 1 1 = 0 → s1 170 1 = st 170 1 → Q (some (.inl r)) s1) : K rx_m140 (zargs [.inr (.inr (.inl 0))] 0) [] st := by
  have hcm1 : zmo (wcL [(141, kY zu_35), (89, k_cCut), (163, k_cRefuse)]) (cl d) := wcL_m (wm_cons (kY_m (z_all hTb d 141 (none, [zu_34, zu_35]) zu_35 rfl (List.mem_cons_of_mem _ List.mem_cons_self)) rfl (by show 126 ≤ d; omega) rfl) (wm_cons (k_cCut_m hTb (by omega)) (wm_cons (k_cRefuse_m hTb (by omega)) wm_nil)))
  have hcm2 : zmo (wcL [(145, kYv zb_135), (146, kYv zb_f), (147, kYv zb_c)]) (cl d) := wcL_m (wm_cons (kYv_m (ains_ok hTb zb_135_ok d (fun d' _ => z_all hTb d')) rfl (by show 6 ≤ d; omega) rfl) (wm_cons (kYv_m (ains_ok hTb zb_f_ok d (fun d' _ => z_all hTb d')) rfl (by show 2 ≤ d; omega) rfl) (wm_cons (kYv_m (ains_ok hTb zb_c_ok d (fun d' _ => z_all hTb d')) rfl (by show 2 ≤ d; omega) rfl) wm_nil)))
  refine yr1_ok (Rt := Q) (wc := zno) (stp := [8]) zno_m hcl [] 20 ?_
  show K (rx_find rx_m140 8) [(0, .inr (.inr (.inl 0)))] [.inr (.inr (.inl (st 0 9).toNat)), .inr (.inr (.inl 148))] st
  rw [g9]
  refine yr1_ok (Rt := Q) (wc := (wcL [(141, kY zu_35), (89, k_cCut), (163, k_cRefuse)])) (stp := [52]) hcm1 hcl [] 60 ?_
  show (aTs zu_35.1 [.inr (.inr (.inl 148)), .inr (.inr (.inl 135))] ∧ (gInv zgt st ∧ (∀ (r1 : Int) (s1 : zS), gInv zgt s1 → aFr zu_35.2.1 st s1 → (1 = 1 ∧ (rq_cCut (0) (zup (zup s1 0 10 (s1 148 3)) 0 11 (s1 148 4)) ∧ (∀ (s3 : zS), en_cCut (0) (zup (zup s1 0 10 (s1 148 3)) 0 11 (s1 148 4)) s3 → ((¬ r1 = (0 : Int) → K (rx_find rx_m140 52) [(1, .inl r1), (0, .inr (.inr (.inl 0)))] [] s3) ∧ (¬ (¬ r1 = (0 : Int)) → (0 = 0 ∧ (rq_cRefuse (1) s3 ∧ (∀ (r4 : Int) (s4 : zS), en_cRefuse (1) s3 r4 s4 → Q (some (.inl r4)) s4)))))))))))
  refine ⟨⟨rfl, rfl, True.intro⟩, hI.1, fun r1 s1 q1 f1 => ⟨rfl, gInv_up (gInv_up q1 ⟨(.negSucc 2147483647, .ofNat 2147483647), List.mem_singleton.mpr rfl, (gI1 (q1 148 3)).1, (gI1 (q1 148 3)).2⟩) ⟨(.negSucc 2147483647, .ofNat 2147483647), List.mem_singleton.mpr rfl, (gI1 (q1 148 4)).1, (gI1 (q1 148 4)).2⟩, fun s3 q3 => ?_⟩⟩
  obtain ⟨g3, f3, t3⟩ := q3
  change (0 ≤ (0 : Int) ∧ (0 : Int) < s1 1 1 → s3 1 1 = 0) ∧ (¬ (0 ≤ (0 : Int) ∧ (0 : Int) < s1 1 1) → s3 1 1 = s1 1 1) at t3
  have z3 : s3 1 1 = 0 := by
    have := g_tsize q1
    omega
  have j3 : zJ s3 := zJ_fr rfl f3 (zJ_up rfl (zJ_up rfl (zJ_fr (by decide +kernel) f1 hI.2)))
  have k3 : s3 170 1 = st 170 1 := (f3 170 1 rfl rfl).trans (f1 170 1 rfl rfl)
  have h8 : s3 0 8 = 135 := (f3 0 8 rfl rfl).trans ((f1 0 8 rfl rfl).trans g8)
  have h9 : s3 0 9 = 135 := (f3 0 9 rfl rfl).trans ((f1 0 9 rfl rfl).trans g9)
  refine ⟨fun _ => ?_, fun _ => ⟨rfl, ⟨g3, by decide⟩, fun r4 s4 q4 => hQ r4 s4 ⟨q4.1, zJ_fr rfl q4.2.1 j3⟩ ((q4.2.1 1 1 rfl rfl).trans z3) ((q4.2.1 170 1 rfl rfl).trans k3)⟩⟩
  refine yr1_ok (Rt := Q) (wc := zno) (stp := [57]) zno_m hcl [] 10 ?_
  show K (rx_find rx_m140 57) [(2, .inr (.inr (.inl (s3 0 8).toNat))), (1, .inl r1), (0, .inr (.inr (.inl 0)))] [] s3
  rw [h8]
  refine yr1_ok (Rt := Q) (wc := zno) (stp := [62]) zno_m hcl [] 10 ?_
  show K (rx_find rx_m140 62) [(2, .inr (.inr (.inl 135))), (1, .inl r1), (0, .inr (.inr (.inl 0)))] [.inr (.inr (.inl (s3 0 9).toNat)), .inr (.inr (.inl 0))] s3
  rw [h9]
  refine yr1_ok (Rt := Q) (wc := (wcL [(145, kYv zb_135), (146, kYv zb_f), (147, kYv zb_c)])) (stp := [99]) hcm2 hcl [] 60 ?_
  show (aTs zb_135.1 [.inr (.inr (.inl 5)), .inr (.inr (.inl 135))] ∧ (gInv zgt (zup (zup s3 0 8 (135 : Int)) 0 9 (135 : Int)) ∧ (∀ (s5 : zS), gInv zgt s5 → aFr zb_135.2.1 (zup (zup s3 0 8 (135 : Int)) 0 9 (135 : Int)) s5 → (aTs zb_f.1 [.inr (.inr (.inl 10))] ∧ (gInv zgt s5 ∧ (∀ (s6 : zS), gInv zgt s6 → aFr zb_f.2.1 s5 s6 → (aTs zb_c.1 [.inr (.inr (.inl 115))] ∧ (gInv zgt s6 ∧ (∀ (s7 : zS), gInv zgt s7 → aFr zb_c.2.1 s6 s7 → K (rx_find rx_m140 99) [(2, .inr (.inr (.inl 135))), (1, .inl r1), (0, .inr (.inr (.inl 0)))] [.inr (.inr (.inl (s7 0 8).toNat))] s7)))))))))
  refine ⟨⟨rfl, rfl, True.intro⟩, gInv_up (gInv_up g3 ⟨(.ofNat 135, .ofNat 135), List.mem_cons_of_mem _ List.mem_cons_self, by decide, by decide⟩) ⟨(.ofNat 135, .ofNat 135), List.mem_cons_of_mem _ List.mem_cons_self, by decide, by decide⟩, fun s5 g5 f5 => ⟨⟨rfl, True.intro⟩, g5, fun s6 g6 f6 => ⟨⟨rfl, True.intro⟩, g6, fun s7 g7 f7 => ?_⟩⟩⟩
  have h78 : s7 0 8 = 135 := (f7 0 8 rfl rfl).trans ((f6 0 8 rfl rfl).trans (f5 0 8 rfl rfl))
  rw [h78]
  refine yr1_ok (Rt := Q) (wc := zno) (stp := []) zno_m hcl [] 10 ?_
  show Q (some (.inl (s7 135 0))) s7
  exact hQ _ s7 ⟨g7, zJ_fr rfl f7 (zJ_fr rfl f6 (zJ_fr rfl f5 (zJ_up rfl (zJ_up rfl j3))))⟩ ((f7 1 1 rfl rfl).trans ((f6 1 1 rfl rfl).trans ((f5 1 1 rfl rfl).trans z3))) ((f7 170 1 rfl rfl).trans ((f6 170 1 rfl rfl).trans ((f5 170 1 rfl rfl).trans k3)))
theorem s_town2 (hTb : aTb zSh rx_tb cl) {D : Nat} (hD : 131 ≤ D) {st : zS} {Q : zQ} (hI : zI st) (hQ : ∀ (r : Int) (s1 : zS), zI s1 → s1 1 1 = 0 → s1 170 1 = st 170 1 → Q (some (.inl r)) s1) : cl D 140 [.inr (.inr (.inl 0))] st Q := by
  obtain ⟨d, rfl⟩ : ∃ d, D = d + 1 := ⟨D - 1, by omega⟩
  refine hTb d 140 (rx_m140, 3, 0, 0, 1) rfl _ _ _ (Nat.le_of_ble_eq_true rfl) (fun K hcl hsf hsl => ?_)
  have g8 : st 0 8 = 122 ∨ st 0 8 = 135 := by
    obtain ⟨b, hb, hz⟩ := (show ∃ b ∈ ([(Int.ofNat 122, Int.ofNat 122), (Int.ofNat 135, Int.ofNat 135)] : List aB), b.1 ≤ st 0 8 ∧ st 0 8 ≤ b.2 from hI.1 0 8)
    rcases List.mem_cons.mp hb with rfl | hb
    · exact Or.inl (by have h1 : (122 : Int) ≤ st 0 8 := hz.1; have h2 : st 0 8 ≤ (122 : Int) := hz.2; omega)
    · rcases List.mem_singleton.mp hb with rfl
      exact Or.inr (by have h1 : (135 : Int) ≤ st 0 8 := hz.1; have h2 : st 0 8 ≤ (135 : Int) := hz.2; omega)
  have g9 : st 0 9 = 122 ∨ st 0 9 = 135 := by
    obtain ⟨b, hb, hz⟩ := (show ∃ b ∈ ([(Int.ofNat 122, Int.ofNat 122), (Int.ofNat 135, Int.ofNat 135)] : List aB), b.1 ≤ st 0 9 ∧ st 0 9 ≤ b.2 from hI.1 0 9)
    rcases List.mem_cons.mp hb with rfl | hb
    · exact Or.inl (by have h1 : (122 : Int) ≤ st 0 9 := hz.1; have h2 : st 0 9 ≤ (122 : Int) := hz.2; omega)
    · rcases List.mem_singleton.mp hb with rfl
      exact Or.inr (by have h1 : (135 : Int) ≤ st 0 9 := hz.1; have h2 : st 0 9 ≤ (135 : Int) := hz.2; omega)
  rcases g8 with g8 | g8
  · rcases g9 with g9 | g9
    · exact ctw_122_122 hTb (by omega) hcl hI g8 g9 hQ
    · exact ctw_122_135 hTb (by omega) hcl hI g8 g9 hQ
  · rcases g9 with g9 | g9
    · exact ctw_135_122 hTb (by omega) hcl hI g8 g9 hQ
    · exact ctw_135_135 hTb (by omega) hcl hI g8 g9 hQ
end R7p
