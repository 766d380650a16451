/-! printed by wip/p32/lib8.py: steps told, sums read, statements -/
def m_statement : aM := ([(170, 3), (170, 4), (170, 5), (170, 6), (170, 7), (170, 8), (170, 9), (170, 12), (170, 34), (170, 36), (170, 42), (170, 43), (170, 45), (170, 46)], [172, 173, 174, 175, 176, 177, 178, 179, 180, 181, 182, 183, 184, 185, 186, 187, 188, 189, 190, 191, 192, 193, 194, 195, 196, 197])
def rq_statement  (st : zS) : Prop := gInv zgt st ∧ (st 170 4 ≤ st 170 5 ∧ st 170 5 ≤ st 170 2 ∧ (st 170 3 = 0 ∧ st 170 4 = st 170 2 ∨ 1 ≤ st 170 3 ∧ st 170 4 < st 170 5)) ∧ (TS st) ∧ (st 170 8 = 0 ∧ st 170 34 ≤ st 170 4 ∧ 1 ≤ st 170 3) ∧ (st 170 35 = 1 - st 170 13)
def en_statement  (st : zS) (s1 : zS) : Prop := gInv zgt s1 ∧ aFr m_statement st s1 ∧ (s1 170 4 ≤ s1 170 5 ∧ s1 170 5 ≤ s1 170 2 ∧ (s1 170 3 = 0 ∧ s1 170 4 = s1 170 2 ∨ 1 ≤ s1 170 3 ∧ s1 170 4 < s1 170 5) ∧ st 170 4 ≤ s1 170 4) ∧ (jR st s1) ∧ (s1 170 8 = 0 → TS s1 ∧ s1 170 34 ≤ s1 170 4)
def ct_statement  (st : zS) (Q : zQ) : Prop := rq_statement  st ∧ (∀ (s1 : zS), en_statement  st s1 → Q none s1)
theorem ct_statement_m {st : zS} {Q Q' : zQ} (hQ : ∀ r st', Q r st' → Q' r st') (h : ct_statement  st Q) : ct_statement  st Q' := ⟨h.1, fun x0 x1 => hQ _ _ (h.2 x0 x1)⟩
def k_statement : zCall := fun _ as st Q => match as with
  | [.inr (.inr (.inl z_o))] => z_o = 170 ∧ ct_statement  st Q
  | _ => False
theorem k_statement_mon : zmon k_statement := by
  intro nu as st Q Q' hQ h
  unfold k_statement at h ⊢
  split at h
  · exact ⟨h.1, ct_statement_m hQ h.2⟩
  · exact h.elim
def m_finishes : aM := ([(170, 3), (170, 4), (170, 5), (170, 6), (170, 7), (170, 8), (170, 9), (170, 12)], [])
def rq_finishes (n : Int) (st : zS) : Prop := gInv zgt st ∧ (st 170 4 ≤ st 170 5 ∧ st 170 5 ≤ st 170 2 ∧ (st 170 3 = 0 ∧ st 170 4 = st 170 2 ∨ 1 ≤ st 170 3 ∧ st 170 4 < st 170 5))
def en_finishes (n : Int) (st : zS) (s1 : zS) : Prop := gInv zgt s1 ∧ aFr m_finishes st s1 ∧ (s1 170 4 ≤ s1 170 5 ∧ s1 170 5 ≤ s1 170 2 ∧ (s1 170 3 = 0 ∧ s1 170 4 = s1 170 2 ∨ 1 ≤ s1 170 3 ∧ s1 170 4 < s1 170 5) ∧ st 170 4 ≤ s1 170 4 ∧ (s1 170 8 = 0 → st 170 8 = 0 ∧ st 170 5 ≤ s1 170 4 ∧ 1 ≤ st 170 3))
def ct_finishes (n : Int) (st : zS) (Q : zQ) : Prop := rq_finishes n st ∧ (∀ (s1 : zS), en_finishes n st s1 → Q none s1)
theorem ct_finishes_m {n : Int} {st : zS} {Q Q' : zQ} (hQ : ∀ r st', Q r st' → Q' r st') (h : ct_finishes n st Q) : ct_finishes n st Q' := ⟨h.1, fun x0 x1 => hQ _ _ (h.2 x0 x1)⟩
def k_finishes : zCall := fun _ as st Q => match as with
  | [.inr (.inr (.inl z_o)), .inl n] => z_o = 170 ∧ ct_finishes n st Q
  | _ => False
theorem k_finishes_mon : zmon k_finishes := by
  intro nu as st Q Q' hQ h
  unfold k_finishes at h ⊢
  split at h
  · exact ⟨h.1, ct_finishes_m hQ h.2⟩
  · exact h.elim
theorem rmask_f {c i : Nat} (h : ¬ c = 188) (hj : jcell c i = true) : amf m_reads c i = false := by
  cases e : amf m_reads c i with
  | false => rfl
  | true =>
    have h1 := aall_o2 (show aall (fun q => !jcell q.1 q.2) m_reads.1 = true from rfl) _ (amf_ok.mp e)
    change (!jcell c i) = true at h1
    rw [hj] at h1
    cases h1
theorem rmask_a {c i : Nat} (h : ¬ c = 188) (hj : jcell c i = true) : ama m_reads c = false := by
  cases e : ama m_reads c with
  | false => rfl
  | true =>
    have h1 := aall_o2 (show aall (fun q => Nat.beq q 188 || !(Nat.beq q 170 || jcell q 0)) m_reads.2 = true from rfl) _ (ama_ok.mp e)
    change (Nat.beq c 188 || !(Nat.beq c 170 || jcell c 0)) = true at h1
    rw [(rx_bnf c 188).mpr h] at h1
    by_cases e2 : c = 170
    · rw [e2] at h1; cases h1
    · rw [jcell_arr e2] at hj
      rw [hj, (rx_bnf c 170).mpr e2] at h1
      cases h1
section R6g
variable {cl : Nat → zCall}
set_option maxHeartbeats 40000000 in
set_option maxRecDepth 100000 in
theorem c_stepping (hTb : aTb zSh rx_tb cl) {D : Nat} (hD : 4 ≤ D) {st : zS} {Q : zQ} (h : ct_stepping  st Q) : cl D 206 [.inr (.inr (.inl 170))] st Q := by
  obtain ⟨d, rfl⟩ : ∃ d, D = d + 1 := ⟨D - 1, by omega⟩
  refine hTb d 206 (rx_m206, 4, 0, 0, 0) rfl _ _ _ (Nat.le_of_ble_eq_true rfl) (fun K hcl hsf hsl => ?_)
  have hcm : zmo (wcL [(199, k_counts), (0, k_between), (203, k_knownBut), (200, k_mustJ), (188, k_number)]) (cl d) := (wcL_m (wm_cons (k_counts_m hTb (by omega)) (wm_cons (k_between_m hTb (by omega)) (wm_cons (k_knownBut_m hTb (by omega)) (wm_cons (k_mustJ_m hTb (by omega)) (wm_cons (k_number_m hTb (by omega)) wm_nil))))))
  obtain ⟨hR, hQ⟩ := h
  obtain ⟨hG, lx, ts, q, bk⟩ := hR
  change st 170 4 ≤ st 170 5 ∧ st 170 5 ≤ st 170 2 ∧ (st 170 3 = 0 ∧ st 170 4 = st 170 2 ∨ 1 ≤ st 170 3 ∧ st 170 4 < st 170 5) at lx
  change TS st at ts
  change st 170 8 = 0 ∧ st 170 34 ≤ st 170 4 ∧ 1 ≤ st 170 3 at q
  change st 170 35 = 1 - st 170 13 at bk
  have m114 : ∀ (k : Int) (s_m114 : zS), gInv zgt s_m114 ∧ aFr m_stepping st s_m114 ∧ (s_m114 170 4 ≤ s_m114 170 5 ∧ s_m114 170 5 ≤ s_m114 170 2 ∧ (s_m114 170 3 = 0 ∧ s_m114 170 4 = s_m114 170 2 ∨ 1 ≤ s_m114 170 3 ∧ s_m114 170 4 < s_m114 170 5)) ∧ (st 170 4 ≤ s_m114 170 4) ∧ (TS s_m114) ∧ (jR st s_m114) ∧ (k = 20 * s_m114 170 35 + s_m114 178 (s_m114 170 35 : Int).toNat ∧ s_m114 170 35 = st 170 35 ∧ s_m114 170 13 = st 170 13 ∧ s_m114 178 (s_m114 170 35 : Int).toNat < 20 ∧ s_m114 170 34 = st 170 34 ∧ (s_m114 170 8 = 0 → s_m114 170 34 ≤ s_m114 170 4)) ∧ (s_m114 170 8 = 0 → HS s_m114) → K (rx_find rx_m206 114) [(1, .inl k), (0, .inr (.inr (.inl 170)))] [] s_m114 := by
    intro k s_m114 hi
    obtain ⟨gI_m114, fI_m114, lx_m114, p_m114, ts_m114, R_m114, d_m114, h_m114⟩ := hi
    have g1 := g_signAt gI_m114
    have g2 := g_signEnd gI_m114
    have g4 := g_size hG
    have e3 : s_m114 170 2 = st 170 2 := fI_m114 170 2 rfl rfl
    have g5 := g_sign gI_m114
    have g6 := g_signAt hG
    have g8 := g_in hG
    have e7 : s_m114 170 35 = st 170 35 := fI_m114 170 35 rfl rfl
    have g9 := g_steps gI_m114 (s_m114 170 35 : Int).toNat
    have e10 : s_m114 178 (s_m114 170 35 : Int).toNat = s_m114 178 (st 170 35 : Int).toNat := by rw [e7]
    have g11 := g_steps gI_m114 (st 170 35 : Int).toNat
    have g13 := g_bank hG
    have e12 : s_m114 170 13 = st 170 13 := fI_m114 170 13 rfl rfl
    have g14 := g_codes gI_m114
    have g15 := g_codes hG
    have g16 := g_faultKind gI_m114
    refine yr1_ok (Rt := Q) (wc := (wcL [(199, k_counts), (0, k_between), (203, k_knownBut), (200, k_mustJ), (188, k_number)])) (stp := [114]) hcm hcl [] 111 ?_
    show (170 = 170 ∧ (rq_mustJ (6713202) s_m114 ∧ (∀ (s17 : zS), en_mustJ (6713202) s_m114 s17 → (170 = 170 ∧ (rq_number (0) (30) s17 ∧ (∀ (r18 : Int) (s18 : zS), en_number (0) (30) s17 r18 s18 → ((0 ≤ k ∧ k < 40) ∧ ((¬ s18 170 8 = (0 : Int) → Q none (zup s18 180 (k : Int).toNat r18)) ∧ (¬ (¬ s18 170 8 = (0 : Int)) → ((0 ≤ s18 170 35 ∧ s18 170 35 < 2) ∧ ((-2147483648 ≤ (s18 178 (s18 170 35 : Int).toNat) + 1 ∧ (s18 178 (s18 170 35 : Int).toNat) + 1 ≤ 2147483647) ∧ ((0 ≤ s18 170 35 ∧ s18 170 35 < 2) ∧ Q none (zup (zup s18 180 (k : Int).toNat r18) 178 (s18 170 35 : Int).toNat ((s18 178 (s18 170 35 : Int).toNat) + 1))))))))))))))
    refine ⟨rfl, ⟨gI_m114, (show s_m114 170 4 ≤ s_m114 170 5 ∧ s_m114 170 5 ≤ s_m114 170 2 ∧ (s_m114 170 3 = 0 ∧ s_m114 170 4 = s_m114 170 2 ∨ 1 ≤ s_m114 170 3 ∧ s_m114 170 4 < s_m114 170 5) from by omega)⟩, fun s17 q17 => ?_⟩
    obtain ⟨gs17, fs17, p17⟩ := q17
    change s17 170 4 ≤ s17 170 5 ∧ s17 170 5 ≤ s17 170 2 ∧ (s17 170 3 = 0 ∧ s17 170 4 = s17 170 2 ∨ 1 ≤ s17 170 3 ∧ s17 170 4 < s17 170 5) ∧ s_m114 170 4 ≤ s17 170 4 ∧ (s17 170 8 = 0 → s_m114 170 8 = 0 ∧ s_m114 170 5 ≤ s17 170 4 ∧ 1 ≤ s_m114 170 3) at p17
    have g19 := g_signAt gs17
    have g20 := g_signEnd gs17
    have e21 : s17 170 2 = s_m114 170 2 := fs17 170 2 rfl rfl
    have g22 := g_sign gs17
    have g23 := g_faultKind gs17
    refine ⟨rfl, ⟨gs17, (show s17 170 4 ≤ s17 170 5 ∧ s17 170 5 ≤ s17 170 2 ∧ (s17 170 3 = 0 ∧ s17 170 4 = s17 170 2 ∨ 1 ≤ s17 170 3 ∧ s17 170 4 < s17 170 5) from by omega)⟩, fun r18 s18 q18 => ?_⟩
    obtain ⟨gs18, fs18, p18, v18⟩ := q18
    change s18 170 4 ≤ s18 170 5 ∧ s18 170 5 ≤ s18 170 2 ∧ (s18 170 3 = 0 ∧ s18 170 4 = s18 170 2 ∨ 1 ≤ s18 170 3 ∧ s18 170 4 < s18 170 5) ∧ s17 170 4 ≤ s18 170 4 ∧ (s18 170 8 = 0 → s17 170 8 = 0 ∧ s17 170 5 ≤ s18 170 4 ∧ 1 ≤ s17 170 3) at p18
    have g24 := g_signAt gs18
    have g25 := g_signEnd gs18
    have e26 : s18 170 2 = s17 170 2 := fs18 170 2 rfl rfl
    have g27 := g_sign gs18
    have g28 := g_faultKind gs18
    change -2147483648 ≤ r18 ∧ r18 ≤ 2147483647 ∧ (s18 170 8 = 0 → (0) ≤ r18 ∧ r18 ≤ (30)) at v18
    refine ⟨by omega, ?_⟩
    refine ⟨fun h29 => ?_, fun h29 => ?_⟩
    · have e31 : s17 170 34 = s_m114 170 34 := fs17 170 34 rfl rfl
      have e30 : s18 170 34 = s17 170 34 := fs18 170 34 rfl rfl
      exact hQ _ ⟨(gInv_up gs18 (p_minutesTold (by omega))), (fr_a (fr_tr (fr_tr fI_m114 fs17 rfl) fs18 rfl) rfl), (show s18 170 4 ≤ s18 170 5 ∧ s18 170 5 ≤ s18 170 2 ∧ (s18 170 3 = 0 ∧ s18 170 4 = s18 170 2 ∨ 1 ≤ s18 170 3 ∧ s18 170 4 < s18 170 5) ∧ st 170 4 ≤ s18 170 4 from by omega), (show jR st (zup s18 180 (k : Int).toNat r18) from (jR_up (jR_tr (s1 := s17) (jR_tr (s1 := s_m114) R_m114 (jR_fr rfl fs17)) (jR_fr rfl fs18)) (by unfold jrel; omega))), (show s18 170 8 = 0 → TS (zup s18 180 (k : Int).toNat r18) ∧ s18 170 34 ≤ s18 170 4 from fun z => absurd z (by omega))⟩
    · have e33 : s17 170 35 = s_m114 170 35 := fs17 170 35 rfl rfl
      have e32 : s18 170 35 = s17 170 35 := fs18 170 35 rfl rfl
      have e35 : s17 178 (st 170 35 : Int).toNat = s_m114 178 (st 170 35 : Int).toNat := fs17 178 (st 170 35 : Int).toNat rfl rfl
      have e34 : s18 178 (s18 170 35 : Int).toNat = s17 178 (st 170 35 : Int).toNat := (fs18 178 (s18 170 35 : Int).toNat rfl rfl).trans (by rw [e32, e33, e7] <;> rfl)
      refine ⟨by omega, ?_⟩
      refine ⟨by omega, ?_⟩
      refine ⟨by omega, ?_⟩
      have e37 : s17 170 34 = s_m114 170 34 := fs17 170 34 rfl rfl
      have e36 : s18 170 34 = s17 170 34 := fs18 170 34 rfl rfl
      exact hQ _ ⟨(gInv_up (gInv_up gs18 (p_minutesTold (by omega))) (p_steps (by omega))), (fr_a (fr_a (fr_tr (fr_tr fI_m114 fs17 rfl) fs18 rfl) rfl) rfl), (show s18 170 4 ≤ s18 170 5 ∧ s18 170 5 ≤ s18 170 2 ∧ (s18 170 3 = 0 ∧ s18 170 4 = s18 170 2 ∨ 1 ≤ s18 170 3 ∧ s18 170 4 < s18 170 5) ∧ st 170 4 ≤ s18 170 4 from by omega), (show jR st (zup (zup s18 180 (k : Int).toNat r18) 178 (s18 170 35 : Int).toNat ((s18 178 (s18 170 35 : Int).toNat) + 1)) from (jR_up (jR_up (jR_tr (s1 := s17) (jR_tr (s1 := s_m114) R_m114 (jR_fr rfl fs17)) (jR_fr rfl fs18)) (by unfold jrel; omega)) (by unfold jrel; omega))), (show s18 170 8 = 0 → TS (zup (zup s18 180 (k : Int).toNat r18) 178 (s18 170 35 : Int).toNat ((s18 178 (s18 170 35 : Int).toNat) + 1)) ∧ s18 170 34 ≤ s18 170 4 from fun z => ⟨TS_sp (TS_up rfl (TS_fr rfl fs18 (TS_fr rfl fs17 ts_m114))) (show HS s18 from (HS_fr rfl fs18 (HS_fr rfl fs17 (h_m114 (by omega))))) rfl, by omega⟩)⟩
  have m103 : ∀ (bt : Int) (k : Int) (s_m103 : zS), gInv zgt s_m103 ∧ aFr m_stepping st s_m103 ∧ (s_m103 170 4 ≤ s_m103 170 5 ∧ s_m103 170 5 ≤ s_m103 170 2 ∧ (s_m103 170 3 = 0 ∧ s_m103 170 4 = s_m103 170 2 ∨ 1 ≤ s_m103 170 3 ∧ s_m103 170 4 < s_m103 170 5)) ∧ (st 170 4 ≤ s_m103 170 4) ∧ (TS s_m103) ∧ (jR st s_m103) ∧ (k = 20 * s_m103 170 35 + s_m103 178 (s_m103 170 35 : Int).toNat ∧ s_m103 170 35 = st 170 35 ∧ s_m103 170 13 = st 170 13 ∧ s_m103 178 (s_m103 170 35 : Int).toNat < 20 ∧ s_m103 170 34 = st 170 34 ∧ (s_m103 170 8 = 0 → s_m103 170 34 ≤ s_m103 170 4)) ∧ (0 ≤ bt ∧ bt < 256) ∧ (∀ j : Int, 0 ≤ j → j < 8 → 0 < s_m103 178 (s_m103 170 35 : Int).toNat → s_m103 177 (64 * s_m103 170 35 + 8 * s_m103 179 (20 * s_m103 170 35 + s_m103 178 (s_m103 170 35 : Int).toNat - 1 : Int).toNat + j : Int).toNat = 0 → hb bt j = 1) → K (rx_find rx_m206 103) [(2, .inl bt), (1, .inl k), (0, .inr (.inr (.inl 170)))] [] s_m103 := by
    intro bt k s_m103 hi
    obtain ⟨gI_m103, fI_m103, lx_m103, p_m103, ts_m103, R_m103, d_m103, b_m103, bb_m103⟩ := hi
    have g38 := g_signAt gI_m103
    have g39 := g_signEnd gI_m103
    have g41 := g_size hG
    have e40 : s_m103 170 2 = st 170 2 := fI_m103 170 2 rfl rfl
    have g42 := g_sign gI_m103
    have g43 := g_signAt hG
    have g45 := g_in hG
    have e44 : s_m103 170 35 = st 170 35 := fI_m103 170 35 rfl rfl
    have g46 := g_steps gI_m103 (s_m103 170 35 : Int).toNat
    have e47 : s_m103 178 (s_m103 170 35 : Int).toNat = s_m103 178 (st 170 35 : Int).toNat := by rw [e44]
    have g48 := g_steps gI_m103 (st 170 35 : Int).toNat
    have g50 := g_bank hG
    have e49 : s_m103 170 13 = st 170 13 := fI_m103 170 13 rfl rfl
    have g51 := g_codes gI_m103
    have g52 := g_codes hG
    have g53 := g_faultKind gI_m103
    have g54 := g_stepTold gI_m103 (20 * s_m103 170 35 + s_m103 178 (s_m103 170 35 : Int).toNat - 1 : Int).toNat
    have e55 : s_m103 179 (20 * s_m103 170 35 + s_m103 178 (s_m103 170 35 : Int).toNat - 1 : Int).toNat = s_m103 179 (20 * st 170 35 + s_m103 178 (st 170 35 : Int).toNat - 1 : Int).toNat := by rw [e44]
    have g56 := g_stepTold gI_m103 (20 * st 170 35 + s_m103 178 (st 170 35 : Int).toNat - 1 : Int).toNat
    refine yr1_ok (Rt := Q) (wc := (wcL [(199, k_counts), (0, k_between), (203, k_knownBut), (200, k_mustJ), (188, k_number)])) (stp := [103, 114]) hcm hcl [] 111 ?_
    show (170 = 170 ∧ (rq_knownBut bt s_m103 ∧ (∀ (r57 : Int) (s57 : zS), en_knownBut bt s_m103 r57 s57 → ((0 ≤ k ∧ k < 40) ∧ K (rx_find rx_m206 114) [(2, .inl bt), (1, .inl k), (0, .inr (.inr (.inl 170)))] [] (zup s57 179 (k : Int).toNat r57)))))
    refine ⟨rfl, ⟨gI_m103, (show s_m103 170 4 ≤ s_m103 170 5 ∧ s_m103 170 5 ≤ s_m103 170 2 ∧ (s_m103 170 3 = 0 ∧ s_m103 170 4 = s_m103 170 2 ∨ 1 ≤ s_m103 170 3 ∧ s_m103 170 4 < s_m103 170 5) from by omega)⟩, fun r57 s57 q57 => ?_⟩
    obtain ⟨gs57, fs57, p57, v57⟩ := q57
    change s57 170 4 ≤ s57 170 5 ∧ s57 170 5 ≤ s57 170 2 ∧ (s57 170 3 = 0 ∧ s57 170 4 = s57 170 2 ∨ 1 ≤ s57 170 3 ∧ s57 170 4 < s57 170 5) ∧ s_m103 170 4 ≤ s57 170 4 ∧ (s57 170 8 = 0 → s_m103 170 8 = 0 ∧ s_m103 170 5 ≤ s57 170 4 ∧ 1 ≤ s_m103 170 3) at p57
    have g58 := g_signAt gs57
    have g59 := g_signEnd gs57
    have e60 : s57 170 2 = s_m103 170 2 := fs57 170 2 rfl rfl
    have g61 := g_sign gs57
    have g62 := g_faultKind gs57
    change 0 ≤ r57 ∧ r57 ≤ 7 ∧ (s57 170 8 = 0 → r57 < s57 172 (s57 170 35 : Int).toNat ∧ hb bt r57 = 0) at v57
    have e63 : s57 170 35 = s_m103 170 35 := fs57 170 35 rfl rfl
    have g65 := g_places gI_m103 (st 170 35 : Int).toNat
    have e64 : s57 172 (s57 170 35 : Int).toNat = s_m103 172 (st 170 35 : Int).toNat := (fs57 172 (s57 170 35 : Int).toNat rfl rfl).trans (by rw [e63, e44] <;> rfl)
    refine ⟨by omega, ?_⟩
    have e66 : s57 178 (s57 170 35 : Int).toNat = s_m103 178 (st 170 35 : Int).toNat := (fs57 178 (s57 170 35 : Int).toNat rfl rfl).trans (by rw [e63, e44] <;> rfl)
    have e67 : s57 170 13 = s_m103 170 13 := fs57 170 13 rfl rfl
    have e68 : s57 170 34 = s_m103 170 34 := fs57 170 34 rfl rfl
    exact hsl _ _ _ _ _ (sb_cons (.tail _ (.head _)) (sb_cons (.tail _ (.tail _ (.head _))) sb_nil)) (m114 k (zup s57 179 (k : Int).toNat r57) ⟨(gInv_up gs57 (p_stepTold (by omega))), (fr_a (fr_tr fI_m103 fs57 rfl) rfl), (show s57 170 4 ≤ s57 170 5 ∧ s57 170 5 ≤ s57 170 2 ∧ (s57 170 3 = 0 ∧ s57 170 4 = s57 170 2 ∨ 1 ≤ s57 170 3 ∧ s57 170 4 < s57 170 5) from by omega), (show st 170 4 ≤ s57 170 4 from by omega), (show TS (zup s57 179 (k : Int).toNat r57) from (TS_tw (TS_fr rfl fs57 ts_m103) (by omega) (by omega))), (show jR st (zup s57 179 (k : Int).toNat r57) from (jR_up (jR_tr (s1 := s_m103) R_m103 (jR_fr rfl fs57)) (by unfold jrel; omega))), (show k = 20 * s57 170 35 + s57 178 (s57 170 35 : Int).toNat ∧ s57 170 35 = st 170 35 ∧ s57 170 13 = st 170 13 ∧ s57 178 (s57 170 35 : Int).toNat < 20 ∧ s57 170 34 = st 170 34 ∧ (s57 170 8 = 0 → s57 170 34 ≤ s57 170 4) from by omega), (show s57 170 8 = 0 → HS (zup s57 179 (k : Int).toNat r57) from fun z => HS_tw (by omega) (by omega) (fun z1 => by
          have z2 := v57.2.2 z
          have z3 := bb_m103 r57 (by omega) (by omega)
          have z4 : s57 177 (64 * s57 170 35 + 8 * s57 179 (20 * s57 170 35 + s57 178 (s57 170 35 : Int).toNat - 1 : Int).toNat + r57 : Int).toNat = s_m103 177 (64 * s_m103 170 35 + 8 * s_m103 179 (20 * s_m103 170 35 + s_m103 178 (s_m103 170 35 : Int).toNat - 1 : Int).toNat + r57 : Int).toNat := by
            rw [fs57 177 _ rfl rfl, fs57 179 _ rfl rfl, fs57 178 _ rfl rfl, fs57 170 35 rfl rfl]
          have z5 := g_streetAt gI_m103 (64 * s_m103 170 35 + 8 * s_m103 179 (20 * s_m103 170 35 + s_m103 178 (s_m103 170 35 : Int).toNat - 1 : Int).toNat + r57 : Int).toNat
          rw [z4]
          omega))⟩)
  have lp : ∀ (u : Nat) (c : Int) (bt : Int) (k : Int) (s_lp : zS), gInv zgt s_lp ∧ aFr m_stepping st s_lp ∧ (s_lp 170 4 ≤ s_lp 170 5 ∧ s_lp 170 5 ≤ s_lp 170 2 ∧ (s_lp 170 3 = 0 ∧ s_lp 170 4 = s_lp 170 2 ∨ 1 ≤ s_lp 170 3 ∧ s_lp 170 4 < s_lp 170 5)) ∧ (st 170 4 ≤ s_lp 170 4) ∧ (TS s_lp) ∧ (jR st s_lp) ∧ (k = 20 * s_lp 170 35 + s_lp 178 (s_lp 170 35 : Int).toNat ∧ s_lp 170 35 = st 170 35 ∧ s_lp 170 13 = st 170 13 ∧ s_lp 178 (s_lp 170 35 : Int).toNat < 20 ∧ s_lp 170 34 = st 170 34 ∧ (s_lp 170 8 = 0 → s_lp 170 34 ≤ s_lp 170 4)) ∧ (0 ≤ bt ∧ bt < 256) ∧ (∀ j : Int, 0 ≤ j → j < c → 0 < s_lp 178 (s_lp 170 35 : Int).toNat → s_lp 177 (64 * s_lp 170 35 + 8 * s_lp 179 (20 * s_lp 170 35 + s_lp 178 (s_lp 170 35 : Int).toNat - 1 : Int).toNat + j : Int).toNat = 0 → hb bt j = 1) ∧ (0 ≤ c ∧ c ≤ 8) → (8 - c).toNat = u → K (rx_find rx_m206 49) [(3, .inl c), (2, .inl bt), (1, .inl k), (0, .inr (.inr (.inl 170)))] [] s_lp := by
    intro u
    induction u using Nat.strongRecOn with
    | _ u ih =>
      intro c bt k s_lp hi hu
      obtain ⟨gI_lp, fI_lp, lx_lp, p_lp, ts_lp, R_lp, d_lp, b_lp, bb_lp, i_lp⟩ := hi
      have g69 := g_signAt gI_lp
      have g70 := g_signEnd gI_lp
      have g72 := g_size hG
      have e71 : s_lp 170 2 = st 170 2 := fI_lp 170 2 rfl rfl
      have g73 := g_sign gI_lp
      have g74 := g_signAt hG
      have g76 := g_in hG
      have e75 : s_lp 170 35 = st 170 35 := fI_lp 170 35 rfl rfl
      have g77 := g_steps gI_lp (s_lp 170 35 : Int).toNat
      have e78 : s_lp 178 (s_lp 170 35 : Int).toNat = s_lp 178 (st 170 35 : Int).toNat := by rw [e75]
      have g79 := g_steps gI_lp (st 170 35 : Int).toNat
      have g81 := g_bank hG
      have e80 : s_lp 170 13 = st 170 13 := fI_lp 170 13 rfl rfl
      have g82 := g_codes gI_lp
      have g83 := g_codes hG
      have g84 := g_faultKind gI_lp
      have g85 := g_stepTold gI_lp (20 * s_lp 170 35 + s_lp 178 (s_lp 170 35 : Int).toNat - 1 : Int).toNat
      have e86 : s_lp 179 (20 * s_lp 170 35 + s_lp 178 (s_lp 170 35 : Int).toNat - 1 : Int).toNat = s_lp 179 (20 * st 170 35 + s_lp 178 (st 170 35 : Int).toNat - 1 : Int).toNat := by rw [e75]
      have g87 := g_stepTold gI_lp (20 * st 170 35 + s_lp 178 (st 170 35 : Int).toNat - 1 : Int).toNat
      refine yr1_ok (Rt := Q) (wc := (wcL [(199, k_counts), (0, k_between), (203, k_knownBut), (200, k_mustJ), (188, k_number)])) (stp := [49, 103, 114]) hcm hcl [] 111 ?_
      show (((8 : Int) ≤ c → K (rx_find rx_m206 103) [(3, .inl c), (2, .inl bt), (1, .inl k), (0, .inr (.inr (.inl 170)))] [] s_lp) ∧ (¬ ((8 : Int) ≤ c) → ((0 ≤ s_lp 170 35 ∧ s_lp 170 35 < 2) ∧ ((s_lp 178 (s_lp 170 35 : Int).toNat ≤ (0 : Int) → ((-2147483648 ≤ c + 1 ∧ c + 1 ≤ 2147483647) ∧ K (rx_find rx_m206 49) [(3, .inl (c + 1)), (2, .inl (zd (Nat.lor (zi bt) (zi 0)))), (1, .inl k), (0, .inr (.inr (.inl 170)))] [] s_lp)) ∧ (¬ (s_lp 178 (s_lp 170 35 : Int).toNat ≤ (0 : Int)) → ((-2147483648 ≤ k - 1 ∧ k - 1 ≤ 2147483647) ∧ ((0 ≤ k - 1 ∧ k - 1 < 40) ∧ (170 = 170 ∧ (rq_between (s_lp 170 35) (s_lp 179 (k - 1 : Int).toNat) c s_lp ∧ (∀ (r88 : Int), en_between (s_lp 170 35) (s_lp 179 (k - 1 : Int).toNat) c s_lp r88 → ((¬ r88 = (0 : Int) → ((-2147483648 ≤ c + 1 ∧ c + 1 ≤ 2147483647) ∧ K (rx_find rx_m206 49) [(3, .inl (c + 1)), (2, .inl (zd (Nat.lor (zi bt) (zi 0)))), (1, .inl k), (0, .inr (.inr (.inl 170)))] [] s_lp)) ∧ (¬ (¬ r88 = (0 : Int)) → ((-2147483648 ≤ c + 1 ∧ c + 1 ≤ 2147483647) ∧ K (rx_find rx_m206 49) [(3, .inl (c + 1)), (2, .inl (zd (Nat.lor (zi bt) (zi (zd ((zi 1 * 2 ^ (zi c % 32)) % 4294967296)))))), (1, .inl k), (0, .inr (.inr (.inl 170)))] [] s_lp)))))))))))))
      refine ⟨fun h89 => ?_, fun h89 => ?_⟩
      · exact hsl _ _ _ _ _ (sb_cons (.tail _ (.head _)) (sb_cons (.tail _ (.tail _ (.head _))) (sb_cons (.tail _ (.tail _ (.tail _ (.head _)))) sb_nil))) (m103 bt k s_lp ⟨gI_lp, fI_lp, (show s_lp 170 4 ≤ s_lp 170 5 ∧ s_lp 170 5 ≤ s_lp 170 2 ∧ (s_lp 170 3 = 0 ∧ s_lp 170 4 = s_lp 170 2 ∨ 1 ≤ s_lp 170 3 ∧ s_lp 170 4 < s_lp 170 5) from by omega), (show st 170 4 ≤ s_lp 170 4 from by omega), (show TS s_lp from ts_lp), (show jR st s_lp from R_lp), (show k = 20 * s_lp 170 35 + s_lp 178 (s_lp 170 35 : Int).toNat ∧ s_lp 170 35 = st 170 35 ∧ s_lp 170 13 = st 170 13 ∧ s_lp 178 (s_lp 170 35 : Int).toNat < 20 ∧ s_lp 170 34 = st 170 34 ∧ (s_lp 170 8 = 0 → s_lp 170 34 ≤ s_lp 170 4) from by omega), (show 0 ≤ bt ∧ bt < 256 from by omega), (show ∀ j : Int, 0 ≤ j → j < 8 → 0 < s_lp 178 (s_lp 170 35 : Int).toNat → s_lp 177 (64 * s_lp 170 35 + 8 * s_lp 179 (20 * s_lp 170 35 + s_lp 178 (s_lp 170 35 : Int).toNat - 1 : Int).toNat + j : Int).toNat = 0 → hb bt j = 1 from fun j z1 z2 => bb_lp j z1 (by omega))⟩)
      · refine ⟨by omega, ?_⟩
        refine ⟨fun h90 => ?_, fun h90 => ?_⟩
        · refine ⟨by omega, ?_⟩
          exact ih _ (show (8 - (c + 1) : Int).toNat < u from by omega) (c + 1) (zd (Nat.lor (zi bt) (zi 0))) k s_lp ⟨gI_lp, fI_lp, (show s_lp 170 4 ≤ s_lp 170 5 ∧ s_lp 170 5 ≤ s_lp 170 2 ∧ (s_lp 170 3 = 0 ∧ s_lp 170 4 = s_lp 170 2 ∨ 1 ≤ s_lp 170 3 ∧ s_lp 170 4 < s_lp 170 5) from by omega), (show st 170 4 ≤ s_lp 170 4 from by omega), (show TS s_lp from ts_lp), (show jR st s_lp from R_lp), (show k = 20 * s_lp 170 35 + s_lp 178 (s_lp 170 35 : Int).toNat ∧ s_lp 170 35 = st 170 35 ∧ s_lp 170 13 = st 170 13 ∧ s_lp 178 (s_lp 170 35 : Int).toNat < 20 ∧ s_lp 170 34 = st 170 34 ∧ (s_lp 170 8 = 0 → s_lp 170 34 ≤ s_lp 170 4) from by omega), (show 0 ≤ (zd (Nat.lor (zi bt) (zi 0))) ∧ (zd (Nat.lor (zi bt) (zi 0))) < 256 from by rw [lor_z (by omega)]; omega), (show ∀ j : Int, 0 ≤ j → j < (c + 1) → 0 < s_lp 178 (s_lp 170 35 : Int).toNat → s_lp 177 (64 * s_lp 170 35 + 8 * s_lp 179 (20 * s_lp 170 35 + s_lp 178 (s_lp 170 35 : Int).toNat - 1 : Int).toNat + j : Int).toNat = 0 → hb (zd (Nat.lor (zi bt) (zi 0))) j = 1 from fun j z1 z2 z3 z4 => by
            rw [lor_z (by omega)]
            by_cases z6 : j = c
            · subst z6; exfalso; have zk : 20 * s_lp 170 35 + s_lp 178 (s_lp 170 35 : Int).toNat = k := by omega
              rw [zk] at z4; omega
            · exact bb_lp j z1 (by omega) z3 z4), (show 0 ≤ (c + 1) ∧ (c + 1) ≤ 8 from by omega)⟩ rfl
        · refine ⟨by omega, ?_⟩
          have g91 := g_stepTold gI_lp (k - 1 : Int).toNat
          refine ⟨by omega, ?_⟩
          refine ⟨rfl, (show 0 ≤ (s_lp 170 35) ∧ (s_lp 170 35) ≤ 1 ∧ 0 ≤ (s_lp 179 (k - 1 : Int).toNat) ∧ (s_lp 179 (k - 1 : Int).toNat) < 8 ∧ 0 ≤ c ∧ c < 8 from by omega), fun r88 q88 => ?_⟩
          have e88 := q88
          change r88 = s_lp 177 (64 * (s_lp 170 35) + 8 * (s_lp 179 (k - 1 : Int).toNat) + c : Int).toNat at e88
          have g92 := g_streetAt gI_lp (64 * (s_lp 170 35) + 8 * (s_lp 179 (k - 1 : Int).toNat) + c : Int).toNat
          have e93 : s_lp 177 (64 * (s_lp 170 35) + 8 * (s_lp 179 (k - 1 : Int).toNat) + c : Int).toNat = s_lp 177 (64 * (st 170 35) + 8 * (s_lp 179 (k - 1 : Int).toNat) + c : Int).toNat := by rw [e75]
          have g94 := g_streetAt gI_lp (64 * (st 170 35) + 8 * (s_lp 179 (k - 1 : Int).toNat) + c : Int).toNat
          refine ⟨fun h95 => ?_, fun h95 => ?_⟩
          · refine ⟨by omega, ?_⟩
            exact ih _ (show (8 - (c + 1) : Int).toNat < u from by omega) (c + 1) (zd (Nat.lor (zi bt) (zi 0))) k s_lp ⟨gI_lp, fI_lp, (show s_lp 170 4 ≤ s_lp 170 5 ∧ s_lp 170 5 ≤ s_lp 170 2 ∧ (s_lp 170 3 = 0 ∧ s_lp 170 4 = s_lp 170 2 ∨ 1 ≤ s_lp 170 3 ∧ s_lp 170 4 < s_lp 170 5) from by omega), (show st 170 4 ≤ s_lp 170 4 from by omega), (show TS s_lp from ts_lp), (show jR st s_lp from R_lp), (show k = 20 * s_lp 170 35 + s_lp 178 (s_lp 170 35 : Int).toNat ∧ s_lp 170 35 = st 170 35 ∧ s_lp 170 13 = st 170 13 ∧ s_lp 178 (s_lp 170 35 : Int).toNat < 20 ∧ s_lp 170 34 = st 170 34 ∧ (s_lp 170 8 = 0 → s_lp 170 34 ≤ s_lp 170 4) from by omega), (show 0 ≤ (zd (Nat.lor (zi bt) (zi 0))) ∧ (zd (Nat.lor (zi bt) (zi 0))) < 256 from by rw [lor_z (by omega)]; omega), (show ∀ j : Int, 0 ≤ j → j < (c + 1) → 0 < s_lp 178 (s_lp 170 35 : Int).toNat → s_lp 177 (64 * s_lp 170 35 + 8 * s_lp 179 (20 * s_lp 170 35 + s_lp 178 (s_lp 170 35 : Int).toNat - 1 : Int).toNat + j : Int).toNat = 0 → hb (zd (Nat.lor (zi bt) (zi 0))) j = 1 from fun j z1 z2 z3 z4 => by
            rw [lor_z (by omega)]
            by_cases z6 : j = c
            · subst z6; exfalso; have zk : 20 * s_lp 170 35 + s_lp 178 (s_lp 170 35 : Int).toNat = k := by omega
              rw [zk] at z4; omega
            · exact bb_lp j z1 (by omega) z3 z4), (show 0 ≤ (c + 1) ∧ (c + 1) ≤ 8 from by omega)⟩ rfl
          · refine ⟨by omega, ?_⟩
            exact ih _ (show (8 - (c + 1) : Int).toNat < u from by omega) (c + 1) (zd (Nat.lor (zi bt) (zi (zd ((zi 1 * 2 ^ (zi c % 32)) % 4294967296))))) k s_lp ⟨gI_lp, fI_lp, (show s_lp 170 4 ≤ s_lp 170 5 ∧ s_lp 170 5 ≤ s_lp 170 2 ∧ (s_lp 170 3 = 0 ∧ s_lp 170 4 = s_lp 170 2 ∨ 1 ≤ s_lp 170 3 ∧ s_lp 170 4 < s_lp 170 5) from by omega), (show st 170 4 ≤ s_lp 170 4 from by omega), (show TS s_lp from ts_lp), (show jR st s_lp from R_lp), (show k = 20 * s_lp 170 35 + s_lp 178 (s_lp 170 35 : Int).toNat ∧ s_lp 170 35 = st 170 35 ∧ s_lp 170 13 = st 170 13 ∧ s_lp 178 (s_lp 170 35 : Int).toNat < 20 ∧ s_lp 170 34 = st 170 34 ∧ (s_lp 170 8 = 0 → s_lp 170 34 ≤ s_lp 170 4) from by omega), (show 0 ≤ (zd (Nat.lor (zi bt) (zi (zd ((zi 1 * 2 ^ (zi c % 32)) % 4294967296))))) ∧ (zd (Nat.lor (zi bt) (zi (zd ((zi 1 * 2 ^ (zi c % 32)) % 4294967296))))) < 256 from (lor_bit (s := bt) (c := c) (j := 0) (by omega) (by omega) (by omega)).1), (show ∀ j : Int, 0 ≤ j → j < (c + 1) → 0 < s_lp 178 (s_lp 170 35 : Int).toNat → s_lp 177 (64 * s_lp 170 35 + 8 * s_lp 179 (20 * s_lp 170 35 + s_lp 178 (s_lp 170 35 : Int).toNat - 1 : Int).toNat + j : Int).toNat = 0 → hb (zd (Nat.lor (zi bt) (zi (zd ((zi 1 * 2 ^ (zi c % 32)) % 4294967296))))) j = 1 from fun j z1 z2 z3 z4 => by
            have z5 := lor_bit (s := bt) (c := c) (j := j) (by omega) (by omega) (by omega)
            by_cases z6 : j = c
            · exact z5.2.1 z6
            · rw [z5.2.2 z6]; exact bb_lp j z1 (by omega) z3 z4), (show 0 ≤ (c + 1) ∧ (c + 1) ≤ 8 from by omega)⟩ rfl
  have m20 : ∀ (x : Int), ((x = 0 ∨ x = 1) ∧ (x = 0 → st 178 (st 170 35 : Int).toNat < 20)) → K (rx_find rx_m206 20) [(0, .inr (.inr (.inl 170)))] [.inl x, .inr (.inr (.inl 170))] st := by
    intro x hi
    have fl_m20 := hi
    have g96 := g_in hG
    have g97 := g_steps hG (st 170 35 : Int).toNat
    have g98 := g_codes hG
    have g99 := g_bank hG
    have g100 := g_faultKind hG
    have g101 := g_signAt hG
    have g102 := g_signEnd hG
    have g103 := g_size hG
    have g104 := g_sign hG
    refine yr1_ok (Rt := Q) (wc := (wcL [(199, k_counts), (0, k_between), (203, k_knownBut), (200, k_mustJ), (188, k_number)])) (stp := [20, 49, 103, 114]) hcm hcl [] 111 ?_
    show (170 = 170 ∧ (rq_counts x st ∧ (∀ (r105 : Int) (s105 : zS), en_counts x st r105 s105 → ((¬ r105 = (0 : Int) → ((-2147483648 ≤ (20 : Int) * (s105 170 35) ∧ (20 : Int) * (s105 170 35) ≤ 2147483647) ∧ ((0 ≤ s105 170 35 ∧ s105 170 35 < 2) ∧ ((-2147483648 ≤ ((20 : Int) * (s105 170 35)) + (s105 178 (s105 170 35 : Int).toNat) ∧ ((20 : Int) * (s105 170 35)) + (s105 178 (s105 170 35 : Int).toNat) ≤ 2147483647) ∧ K (rx_find rx_m206 49) [(3, .inl 0), (2, .inl 0), (1, .inl (((20 : Int) * (s105 170 35)) + (s105 178 (s105 170 35 : Int).toNat))), (0, .inr (.inr (.inl 170)))] [] s105)))) ∧ (¬ (¬ r105 = (0 : Int)) → Q none s105)))))
    refine ⟨rfl, ⟨hG, (show st 170 4 ≤ st 170 5 ∧ st 170 5 ≤ st 170 2 ∧ (st 170 3 = 0 ∧ st 170 4 = st 170 2 ∨ 1 ≤ st 170 3 ∧ st 170 4 < st 170 5) from by omega)⟩, fun r105 s105 q105 => ?_⟩
    obtain ⟨gs105, fs105, p105, v105⟩ := q105
    change s105 170 4 ≤ s105 170 5 ∧ s105 170 5 ≤ s105 170 2 ∧ (s105 170 3 = 0 ∧ s105 170 4 = s105 170 2 ∨ 1 ≤ s105 170 3 ∧ s105 170 4 < s105 170 5) ∧ st 170 4 ≤ s105 170 4 ∧ (s105 170 8 = 0 → st 170 8 = 0 ∧ st 170 5 ≤ s105 170 4 ∧ x = 0) at p105
    have g106 := g_signAt gs105
    have g107 := g_signEnd gs105
    have e108 : s105 170 2 = st 170 2 := fs105 170 2 rfl rfl
    have g109 := g_sign gs105
    have g110 := g_faultKind gs105
    change (r105 = 0 ∨ r105 = 1) ∧ (r105 = 1 ↔ s105 170 8 = 0) at v105
    refine ⟨fun h111 => ?_, fun h111 => ?_⟩
    · have e112 : s105 170 35 = st 170 35 := fs105 170 35 rfl rfl
      refine ⟨by omega, ?_⟩
      have e113 : s105 178 (s105 170 35 : Int).toNat = st 178 (st 170 35 : Int).toNat := (fs105 178 (s105 170 35 : Int).toNat rfl rfl).trans (by rw [e112] <;> rfl)
      refine ⟨by omega, ?_⟩
      refine ⟨by omega, ?_⟩
      have e114 : s105 170 13 = st 170 13 := fs105 170 13 rfl rfl
      have e115 : s105 170 34 = st 170 34 := fs105 170 34 rfl rfl
      have g117 := g_stepTold hG (20 * st 170 35 + s105 178 (st 170 35 : Int).toNat - 1 : Int).toNat
      have e116 : s105 179 (20 * s105 170 35 + s105 178 (s105 170 35 : Int).toNat - 1 : Int).toNat = st 179 (20 * st 170 35 + s105 178 (st 170 35 : Int).toNat - 1 : Int).toNat := (fs105 179 (20 * s105 170 35 + s105 178 (s105 170 35 : Int).toNat - 1 : Int).toNat rfl rfl).trans (by rw [e112] <;> rfl)
      exact lp _ 0 0 (((20 : Int) * (s105 170 35)) + (s105 178 (s105 170 35 : Int).toNat)) s105 ⟨gs105, (fr_tr (fr_rf _ _) fs105 rfl), (show s105 170 4 ≤ s105 170 5 ∧ s105 170 5 ≤ s105 170 2 ∧ (s105 170 3 = 0 ∧ s105 170 4 = s105 170 2 ∨ 1 ≤ s105 170 3 ∧ s105 170 4 < s105 170 5) from by omega), (show st 170 4 ≤ s105 170 4 from by omega), (show TS s105 from (TS_fr rfl fs105 ts)), (show jR st s105 from (jR_tr (s1 := st) (jR_rf _) (jR_fr rfl fs105))), (show (((20 : Int) * (s105 170 35)) + (s105 178 (s105 170 35 : Int).toNat)) = 20 * s105 170 35 + s105 178 (s105 170 35 : Int).toNat ∧ s105 170 35 = st 170 35 ∧ s105 170 13 = st 170 13 ∧ s105 178 (s105 170 35 : Int).toNat < 20 ∧ s105 170 34 = st 170 34 ∧ (s105 170 8 = 0 → s105 170 34 ≤ s105 170 4) from by omega), (show 0 ≤ (0 : Int) ∧ (0 : Int) < 256 from by omega), (show ∀ j : Int, 0 ≤ j → j < (0 : Int) → 0 < s105 178 (s105 170 35 : Int).toNat → s105 177 (64 * s105 170 35 + 8 * s105 179 (20 * s105 170 35 + s105 178 (s105 170 35 : Int).toNat - 1 : Int).toNat + j : Int).toNat = 0 → hb (0 : Int) j = 1 from fun j z1 z2 => by omega), (show 0 ≤ (0 : Int) ∧ (0 : Int) ≤ 8 from by omega)⟩ rfl
    · have e118 : s105 170 34 = st 170 34 := fs105 170 34 rfl rfl
      exact hQ _ ⟨gs105, (fr_tr (fr_rf _ _) fs105 rfl), (show s105 170 4 ≤ s105 170 5 ∧ s105 170 5 ≤ s105 170 2 ∧ (s105 170 3 = 0 ∧ s105 170 4 = s105 170 2 ∨ 1 ≤ s105 170 3 ∧ s105 170 4 < s105 170 5) ∧ st 170 4 ≤ s105 170 4 from by omega), (show jR st s105 from (jR_tr (s1 := st) (jR_rf _) (jR_fr rfl fs105))), (show s105 170 8 = 0 → TS s105 ∧ s105 170 34 ≤ s105 170 4 from fun z => absurd z (by omega))⟩
  have g119 := g_signAt hG
  have g120 := g_signEnd hG
  have g121 := g_size hG
  have g122 := g_sign hG
  have g123 := g_faultKind hG
  have g124 := g_codes hG
  have g125 := g_in hG
  have g126 := g_bank hG
  refine yr1_ok (Rt := Q) (wc := (wcL [(199, k_counts), (0, k_between), (203, k_knownBut), (200, k_mustJ), (188, k_number)])) (stp := [20, 49, 103, 114]) hcm hcl [] 111 ?_
  show ((0 ≤ st 170 35 ∧ st 170 35 < 2) ∧ ((¬ st 178 (st 170 35 : Int).toNat = (20 : Int) → K (rx_find rx_m206 20) [(0, .inr (.inr (.inl 170)))] [.inl 0, .inr (.inr (.inl 170))] st) ∧ (¬ (¬ st 178 (st 170 35 : Int).toNat = (20 : Int)) → K (rx_find rx_m206 20) [(0, .inr (.inr (.inl 170)))] [.inl 1, .inr (.inr (.inl 170))] st)))
  have g127 := g_steps hG (st 170 35 : Int).toNat
  refine ⟨by omega, ?_⟩
  refine ⟨fun h128 => ?_, fun h128 => ?_⟩
  · exact m20 0 (show ((0 : Int) = 0 ∨ (0 : Int) = 1) ∧ ((0 : Int) = 0 → st 178 (st 170 35 : Int).toNat < 20) from by omega)
  · exact m20 1 (show ((1 : Int) = 0 ∨ (1 : Int) = 1) ∧ ((1 : Int) = 0 → st 178 (st 170 35 : Int).toNat < 20) from by omega)
theorem k_stepping_m (hTb : aTb zSh rx_tb cl) {D : Nat} (hD : 4 ≤ D) : ∀ as st (Q Q' : zQ), (∀ r st', Q r st' → Q' r st') → k_stepping 206 as st Q → cl D 206 as st Q' := by
  intro as st Q Q' hQ h
  unfold k_stepping at h
  split at h
  · obtain ⟨rfl, h⟩ := h
    exact c_stepping hTb hD (ct_stepping_m hQ h)
  · exact h.elim
set_option maxHeartbeats 40000000 in
set_option maxRecDepth 100000 in
theorem c_reading (hTb : aTb zSh rx_tb cl) {D : Nat} (hD : 6 ≤ D) {k : Int} {st : zS} {Q : zQ} (h : ct_reading k st Q) : cl D 208 [.inr (.inr (.inl 170)), .inl k] st Q := by
  obtain ⟨d, rfl⟩ : ∃ d, D = d + 1 := ⟨D - 1, by omega⟩
  refine hTb d 208 (rx_m208, 3, 0, 0, 0) rfl _ _ _ (Nat.le_of_ble_eq_true rfl) (fun K hcl hsf hsl => ?_)
  have hcm : zmo (wcL [(199, k_counts), (198, k_reads)]) (cl d) := (wcL_m (wm_cons (k_counts_m hTb (by omega)) (wm_cons (k_reads_m hTb (by omega)) wm_nil)))
  obtain ⟨hR, hQ⟩ := h
  obtain ⟨hG, lx, ts, q, bk, hh⟩ := hR
  change st 170 4 ≤ st 170 5 ∧ st 170 5 ≤ st 170 2 ∧ (st 170 3 = 0 ∧ st 170 4 = st 170 2 ∨ 1 ≤ st 170 3 ∧ st 170 4 < st 170 5) at lx
  change TS st at ts
  change st 170 8 = 0 ∧ st 170 34 ≤ st 170 4 ∧ 1 ≤ st 170 3 at q
  change st 170 35 = 1 - st 170 13 at bk
  change k = 0 ∨ k = 1 at hh
  have m25 : ∀ (x : Int) (k2 : Int), ((x = 0 ∨ x = 1) ∧ k2 = 2 * st 170 35 + k) → K (rx_find rx_m208 25) [(2, .inl k2), (0, .inr (.inr (.inl 170))), (1, .inl k)] [.inl x, .inr (.inr (.inl 170))] st := by
    intro x k2 hi
    have fl_m25 := hi
    have g1 := g_in hG
    have g2 := g_codes hG
    have g3 := g_bank hG
    have g4 := g_faultKind hG
    have g5 := g_signAt hG
    have g6 := g_signEnd hG
    have g7 := g_size hG
    have g8 := g_sign hG
    refine yr1_ok (Rt := Q) (wc := (wcL [(199, k_counts), (198, k_reads)])) (stp := [25]) hcm hcl [] 69 ?_
    show (170 = 170 ∧ (rq_counts x st ∧ (∀ (r9 : Int) (s9 : zS), en_counts x st r9 s9 → ((¬ r9 = (0 : Int) → ((¬ k = (1 : Int) → ((0 = (0 : Int) ∨ 0 = (1 : Int)) ∧ ((0 ≤ k2 ∧ k2 < 4) ∧ ((¬ k = (1 : Int) → (170 = 170 ∧ (rq_reads (0) (zup (zup s9 170 36 0) 186 (k2 : Int).toNat (s9 170 34)) ∧ (∀ (s10 : zS), en_reads (0) (zup (zup s9 170 36 0) 186 (k2 : Int).toNat (s9 170 34)) s10 → ((0 ≤ k2 ∧ k2 < 4) ∧ Q none (zup s10 187 (k2 : Int).toNat (s10 170 34))))))) ∧ (¬ (¬ k = (1 : Int)) → (170 = 170 ∧ (rq_reads (1) (zup (zup s9 170 36 0) 186 (k2 : Int).toNat (s9 170 34)) ∧ (∀ (s11 : zS), en_reads (1) (zup (zup s9 170 36 0) 186 (k2 : Int).toNat (s9 170 34)) s11 → ((0 ≤ k2 ∧ k2 < 4) ∧ Q none (zup s11 187 (k2 : Int).toNat (s11 170 34))))))))))) ∧ (¬ (¬ k = (1 : Int)) → ((1 = (0 : Int) ∨ 1 = (1 : Int)) ∧ ((0 ≤ k2 ∧ k2 < 4) ∧ ((¬ k = (1 : Int) → (170 = 170 ∧ (rq_reads (0) (zup (zup s9 170 36 1) 186 (k2 : Int).toNat (s9 170 34)) ∧ (∀ (s12 : zS), en_reads (0) (zup (zup s9 170 36 1) 186 (k2 : Int).toNat (s9 170 34)) s12 → ((0 ≤ k2 ∧ k2 < 4) ∧ Q none (zup s12 187 (k2 : Int).toNat (s12 170 34))))))) ∧ (¬ (¬ k = (1 : Int)) → (170 = 170 ∧ (rq_reads (1) (zup (zup s9 170 36 1) 186 (k2 : Int).toNat (s9 170 34)) ∧ (∀ (s13 : zS), en_reads (1) (zup (zup s9 170 36 1) 186 (k2 : Int).toNat (s9 170 34)) s13 → ((0 ≤ k2 ∧ k2 < 4) ∧ Q none (zup s13 187 (k2 : Int).toNat (s13 170 34))))))))))))) ∧ (¬ (¬ r9 = (0 : Int)) → Q none s9)))))
    refine ⟨rfl, ⟨hG, (show st 170 4 ≤ st 170 5 ∧ st 170 5 ≤ st 170 2 ∧ (st 170 3 = 0 ∧ st 170 4 = st 170 2 ∨ 1 ≤ st 170 3 ∧ st 170 4 < st 170 5) from by omega)⟩, fun r9 s9 q9 => ?_⟩
    obtain ⟨gs9, fs9, p9, v9⟩ := q9
    change s9 170 4 ≤ s9 170 5 ∧ s9 170 5 ≤ s9 170 2 ∧ (s9 170 3 = 0 ∧ s9 170 4 = s9 170 2 ∨ 1 ≤ s9 170 3 ∧ s9 170 4 < s9 170 5) ∧ st 170 4 ≤ s9 170 4 ∧ (s9 170 8 = 0 → st 170 8 = 0 ∧ st 170 5 ≤ s9 170 4 ∧ x = 0) at p9
    have g14 := g_signAt gs9
    have g15 := g_signEnd gs9
    have e16 : s9 170 2 = st 170 2 := fs9 170 2 rfl rfl
    have g17 := g_sign gs9
    have g18 := g_faultKind gs9
    change (r9 = 0 ∨ r9 = 1) ∧ (r9 = 1 ↔ s9 170 8 = 0) at v9
    refine ⟨fun h19 => ?_, fun h19 => ?_⟩
    · refine ⟨fun h20 => ?_, fun h20 => ?_⟩
      · refine ⟨by omega, ?_⟩
        have e21 : s9 170 34 = st 170 34 := fs9 170 34 rfl rfl
        refine ⟨by omega, ?_⟩
        refine ⟨fun h22 => ?_, fun h22 => ?_⟩
        · have e23 : s9 170 35 = st 170 35 := fs9 170 35 rfl rfl
          have g26 := g_sumFrom hG (2 * st 170 35 + 0 : Int).toNat
          have e25 : s9 186 (2 * s9 170 35 + 0 : Int).toNat = st 186 (2 * st 170 35 + 0 : Int).toNat := (fs9 186 (2 * s9 170 35 + 0 : Int).toNat rfl rfl).trans (by rw [e23] <;> rfl)
          have u24 : ((2 * s9 170 35 + 0 : Int).toNat = (k2 : Int).toNat → (zup (zup s9 170 36 0) 186 (k2 : Int).toNat (s9 170 34)) 186 (2 * s9 170 35 + 0 : Int).toNat = (s9 170 34)) ∧ (¬ (2 * s9 170 35 + 0 : Int).toNat = (k2 : Int).toNat → (zup (zup s9 170 36 0) 186 (k2 : Int).toNat (s9 170 34)) 186 (2 * s9 170 35 + 0 : Int).toNat = s9 186 (2 * s9 170 35 + 0 : Int).toNat) := zup_two _ _ _ _ _
          refine ⟨rfl, ⟨(gInv_up (gInv_up gs9 (p_isClever (by omega))) (p_sumFrom (by omega))), (show s9 170 4 ≤ s9 170 5 ∧ s9 170 5 ≤ s9 170 2 ∧ (s9 170 3 = 0 ∧ s9 170 4 = s9 170 2 ∨ 1 ≤ s9 170 3 ∧ s9 170 4 < s9 170 5) from by omega), (show s9 170 34 ≤ s9 170 4 ∧ (zup (zup s9 170 36 0) 186 (k2 : Int).toNat (s9 170 34)) 186 (2 * s9 170 35 + 0 : Int).toNat = s9 170 34 from by omega), (show (0) = 0 ∨ (0) = 1 from by omega)⟩, fun s10 q10 => ?_⟩
          obtain ⟨gs10, fs10, p10, e10, o10, c10⟩ := q10
          change s10 170 4 ≤ s10 170 5 ∧ s10 170 5 ≤ s10 170 2 ∧ (s10 170 3 = 0 ∧ s10 170 4 = s10 170 2 ∨ 1 ≤ s10 170 3 ∧ s10 170 4 < s10 170 5) ∧ s9 170 4 ≤ s10 170 4 ∧ (0 < s9 170 8 → 0 < s10 170 8) at p10
          have g27 := g_signAt gs10
          have g28 := g_signEnd gs10
          have e29 : s10 170 2 = s9 170 2 := fs10 170 2 rfl rfl
          have g30 := g_sign gs10
          have g31 := g_faultKind gs10
          change s10 170 8 = 0 → cgd (s10 188) (1600 * s9 170 35 + s9 170 34) (1600 * s9 170 35 + s10 170 34) ∧ s10 170 34 ≤ s10 170 4 at e10
          have g32 := g_codes gs10
          change ∀ i : Nat, (i : Int) < 1600 * s9 170 35 + s9 170 34 ∨ 1600 * s9 170 35 + 1600 ≤ (i : Int) → s10 188 i = (zup (zup s9 170 36 0) 186 (k2 : Int).toNat (s9 170 34)) 188 i at o10
          change s9 170 34 ≤ s10 170 34 at c10
          refine ⟨by omega, ?_⟩
          have e33 : s10 170 35 = s9 170 35 := fs10 170 35 rfl rfl
          have e35 : s9 170 13 = st 170 13 := fs9 170 13 rfl rfl
          have e34 : s10 170 13 = s9 170 13 := fs10 170 13 rfl rfl
          exact hQ _ ⟨(gInv_up gs10 (p_sumBehind (by omega))), (fr_a (fr_tr (fr_a (fr_f (fr_tr (fr_rf _ _) fs9 rfl) rfl) rfl) fs10 rfl) rfl), (show s10 170 4 ≤ s10 170 5 ∧ s10 170 5 ≤ s10 170 2 ∧ (s10 170 3 = 0 ∧ s10 170 4 = s10 170 2 ∨ 1 ≤ s10 170 3 ∧ s10 170 4 < s10 170 5) ∧ st 170 4 ≤ s10 170 4 from by omega), (show jR st (zup s10 187 (k2 : Int).toNat (s10 170 34)) from jR_up (jR_tr (s1 := (zup (zup s9 170 36 0) 186 (k2 : Int).toNat (s9 170 34))) (jR_up (jR_up (jR_tr (s1 := st) (jR_rf _) (jR_fr rfl fs9)) (by unfold jrel; omega)) (by unfold jrel; omega)) (fun c i hr => by
            have hr : jrel (s9 170 13) c i := hr
            by_cases z1 : c = 188
            · subst z1
              exact o10 i (by unfold jrel at hr; omega)
            · exact fs10 c i (rmask_f z1 (jrel_j hr)) (rmask_a z1 (jrel_j hr)))) (by unfold jrel; omega)), (show s10 170 8 = 0 → TS (zup s10 187 (k2 : Int).toNat (s10 170 34)) ∧ s10 170 34 ≤ s10 170 4 from fun z => by
          have z0 := e10 z
          refine ⟨TS_rd (w := k) (s1 := s9) (TS_fr rfl fs9 ts) (by omega) (fun i => fs10 172 i rfl rfl) (fun i => fs10 173 i rfl rfl) (fun i => fs10 176 i rfl rfl) (fun i => fs10 177 i rfl rfl) (fun i => fs10 178 i rfl rfl) (fun i => fs10 179 i rfl rfl) (fun i => fs10 186 i rfl rfl) (fun i => fs10 187 i rfl rfl) (by omega) (by omega) (fun i => (g_sumFrom gs9 i).1) (by omega) (by omega) (fun i hi => o10 i (by omega)) z0.1 (by omega), by omega⟩)⟩
        · have e36 : s9 170 35 = st 170 35 := fs9 170 35 rfl rfl
          have g39 := g_sumFrom hG (2 * st 170 35 + 0 : Int).toNat
          have e38 : s9 186 (2 * s9 170 35 + 0 : Int).toNat = st 186 (2 * st 170 35 + 0 : Int).toNat := (fs9 186 (2 * s9 170 35 + 0 : Int).toNat rfl rfl).trans (by rw [e36] <;> rfl)
          have u37 : ((2 * s9 170 35 + 0 : Int).toNat = (k2 : Int).toNat → (zup (zup s9 170 36 0) 186 (k2 : Int).toNat (s9 170 34)) 186 (2 * s9 170 35 + 0 : Int).toNat = (s9 170 34)) ∧ (¬ (2 * s9 170 35 + 0 : Int).toNat = (k2 : Int).toNat → (zup (zup s9 170 36 0) 186 (k2 : Int).toNat (s9 170 34)) 186 (2 * s9 170 35 + 0 : Int).toNat = s9 186 (2 * s9 170 35 + 0 : Int).toNat) := zup_two _ _ _ _ _
          refine ⟨rfl, ⟨(gInv_up (gInv_up gs9 (p_isClever (by omega))) (p_sumFrom (by omega))), (show s9 170 4 ≤ s9 170 5 ∧ s9 170 5 ≤ s9 170 2 ∧ (s9 170 3 = 0 ∧ s9 170 4 = s9 170 2 ∨ 1 ≤ s9 170 3 ∧ s9 170 4 < s9 170 5) from by omega), (show s9 170 34 ≤ s9 170 4 ∧ (zup (zup s9 170 36 0) 186 (k2 : Int).toNat (s9 170 34)) 186 (2 * s9 170 35 + 0 : Int).toNat = s9 170 34 from by omega), (show (1) = 0 ∨ (1) = 1 from by omega)⟩, fun s11 q11 => ?_⟩
          obtain ⟨gs11, fs11, p11, e11, o11, c11⟩ := q11
          change s11 170 4 ≤ s11 170 5 ∧ s11 170 5 ≤ s11 170 2 ∧ (s11 170 3 = 0 ∧ s11 170 4 = s11 170 2 ∨ 1 ≤ s11 170 3 ∧ s11 170 4 < s11 170 5) ∧ s9 170 4 ≤ s11 170 4 ∧ (0 < s9 170 8 → 0 < s11 170 8) at p11
          have g40 := g_signAt gs11
          have g41 := g_signEnd gs11
          have e42 : s11 170 2 = s9 170 2 := fs11 170 2 rfl rfl
          have g43 := g_sign gs11
          have g44 := g_faultKind gs11
          change s11 170 8 = 0 → cgd (s11 188) (1600 * s9 170 35 + s9 170 34) (1600 * s9 170 35 + s11 170 34) ∧ s11 170 34 ≤ s11 170 4 at e11
          have g45 := g_codes gs11
          change ∀ i : Nat, (i : Int) < 1600 * s9 170 35 + s9 170 34 ∨ 1600 * s9 170 35 + 1600 ≤ (i : Int) → s11 188 i = (zup (zup s9 170 36 0) 186 (k2 : Int).toNat (s9 170 34)) 188 i at o11
          change s9 170 34 ≤ s11 170 34 at c11
          refine ⟨by omega, ?_⟩
          have e46 : s11 170 35 = s9 170 35 := fs11 170 35 rfl rfl
          have e48 : s9 170 13 = st 170 13 := fs9 170 13 rfl rfl
          have e47 : s11 170 13 = s9 170 13 := fs11 170 13 rfl rfl
          exact hQ _ ⟨(gInv_up gs11 (p_sumBehind (by omega))), (fr_a (fr_tr (fr_a (fr_f (fr_tr (fr_rf _ _) fs9 rfl) rfl) rfl) fs11 rfl) rfl), (show s11 170 4 ≤ s11 170 5 ∧ s11 170 5 ≤ s11 170 2 ∧ (s11 170 3 = 0 ∧ s11 170 4 = s11 170 2 ∨ 1 ≤ s11 170 3 ∧ s11 170 4 < s11 170 5) ∧ st 170 4 ≤ s11 170 4 from by omega), (show jR st (zup s11 187 (k2 : Int).toNat (s11 170 34)) from jR_up (jR_tr (s1 := (zup (zup s9 170 36 0) 186 (k2 : Int).toNat (s9 170 34))) (jR_up (jR_up (jR_tr (s1 := st) (jR_rf _) (jR_fr rfl fs9)) (by unfold jrel; omega)) (by unfold jrel; omega)) (fun c i hr => by
            have hr : jrel (s9 170 13) c i := hr
            by_cases z1 : c = 188
            · subst z1
              exact o11 i (by unfold jrel at hr; omega)
            · exact fs11 c i (rmask_f z1 (jrel_j hr)) (rmask_a z1 (jrel_j hr)))) (by unfold jrel; omega)), (show s11 170 8 = 0 → TS (zup s11 187 (k2 : Int).toNat (s11 170 34)) ∧ s11 170 34 ≤ s11 170 4 from fun z => by
          have z0 := e11 z
          refine ⟨TS_rd (w := k) (s1 := s9) (TS_fr rfl fs9 ts) (by omega) (fun i => fs11 172 i rfl rfl) (fun i => fs11 173 i rfl rfl) (fun i => fs11 176 i rfl rfl) (fun i => fs11 177 i rfl rfl) (fun i => fs11 178 i rfl rfl) (fun i => fs11 179 i rfl rfl) (fun i => fs11 186 i rfl rfl) (fun i => fs11 187 i rfl rfl) (by omega) (by omega) (fun i => (g_sumFrom gs9 i).1) (by omega) (by omega) (fun i hi => o11 i (by omega)) z0.1 (by omega), by omega⟩)⟩
      · refine ⟨by omega, ?_⟩
        have e49 : s9 170 34 = st 170 34 := fs9 170 34 rfl rfl
        refine ⟨by omega, ?_⟩
        refine ⟨fun h50 => ?_, fun h50 => ?_⟩
        · have e51 : s9 170 35 = st 170 35 := fs9 170 35 rfl rfl
          have g54 := g_sumFrom hG (2 * st 170 35 + 1 : Int).toNat
          have e53 : s9 186 (2 * s9 170 35 + 1 : Int).toNat = st 186 (2 * st 170 35 + 1 : Int).toNat := (fs9 186 (2 * s9 170 35 + 1 : Int).toNat rfl rfl).trans (by rw [e51] <;> rfl)
          have u52 : ((2 * s9 170 35 + 1 : Int).toNat = (k2 : Int).toNat → (zup (zup s9 170 36 1) 186 (k2 : Int).toNat (s9 170 34)) 186 (2 * s9 170 35 + 1 : Int).toNat = (s9 170 34)) ∧ (¬ (2 * s9 170 35 + 1 : Int).toNat = (k2 : Int).toNat → (zup (zup s9 170 36 1) 186 (k2 : Int).toNat (s9 170 34)) 186 (2 * s9 170 35 + 1 : Int).toNat = s9 186 (2 * s9 170 35 + 1 : Int).toNat) := zup_two _ _ _ _ _
          refine ⟨rfl, ⟨(gInv_up (gInv_up gs9 (p_isClever (by omega))) (p_sumFrom (by omega))), (show s9 170 4 ≤ s9 170 5 ∧ s9 170 5 ≤ s9 170 2 ∧ (s9 170 3 = 0 ∧ s9 170 4 = s9 170 2 ∨ 1 ≤ s9 170 3 ∧ s9 170 4 < s9 170 5) from by omega), (show s9 170 34 ≤ s9 170 4 ∧ (zup (zup s9 170 36 1) 186 (k2 : Int).toNat (s9 170 34)) 186 (2 * s9 170 35 + 1 : Int).toNat = s9 170 34 from by omega), (show (0) = 0 ∨ (0) = 1 from by omega)⟩, fun s12 q12 => ?_⟩
          obtain ⟨gs12, fs12, p12, e12, o12, c12⟩ := q12
          change s12 170 4 ≤ s12 170 5 ∧ s12 170 5 ≤ s12 170 2 ∧ (s12 170 3 = 0 ∧ s12 170 4 = s12 170 2 ∨ 1 ≤ s12 170 3 ∧ s12 170 4 < s12 170 5) ∧ s9 170 4 ≤ s12 170 4 ∧ (0 < s9 170 8 → 0 < s12 170 8) at p12
          have g55 := g_signAt gs12
          have g56 := g_signEnd gs12
          have e57 : s12 170 2 = s9 170 2 := fs12 170 2 rfl rfl
          have g58 := g_sign gs12
          have g59 := g_faultKind gs12
          change s12 170 8 = 0 → cgd (s12 188) (1600 * s9 170 35 + s9 170 34) (1600 * s9 170 35 + s12 170 34) ∧ s12 170 34 ≤ s12 170 4 at e12
          have g60 := g_codes gs12
          change ∀ i : Nat, (i : Int) < 1600 * s9 170 35 + s9 170 34 ∨ 1600 * s9 170 35 + 1600 ≤ (i : Int) → s12 188 i = (zup (zup s9 170 36 1) 186 (k2 : Int).toNat (s9 170 34)) 188 i at o12
          change s9 170 34 ≤ s12 170 34 at c12
          refine ⟨by omega, ?_⟩
          have e61 : s12 170 35 = s9 170 35 := fs12 170 35 rfl rfl
          have e63 : s9 170 13 = st 170 13 := fs9 170 13 rfl rfl
          have e62 : s12 170 13 = s9 170 13 := fs12 170 13 rfl rfl
          exact hQ _ ⟨(gInv_up gs12 (p_sumBehind (by omega))), (fr_a (fr_tr (fr_a (fr_f (fr_tr (fr_rf _ _) fs9 rfl) rfl) rfl) fs12 rfl) rfl), (show s12 170 4 ≤ s12 170 5 ∧ s12 170 5 ≤ s12 170 2 ∧ (s12 170 3 = 0 ∧ s12 170 4 = s12 170 2 ∨ 1 ≤ s12 170 3 ∧ s12 170 4 < s12 170 5) ∧ st 170 4 ≤ s12 170 4 from by omega), (show jR st (zup s12 187 (k2 : Int).toNat (s12 170 34)) from jR_up (jR_tr (s1 := (zup (zup s9 170 36 1) 186 (k2 : Int).toNat (s9 170 34))) (jR_up (jR_up (jR_tr (s1 := st) (jR_rf _) (jR_fr rfl fs9)) (by unfold jrel; omega)) (by unfold jrel; omega)) (fun c i hr => by
            have hr : jrel (s9 170 13) c i := hr
            by_cases z1 : c = 188
            · subst z1
              exact o12 i (by unfold jrel at hr; omega)
            · exact fs12 c i (rmask_f z1 (jrel_j hr)) (rmask_a z1 (jrel_j hr)))) (by unfold jrel; omega)), (show s12 170 8 = 0 → TS (zup s12 187 (k2 : Int).toNat (s12 170 34)) ∧ s12 170 34 ≤ s12 170 4 from fun z => by
          have z0 := e12 z
          refine ⟨TS_rd (w := k) (s1 := s9) (TS_fr rfl fs9 ts) (by omega) (fun i => fs12 172 i rfl rfl) (fun i => fs12 173 i rfl rfl) (fun i => fs12 176 i rfl rfl) (fun i => fs12 177 i rfl rfl) (fun i => fs12 178 i rfl rfl) (fun i => fs12 179 i rfl rfl) (fun i => fs12 186 i rfl rfl) (fun i => fs12 187 i rfl rfl) (by omega) (by omega) (fun i => (g_sumFrom gs9 i).1) (by omega) (by omega) (fun i hi => o12 i (by omega)) z0.1 (by omega), by omega⟩)⟩
        · have e64 : s9 170 35 = st 170 35 := fs9 170 35 rfl rfl
          have g67 := g_sumFrom hG (2 * st 170 35 + 1 : Int).toNat
          have e66 : s9 186 (2 * s9 170 35 + 1 : Int).toNat = st 186 (2 * st 170 35 + 1 : Int).toNat := (fs9 186 (2 * s9 170 35 + 1 : Int).toNat rfl rfl).trans (by rw [e64] <;> rfl)
          have u65 : ((2 * s9 170 35 + 1 : Int).toNat = (k2 : Int).toNat → (zup (zup s9 170 36 1) 186 (k2 : Int).toNat (s9 170 34)) 186 (2 * s9 170 35 + 1 : Int).toNat = (s9 170 34)) ∧ (¬ (2 * s9 170 35 + 1 : Int).toNat = (k2 : Int).toNat → (zup (zup s9 170 36 1) 186 (k2 : Int).toNat (s9 170 34)) 186 (2 * s9 170 35 + 1 : Int).toNat = s9 186 (2 * s9 170 35 + 1 : Int).toNat) := zup_two _ _ _ _ _
          refine ⟨rfl, ⟨(gInv_up (gInv_up gs9 (p_isClever (by omega))) (p_sumFrom (by omega))), (show s9 170 4 ≤ s9 170 5 ∧ s9 170 5 ≤ s9 170 2 ∧ (s9 170 3 = 0 ∧ s9 170 4 = s9 170 2 ∨ 1 ≤ s9 170 3 ∧ s9 170 4 < s9 170 5) from by omega), (show s9 170 34 ≤ s9 170 4 ∧ (zup (zup s9 170 36 1) 186 (k2 : Int).toNat (s9 170 34)) 186 (2 * s9 170 35 + 1 : Int).toNat = s9 170 34 from by omega), (show (1) = 0 ∨ (1) = 1 from by omega)⟩, fun s13 q13 => ?_⟩
          obtain ⟨gs13, fs13, p13, e13, o13, c13⟩ := q13
          change s13 170 4 ≤ s13 170 5 ∧ s13 170 5 ≤ s13 170 2 ∧ (s13 170 3 = 0 ∧ s13 170 4 = s13 170 2 ∨ 1 ≤ s13 170 3 ∧ s13 170 4 < s13 170 5) ∧ s9 170 4 ≤ s13 170 4 ∧ (0 < s9 170 8 → 0 < s13 170 8) at p13
          have g68 := g_signAt gs13
          have g69 := g_signEnd gs13
          have e70 : s13 170 2 = s9 170 2 := fs13 170 2 rfl rfl
          have g71 := g_sign gs13
          have g72 := g_faultKind gs13
          change s13 170 8 = 0 → cgd (s13 188) (1600 * s9 170 35 + s9 170 34) (1600 * s9 170 35 + s13 170 34) ∧ s13 170 34 ≤ s13 170 4 at e13
          have g73 := g_codes gs13
          change ∀ i : Nat, (i : Int) < 1600 * s9 170 35 + s9 170 34 ∨ 1600 * s9 170 35 + 1600 ≤ (i : Int) → s13 188 i = (zup (zup s9 170 36 1) 186 (k2 : Int).toNat (s9 170 34)) 188 i at o13
          change s9 170 34 ≤ s13 170 34 at c13
          refine ⟨by omega, ?_⟩
          have e74 : s13 170 35 = s9 170 35 := fs13 170 35 rfl rfl
          have e76 : s9 170 13 = st 170 13 := fs9 170 13 rfl rfl
          have e75 : s13 170 13 = s9 170 13 := fs13 170 13 rfl rfl
          exact hQ _ ⟨(gInv_up gs13 (p_sumBehind (by omega))), (fr_a (fr_tr (fr_a (fr_f (fr_tr (fr_rf _ _) fs9 rfl) rfl) rfl) fs13 rfl) rfl), (show s13 170 4 ≤ s13 170 5 ∧ s13 170 5 ≤ s13 170 2 ∧ (s13 170 3 = 0 ∧ s13 170 4 = s13 170 2 ∨ 1 ≤ s13 170 3 ∧ s13 170 4 < s13 170 5) ∧ st 170 4 ≤ s13 170 4 from by omega), (show jR st (zup s13 187 (k2 : Int).toNat (s13 170 34)) from jR_up (jR_tr (s1 := (zup (zup s9 170 36 1) 186 (k2 : Int).toNat (s9 170 34))) (jR_up (jR_up (jR_tr (s1 := st) (jR_rf _) (jR_fr rfl fs9)) (by unfold jrel; omega)) (by unfold jrel; omega)) (fun c i hr => by
            have hr : jrel (s9 170 13) c i := hr
            by_cases z1 : c = 188
            · subst z1
              exact o13 i (by unfold jrel at hr; omega)
            · exact fs13 c i (rmask_f z1 (jrel_j hr)) (rmask_a z1 (jrel_j hr)))) (by unfold jrel; omega)), (show s13 170 8 = 0 → TS (zup s13 187 (k2 : Int).toNat (s13 170 34)) ∧ s13 170 34 ≤ s13 170 4 from fun z => by
          have z0 := e13 z
          refine ⟨TS_rd (w := k) (s1 := s9) (TS_fr rfl fs9 ts) (by omega) (fun i => fs13 172 i rfl rfl) (fun i => fs13 173 i rfl rfl) (fun i => fs13 176 i rfl rfl) (fun i => fs13 177 i rfl rfl) (fun i => fs13 178 i rfl rfl) (fun i => fs13 179 i rfl rfl) (fun i => fs13 186 i rfl rfl) (fun i => fs13 187 i rfl rfl) (by omega) (by omega) (fun i => (g_sumFrom gs9 i).1) (by omega) (by omega) (fun i hi => o13 i (by omega)) z0.1 (by omega), by omega⟩)⟩
    · have e77 : s9 170 34 = st 170 34 := fs9 170 34 rfl rfl
      exact hQ _ ⟨gs9, (fr_tr (fr_rf _ _) fs9 rfl), (show s9 170 4 ≤ s9 170 5 ∧ s9 170 5 ≤ s9 170 2 ∧ (s9 170 3 = 0 ∧ s9 170 4 = s9 170 2 ∨ 1 ≤ s9 170 3 ∧ s9 170 4 < s9 170 5) ∧ st 170 4 ≤ s9 170 4 from by omega), (show jR st s9 from (jR_tr (s1 := st) (jR_rf _) (jR_fr rfl fs9))), (show s9 170 8 = 0 → TS s9 ∧ s9 170 34 ≤ s9 170 4 from fun z => absurd z (by omega))⟩
  have g78 := g_signAt hG
  have g79 := g_signEnd hG
  have g80 := g_size hG
  have g81 := g_sign hG
  have g82 := g_faultKind hG
  have g83 := g_codes hG
  have g84 := g_in hG
  have g85 := g_bank hG
  refine yr1_ok (Rt := Q) (wc := (wcL [(199, k_counts), (198, k_reads)])) (stp := [25]) hcm hcl [] 69 ?_
  show ((-2147483648 ≤ (2 : Int) * (st 170 35) ∧ (2 : Int) * (st 170 35) ≤ 2147483647) ∧ ((-2147483648 ≤ ((2 : Int) * (st 170 35)) + k ∧ ((2 : Int) * (st 170 35)) + k ≤ 2147483647) ∧ ((0 ≤ ((2 : Int) * (st 170 35)) + k ∧ ((2 : Int) * (st 170 35)) + k < 4) ∧ ((st 186 (((2 : Int) * (st 170 35)) + k : Int).toNat = ((-1) : Int) → K (rx_find rx_m208 25) [(2, .inl (((2 : Int) * (st 170 35)) + k)), (0, .inr (.inr (.inl 170))), (1, .inl k)] [.inl 0, .inr (.inr (.inl 170))] st) ∧ (¬ (st 186 (((2 : Int) * (st 170 35)) + k : Int).toNat = ((-1) : Int)) → K (rx_find rx_m208 25) [(2, .inl (((2 : Int) * (st 170 35)) + k)), (0, .inr (.inr (.inl 170))), (1, .inl k)] [.inl 1, .inr (.inr (.inl 170))] st)))))
  refine ⟨by omega, ?_⟩
  refine ⟨by omega, ?_⟩
  have g86 := g_sumFrom hG (((2 : Int) * (st 170 35)) + k : Int).toNat
  refine ⟨by omega, ?_⟩
  refine ⟨fun h87 => ?_, fun h87 => ?_⟩
  · exact m25 0 (((2 : Int) * (st 170 35)) + k) (show ((0 : Int) = 0 ∨ (0 : Int) = 1) ∧ (((2 : Int) * (st 170 35)) + k) = 2 * st 170 35 + k from by omega)
  · exact m25 1 (((2 : Int) * (st 170 35)) + k) (show ((1 : Int) = 0 ∨ (1 : Int) = 1) ∧ (((2 : Int) * (st 170 35)) + k) = 2 * st 170 35 + k from by omega)
theorem k_reading_m (hTb : aTb zSh rx_tb cl) {D : Nat} (hD : 6 ≤ D) : ∀ as st (Q Q' : zQ), (∀ r st', Q r st' → Q' r st') → k_reading 208 as st Q → cl D 208 as st Q' := by
  intro as st Q Q' hQ h
  unfold k_reading at h
  split at h
  · obtain ⟨rfl, h⟩ := h
    exact c_reading hTb hD (ct_reading_m hQ h)
  · exact h.elim
end R6g
