/-! printed by wip/p32/libw.py: the class's words, taken -/
theorem p5b {l pa : Int} (hl : 0 ≤ l ∧ l ≤ 6) (h : pa < 32 ^ l.toNat) : (l ≤ 5 → pa < 33554432) ∧ pa * 32 ^ (6 - l).toNat < 2147483648 ∧ (0 ≤ pa → 0 ≤ pa * 32 ^ (6 - l).toNat) := by
  rcases (show l = 0 ∨ l = 1 ∨ l = 2 ∨ l = 3 ∨ l = 4 ∨ l = 5 ∨ l = 6 by omega) with rfl | rfl | rfl | rfl | rfl | rfl | rfl
  · have h : pa < 1 := h
    show _ ∧ pa * 1073741824 < 2147483648 ∧ (0 ≤ pa → 0 ≤ pa * 1073741824)
    omega
  · have h : pa < 32 := h
    show _ ∧ pa * 33554432 < 2147483648 ∧ (0 ≤ pa → 0 ≤ pa * 33554432)
    omega
  · have h : pa < 1024 := h
    show _ ∧ pa * 1048576 < 2147483648 ∧ (0 ≤ pa → 0 ≤ pa * 1048576)
    omega
  · have h : pa < 32768 := h
    show _ ∧ pa * 32768 < 2147483648 ∧ (0 ≤ pa → 0 ≤ pa * 32768)
    omega
  · have h : pa < 1048576 := h
    show _ ∧ pa * 1024 < 2147483648 ∧ (0 ≤ pa → 0 ≤ pa * 1024)
    omega
  · have h : pa < 33554432 := h
    show _ ∧ pa * 32 < 2147483648 ∧ (0 ≤ pa → 0 ≤ pa * 32)
    omega
  · have h : pa < 1073741824 := h
    show _ ∧ pa * 1 < 2147483648 ∧ (0 ≤ pa → 0 ≤ pa * 1)
    omega
theorem p5s {l pa c : Int} (hl : 0 ≤ l) (h : pa < 32 ^ l.toNat) (hc : c < 32) : 32 * pa + c < 32 ^ (l + 1).toNat := by
  rw [show (l + 1).toNat = l.toNat + 1 by omega, Int.pow_succ]
  omega
theorem d10b {l pa : Int} (hl : 0 ≤ l ∧ l ≤ 4) (h : pa < 10 ^ l.toNat) : pa < 10000 := by
  rcases (show l = 0 ∨ l = 1 ∨ l = 2 ∨ l = 3 ∨ l = 4 by omega) with rfl | rfl | rfl | rfl | rfl
  · have h : pa < 1 := h
    omega
  · have h : pa < 10 := h
    omega
  · have h : pa < 100 := h
    omega
  · have h : pa < 1000 := h
    omega
  · exact h
theorem d10s {l pa c : Int} (hl : 0 ≤ l) (h : pa < 10 ^ l.toNat) (hc : c < 10) : 10 * pa + c < 10 ^ (l + 1).toNat := by
  rw [show (l + 1).toNat = l.toNat + 1 by omega, Int.pow_succ]
  omega
theorem tcc_le {t : Int → Int} {n k : Int} (h : wle (tcc t n k)) : (0 ≤ k ∧ k < n) ∧ tcc t n k = t k := by
  by_cases q : 0 ≤ k ∧ k < n
  · exact ⟨q, tcc_in q⟩
  · rw [tcc_out q] at h
    unfold wle at h
    omega
theorem tcc_di {t : Int → Int} {n k : Int} (h : wdi (tcc t n k)) : (0 ≤ k ∧ k < n) ∧ tcc t n k = t k := by
  by_cases q : 0 ≤ k ∧ k < n
  · exact ⟨q, tcc_in q⟩
  · rw [tcc_out q] at h
    unfold wdi at h
    omega
theorem tcc_nn {t : Int → Int} {n k : Int} (h : 0 ≤ tcc t n k) : 0 ≤ k ∧ k < n := by
  by_cases q : 0 ≤ k ∧ k < n
  · exact q
  · rw [tcc_out q] at h
    omega
theorem tcc_r {st : zS} {n : Int} (k : Int) : -1 ≤ tcc (fun k => st 2 k.toNat % 256) n k ∧ tcc (fun k => st 2 k.toNat % 256) n k ≤ 255 := by
  unfold tcc
  split
  · show -1 ≤ st 2 k.toNat % 256 ∧ st 2 k.toNat % 256 ≤ 255
    omega
  · omega
/-- a word taken: its run, its number -/
def cWrd (t : Int → Int) (n a0 a1 kd vl : Int) (own : Nat → Int) : Prop := (∃ m : Int, wrn (fun j => wle (tcc t n j)) a0 m ∧ 6 < m - a0 ∧ kd = 5) ∨
  (wrn (fun j => wle (tcc t n j)) a0 a1 ∧ a1 - a0 ≤ 6 ∧ ((kd = 2 ∧ 0 ≤ vl ∧ vl < 26 ∧ own vl.toNat = pk5 t a0 (a1 - a0).toNat * 32 ^ (6 - (a1 - a0)).toNat) ∨ (kd = 1 ∧ vl = pk5 t a0 (a1 - a0).toNat * 32 ^ (6 - (a1 - a0)).toNat ∧ ∀ j : Int, 0 ≤ j → j < 26 → ¬ own j.toNat = vl)))
def cNum (t : Int → Int) (n a0 a1 kd vl : Int) : Prop := (∃ m : Int, wrn (fun j => wdi (tcc t n j)) a0 m ∧ 4 < m - a0 ∧ kd = 5) ∨ (wrn (fun j => wdi (tcc t n j)) a0 a1 ∧ a1 - a0 ≤ 4 ∧ kd = 3 ∧ vl = pkd t a0 (a1 - a0).toNat)
theorem run_more {P : Int → Prop} {a l n : Int} {c : Int} (hn : ¬ P n) (h : ∀ j : Int, a ≤ j → j < a + l → P j) (hp : P (a + l)) (hl : 0 ≤ l) (hs : a + l < n) (hc : c = l) : ∃ m : Int, wrn P a m ∧ c < m - a := by
  obtain ⟨m, ⟨m1, m2, m3⟩, m4⟩ := wrn_ex (P := P) (s := a + l) (n := n) (by omega) hn
  refine ⟨m, ⟨by omega, fun j z1 z2 => ?_, m3⟩, ?_⟩
  · by_cases q : j < a + l
    · exact h j z1 q
    · exact m2 j (by omega) z2
  · have : ¬ m = a + l := fun q => m3 (q ▸ hp)
    omega
def m_cTakeWord : aM := ([(149, 2), (149, 3), (149, 4), (149, 6)], [])
def rq_cTakeWord  (st : zS) : Prop := gInv zgt st ∧ (wle (tcc (fun j : Int => st 2 j.toNat % 256) (st 1 1) (st 149 2)))
def en_cTakeWord  (st : zS) (s1 : zS) : Prop := gInv zgt s1 ∧ aFr m_cTakeWord st s1 ∧ (cWrd (fun j : Int => st 2 j.toNat % 256) (st 1 1) (st 149 2) (s1 149 2) (s1 149 3) (s1 149 4) (st 150))
def ct_cTakeWord  (st : zS) (Q : zQ) : Prop := rq_cTakeWord  st ∧ (∀ (s1 : zS), en_cTakeWord  st s1 → Q none s1)
theorem ct_cTakeWord_m {st : zS} {Q Q' : zQ} (hQ : ∀ r st', Q r st' → Q' r st') (h : ct_cTakeWord  st Q) : ct_cTakeWord  st Q' := ⟨h.1, fun x0 x1 => hQ _ _ (h.2 x0 x1)⟩
def k_cTakeWord : zCall := fun _ as st Q => match as with
  | [.inr (.inr (.inl z_o))] => z_o = 149 ∧ ct_cTakeWord  st Q
  | _ => False
theorem k_cTakeWord_mon : zmon k_cTakeWord := by
  intro nu as st Q Q' hQ h
  unfold k_cTakeWord at h ⊢
  split at h
  · exact ⟨h.1, ct_cTakeWord_m hQ h.2⟩
  · exact h.elim
def m_cTakeNumber : aM := ([(149, 2), (149, 3), (149, 4), (149, 6)], [])
def rq_cTakeNumber  (st : zS) : Prop := gInv zgt st ∧ (wdi (tcc (fun j : Int => st 2 j.toNat % 256) (st 1 1) (st 149 2)))
def en_cTakeNumber  (st : zS) (s1 : zS) : Prop := gInv zgt s1 ∧ aFr m_cTakeNumber st s1 ∧ (cNum (fun j : Int => st 2 j.toNat % 256) (st 1 1) (st 149 2) (s1 149 2) (s1 149 3) (s1 149 4))
def ct_cTakeNumber  (st : zS) (Q : zQ) : Prop := rq_cTakeNumber  st ∧ (∀ (s1 : zS), en_cTakeNumber  st s1 → Q none s1)
theorem ct_cTakeNumber_m {st : zS} {Q Q' : zQ} (hQ : ∀ r st', Q r st' → Q' r st') (h : ct_cTakeNumber  st Q) : ct_cTakeNumber  st Q' := ⟨h.1, fun x0 x1 => hQ _ _ (h.2 x0 x1)⟩
def k_cTakeNumber : zCall := fun _ as st Q => match as with
  | [.inr (.inr (.inl z_o))] => z_o = 149 ∧ ct_cTakeNumber  st Q
  | _ => False
theorem k_cTakeNumber_mon : zmon k_cTakeNumber := by
  intro nu as st Q Q' hQ h
  unfold k_cTakeNumber at h ⊢
  split at h
  · exact ⟨h.1, ct_cTakeNumber_m hQ h.2⟩
  · exact h.elim
section R93
variable {cl : Nat → zCall}
set_option maxHeartbeats 40000000 in
set_option maxRecDepth 100000 in
theorem c_cTakeWord (hTb : aTb zSh rx_tb cl) {D : Nat} (hD : 2 ≤ D) {st : zS} {Q : zQ} (h : ct_cTakeWord  st Q) : cl D 298 [.inr (.inr (.inl 149))] st Q := by
  obtain ⟨d, rfl⟩ : ∃ d, D = d + 1 := ⟨D - 1, by omega⟩
  refine hTb d 298 (rx_m298, 3, 0, 0, 0) rfl _ _ _ (Nat.le_of_ble_eq_true rfl) (fun K hcl hsf hsl => ?_)
  have hcm : zmo (wcL [(72, k_cAt), (296, k_cIsLetter), (9, k_cLetNo), (31, k_cFilled), (299, k_cFindOwn)]) (cl d) := (wcL_m (wm_cons (k_cAt_m hTb (by omega)) (wm_cons (k_cIsLetter_m hTb (by omega)) (wm_cons (k_cLetNo_m hTb (by omega)) (wm_cons (k_cFilled_m hTb (by omega)) (wm_cons (k_cFindOwn_m hTb (by omega)) wm_nil))))))
  obtain ⟨hR, hQ⟩ := h
  obtain ⟨hG, q⟩ := hR
  change wle (tcc (fun j : Int => st 2 j.toNat % 256) (st 1 1) (st 149 2)) at q
  have m62 : ∀ (pa : Int) (l : Int) (s_m62 : zS), gInv zgt s_m62 ∧ aFr m_cTakeWord st s_m62 ∧ (0 ≤ l ∧ l ≤ 6 ∧ s_m62 149 2 = st 149 2 + l) ∧ (pa = pk5 (fun j : Int => st 2 j.toNat % 256) (st 149 2) (l : Int).toNat ∧ 0 ≤ pa ∧ pa < 32 ^ (l : Int).toNat) ∧ (∀ j : Int, st 149 2 ≤ j → j < st 149 2 + l → wle (tcc (fun j : Int => st 2 j.toNat % 256) (st 1 1) j)) ∧ (l = 6 ∨ ¬ wle (tcc (fun j : Int => st 2 j.toNat % 256) (st 1 1) (st 149 2 + l))) → K (rx_find rx_m298 62) [(2, .inl pa), (1, .inl l), (0, .inr (.inr (.inl 149)))] [] s_m62 := by
    intro pa l s_m62 hi
    obtain ⟨gI_m62, fI_m62, i_m62, p_m62, r_m62, x_m62⟩ := hi
    have ce : ∀ k : Int, tcc (fun k => s_m62 2 k.toNat % 256) (s_m62 1 1) k = tcc (fun k => st 2 k.toNat % 256) (st 1 1) k := fun k => by rw [fI_m62 1 1 rfl rfl]; exact tcc_e (fun j _ _ => by show s_m62 2 j.toNat % 256 = st 2 j.toNat % 256; rw [fI_m62 2 _ rfl rfl]) k
    have cr := tcc_r (st := st) (n := st 1 1) (st 149 2 + l)
    have c1 := ce (s_m62 149 2)
    have ca : s_m62 149 2 = st 149 2 + l := i_m62.2.2
    rw [show tcc (fun k => st 2 k.toNat % 256) (st 1 1) (s_m62 149 2) = tcc (fun k => st 2 k.toNat % 256) (st 1 1) (st 149 2 + l) by rw [ca]] at c1
    have cin : 0 ≤ tcc (fun k => st 2 k.toNat % 256) (st 1 1) (st 149 2 + l) → st 149 2 + l < st 1 1 := fun z => (tcc_nn z).2
    have pf := p5b (l := l) (pa := pa) ⟨i_m62.1, i_m62.2.1⟩ p_m62.2.2
    have g1 := g_wAt gI_m62
    have g2 := g_wAt hG
    have g3 := g_tsize hG
    have e4 : s_m62 1 1 = st 1 1 := fI_m62 1 1 rfl rfl
    refine yr1_ok (Rt := Q) (wc := (wcL [(72, k_cAt), (296, k_cIsLetter), (9, k_cLetNo), (31, k_cFilled), (299, k_cFindOwn)])) (stp := [62]) hcm hcl [] 79 ?_
    show (1 = 1 ∧ (rq_cAt (s_m62 149 2) s_m62 ∧ (∀ (r5 : Int), en_cAt (s_m62 149 2) s_m62 r5 → (∀ (r6 : Int), en_cIsLetter r5 s_m62 r6 → ((r6 = (0 : Int) → (rq_cFilled pa l s_m62 ∧ (∀ (r7 : Int), en_cFilled pa l s_m62 r7 → (149 = 149 ∧ (rq_cFindOwn  (zup (zup s_m62 149 4 r7) 149 3 1) ∧ (∀ (s8 : zS), en_cFindOwn  (zup (zup s_m62 149 4 r7) 149 3 1) s8 → Q none s8)))))) ∧ (¬ (r6 = (0 : Int)) → Q none (zup (zup s_m62 149 3 5) 149 6 (s_m62 149 2))))))))
    refine ⟨rfl, gI_m62, fun r5 q5 => ?_⟩
    have e5 := q5
    change r5 = tcc (fun j : Int => s_m62 2 j.toNat % 256) (s_m62 1 1) ((s_m62 149 2)) at e5
    refine fun r6 q6 => ?_
    have b6 := q6
    change (r6 = 0 ∨ r6 = 1) ∧ (r6 = 1 ↔ 97 ≤ r5 ∧ r5 ≤ 122) at b6
    refine ⟨fun h9 => ?_, fun h9 => ?_⟩
    · refine ⟨(show (0 ≤ l ∧ l ≤ 6) ∧ 0 ≤ pa ∧ pa * 32 ^ (6 - l).toNat < 2147483648 from ⟨⟨by omega, by omega⟩, p_m62.2.1, (p5b ⟨by omega, by omega⟩ p_m62.2.2).2.1⟩), fun r7 q7 => ?_⟩
      have e7 := q7
      change r7 = pa * 32 ^ (6 - l).toNat at e7
      refine ⟨rfl, (gInv_up (gInv_up gI_m62 (p_wValue (by omega))) (p_wKind (by omega))), fun s8 q8 => ?_⟩
      obtain ⟨gs8, fs8, o8⟩ := q8
      change (s8 149 3 = 2 ∧ 0 ≤ s8 149 4 ∧ s8 149 4 < 26 ∧ s_m62 150 (s8 149 4 : Int).toNat = r7) ∨ (s8 149 3 = 1 ∧ s8 149 4 = r7 ∧ ∀ j : Int, 0 ≤ j → j < 26 → ¬ (zup (zup s_m62 149 4 r7) 149 3 1) 150 j.toNat = r7) at o8
      have g10 := g_wKind gs8
      have g11 := g_wValue gs8
      have g13 := g_ownW hG (s8 149 4 : Int).toNat
      have e12 : s_m62 150 (s8 149 4 : Int).toNat = st 150 (s8 149 4 : Int).toNat := fI_m62 150 (s8 149 4 : Int).toNat rfl rfl
      have e14 : s8 149 2 = s_m62 149 2 := fs8 149 2 rfl rfl
      exact hQ _ ⟨gs8, (fr_tr (fr_f (fr_f fI_m62 rfl) rfl) fs8 rfl), (show cWrd (fun j : Int => st 2 j.toNat % 256) (st 1 1) (st 149 2) (s8 149 2) (s8 149 3) (s8 149 4) (st 150) from by
            have ea : s8 149 2 = st 149 2 + l := by omega
            have e0 : st 149 2 + l - st 149 2 = l := by omega
            rw [ea]
            refine Or.inr ⟨⟨by omega, r_m62, fun z => ?_⟩, by omega, ?_⟩
            · have z : wle (tcc (fun k => st 2 k.toNat % 256) (st 1 1) (st 149 2 + l)) := z
              unfold wle at z
              omega
            · rw [e0]
              rcases o8 with ⟨k1, k2, k3, k4⟩ | ⟨k1, k2, k3⟩
              · exact Or.inl ⟨k1, k2, k3, by rw [← fI_m62 150 _ rfl rfl, k4, e7, ← p_m62.1]⟩
              · exact Or.inr ⟨k1, by rw [k2, e7, ← p_m62.1], fun j z1 z2 z3 => k3 j z1 z2 (show s_m62 150 j.toNat = r7 from by rw [fI_m62 150 _ rfl rfl, z3, k2])⟩)⟩
    · have g15 := g_wValue gI_m62
      exact hQ _ ⟨(gInv_up (gInv_up gI_m62 (p_wKind (by omega))) (p_wSpot (by omega))), (fr_f (fr_f fI_m62 rfl) rfl), (show cWrd (fun j : Int => st 2 j.toNat % 256) (st 1 1) (st 149 2) (s_m62 149 2) (5) (s_m62 149 4) (st 150) from by
            have z0 : wle (tcc (fun k => st 2 k.toNat % 256) (st 1 1) (st 149 2 + l)) := by unfold wle; omega
            have zl : l = 6 := x_m62.elim id (fun z => absurd z0 z)
            have zn : ¬ wle (tcc (fun k => st 2 k.toNat % 256) (st 1 1) (st 1 1)) := by rw [tcc_out (by omega)]; unfold wle; omega
            have zt := (tcc_le z0).1
            obtain ⟨m, z1, z2⟩ := run_more (P := fun j => wle (tcc (fun k => st 2 k.toNat % 256) (st 1 1) j)) (c := 6) zn r_m62 z0 (by omega) zt.2 (by omega)
            exact Or.inl ⟨m, z1, z2, rfl⟩)⟩
  have lp : ∀ (u : Nat) (pa : Int) (l : Int) (s_lp : zS), gInv zgt s_lp ∧ aFr m_cTakeWord st s_lp ∧ (0 ≤ l ∧ l ≤ 6 ∧ s_lp 149 2 = st 149 2 + l) ∧ (pa = pk5 (fun j : Int => st 2 j.toNat % 256) (st 149 2) (l : Int).toNat ∧ 0 ≤ pa ∧ pa < 32 ^ (l : Int).toNat) ∧ (∀ j : Int, st 149 2 ≤ j → j < st 149 2 + l → wle (tcc (fun j : Int => st 2 j.toNat % 256) (st 1 1) j)) → (6 - l).toNat = u → K (rx_find rx_m298 4) [(2, .inl pa), (1, .inl l), (0, .inr (.inr (.inl 149)))] [] s_lp := by
    intro u
    induction u using Nat.strongRecOn with
    | _ u ih =>
      intro pa l s_lp hi hu
      obtain ⟨gI_lp, fI_lp, i_lp, p_lp, r_lp⟩ := hi
      have ce : ∀ k : Int, tcc (fun k => s_lp 2 k.toNat % 256) (s_lp 1 1) k = tcc (fun k => st 2 k.toNat % 256) (st 1 1) k := fun k => by rw [fI_lp 1 1 rfl rfl]; exact tcc_e (fun j _ _ => by show s_lp 2 j.toNat % 256 = st 2 j.toNat % 256; rw [fI_lp 2 _ rfl rfl]) k
      have cr := tcc_r (st := st) (n := st 1 1) (st 149 2 + l)
      have c1 := ce (s_lp 149 2)
      have ca : s_lp 149 2 = st 149 2 + l := i_lp.2.2
      rw [show tcc (fun k => st 2 k.toNat % 256) (st 1 1) (s_lp 149 2) = tcc (fun k => st 2 k.toNat % 256) (st 1 1) (st 149 2 + l) by rw [ca]] at c1
      have cin : 0 ≤ tcc (fun k => st 2 k.toNat % 256) (st 1 1) (st 149 2 + l) → st 149 2 + l < st 1 1 := fun z => (tcc_nn z).2
      have pb := p5b (l := l) (pa := pa) ⟨i_lp.1, i_lp.2.1⟩ p_lp.2.2
      have g16 := g_wAt gI_lp
      have g17 := g_wAt hG
      have g18 := g_tsize hG
      have e19 : s_lp 1 1 = st 1 1 := fI_lp 1 1 rfl rfl
      refine yr1_ok (Rt := Q) (wc := (wcL [(72, k_cAt), (296, k_cIsLetter), (9, k_cLetNo), (31, k_cFilled), (299, k_cFindOwn)])) (stp := [4, 62]) hcm hcl [] 79 ?_
      show (((6 : Int) ≤ l → K (rx_find rx_m298 62) [(2, .inl pa), (1, .inl l), (0, .inr (.inr (.inl 149)))] [] s_lp) ∧ (¬ ((6 : Int) ≤ l) → (1 = 1 ∧ (rq_cAt (s_lp 149 2) s_lp ∧ (∀ (r20 : Int), en_cAt (s_lp 149 2) s_lp r20 → (∀ (r21 : Int), en_cIsLetter r20 s_lp r21 → ((r21 = (0 : Int) → K (rx_find rx_m298 62) [(2, .inl pa), (1, .inl l), (0, .inr (.inr (.inl 149)))] [] s_lp) ∧ (¬ (r21 = (0 : Int)) → (1 = 1 ∧ (rq_cAt (s_lp 149 2) s_lp ∧ (∀ (r22 : Int), en_cAt (s_lp 149 2) s_lp r22 → (rq_cLetNo r22 s_lp ∧ (∀ (r23 : Int), en_cLetNo r22 s_lp r23 → ((-2147483648 ≤ l + 1 ∧ l + 1 ≤ 2147483647) ∧ ((-2147483648 ≤ (s_lp 149 2) + 1 ∧ (s_lp 149 2) + 1 ≤ 2147483647) ∧ K (rx_find rx_m298 4) [(1, .inl (l + 1)), (2, .inl (zd (Nat.lor (zi (zd ((zi pa * 2 ^ (zi 5 % 32)) % 4294967296))) (zi r23)))), (0, .inr (.inr (.inl 149)))] [] (zup s_lp 149 2 ((s_lp 149 2) + 1)))))))))))))))))
      refine ⟨fun h24 => ?_, fun h24 => ?_⟩
      · exact m62 pa l s_lp ⟨gI_lp, fI_lp, (show 0 ≤ l ∧ l ≤ 6 ∧ s_lp 149 2 = st 149 2 + l from by omega), (show pa = pk5 (fun j : Int => st 2 j.toNat % 256) (st 149 2) (l : Int).toNat ∧ 0 ≤ pa ∧ pa < 32 ^ (l : Int).toNat from p_lp), (show ∀ j : Int, st 149 2 ≤ j → j < st 149 2 + l → wle (tcc (fun j : Int => st 2 j.toNat % 256) (st 1 1) j) from r_lp), (show l = 6 ∨ ¬ wle (tcc (fun j : Int => st 2 j.toNat % 256) (st 1 1) (st 149 2 + l)) from Or.inl (by omega))⟩
      · refine ⟨rfl, gI_lp, fun r20 q20 => ?_⟩
        have e20 := q20
        change r20 = tcc (fun j : Int => s_lp 2 j.toNat % 256) (s_lp 1 1) ((s_lp 149 2)) at e20
        refine fun r21 q21 => ?_
        have b21 := q21
        change (r21 = 0 ∨ r21 = 1) ∧ (r21 = 1 ↔ 97 ≤ r20 ∧ r20 ≤ 122) at b21
        refine ⟨fun h25 => ?_, fun h25 => ?_⟩
        · exact m62 pa l s_lp ⟨gI_lp, fI_lp, (show 0 ≤ l ∧ l ≤ 6 ∧ s_lp 149 2 = st 149 2 + l from by omega), (show pa = pk5 (fun j : Int => st 2 j.toNat % 256) (st 149 2) (l : Int).toNat ∧ 0 ≤ pa ∧ pa < 32 ^ (l : Int).toNat from p_lp), (show ∀ j : Int, st 149 2 ≤ j → j < st 149 2 + l → wle (tcc (fun j : Int => st 2 j.toNat % 256) (st 1 1) j) from r_lp), (show l = 6 ∨ ¬ wle (tcc (fun j : Int => st 2 j.toNat % 256) (st 1 1) (st 149 2 + l)) from Or.inr (by unfold wle; omega))⟩
        · refine ⟨rfl, gI_lp, fun r22 q22 => ?_⟩
          have e22 := q22
          change r22 = tcc (fun j : Int => s_lp 2 j.toNat % 256) (s_lp 1 1) ((s_lp 149 2)) at e22
          refine ⟨(show -1 ≤ r22 ∧ r22 ≤ 255 from by omega), fun r23 q23 => ?_⟩
          have e23 := q23
          change r23 = r22 - 96 at e23
          refine ⟨by omega, ?_⟩
          refine ⟨by omega, ?_⟩
          exact hsl _ _ _ _ _ (sb_cons (.tail _ (.head _)) (sb_cons (.head _) (sb_cons (.tail _ (.tail _ (.head _))) sb_nil))) (ih _ (show (6 - (l + 1) : Int).toNat < u from by omega) (zd (Nat.lor (zi (zd ((zi pa * 2 ^ (zi 5 % 32)) % 4294967296))) (zi r23))) (l + 1) (zup s_lp 149 2 ((s_lp 149 2) + 1)) ⟨(gInv_up gI_lp (p_wAt (by omega))), (fr_f fI_lp rfl), (show 0 ≤ (l + 1) ∧ (l + 1) ≤ 6 ∧ ((s_lp 149 2) + 1) = st 149 2 + (l + 1) from by omega), (show (zd (Nat.lor (zi (zd ((zi pa * 2 ^ (zi 5 % 32)) % 4294967296))) (zi r23))) = pk5 (fun j : Int => st 2 j.toNat % 256) (st 149 2) ((l + 1) : Int).toNat ∧ 0 ≤ (zd (Nat.lor (zi (zd ((zi pa * 2 ^ (zi 5 % 32)) % 4294967296))) (zi r23))) ∧ (zd (Nat.lor (zi (zd ((zi pa * 2 ^ (zi 5 % 32)) % 4294967296))) (zi r23))) < 32 ^ ((l + 1) : Int).toNat from by
            have z0 : wle (tcc (fun k => st 2 k.toNat % 256) (st 1 1) (st 149 2 + l)) := by unfold wle; omega
            have z1 := (tcc_le z0).2
            have z2 := pk5_s (fun k => st 2 k.toNat % 256) (st 149 2) l.toNat
            have z3 := or5 (p := pa) (c := r23) ⟨p_lp.2.1, (p5b ⟨by omega, by omega⟩ p_lp.2.2).1 (by omega)⟩ (by unfold wle at z0; omega)
            have z4 := p5s (l := l) (pa := pa) (c := r23) (by omega) p_lp.2.2 (by unfold wle at z0; omega)
            have z5 : r23 = st 2 (st 149 2 + l : Int).toNat % 256 - 96 := by omega
            rw [show (st 149 2 + ((l.toNat : Nat) : Int)) = st 149 2 + l by omega, ← z5, ← p_lp.1] at z2
            rw [z3]
            exact ⟨by rw [show (l + 1 : Int).toNat = l.toNat + 1 by omega]; exact z2.symm, by have := p_lp.2.1; unfold wle at z0; omega, z4⟩), (show ∀ j : Int, st 149 2 ≤ j → j < st 149 2 + (l + 1) → wle (tcc (fun j : Int => st 2 j.toNat % 256) (st 1 1) j) from fun j z1 z2 => by
            by_cases z3 : j = st 149 2 + l
            · rw [z3]; unfold wle; omega
            · exact r_lp j z1 (by omega))⟩ rfl)
  have g26 := g_wAt hG
  refine yr1_ok (Rt := Q) (wc := (wcL [(72, k_cAt), (296, k_cIsLetter), (9, k_cLetNo), (31, k_cFilled), (299, k_cFindOwn)])) (stp := [4, 62]) hcm hcl [] 79 ?_
  show K (rx_find rx_m298 4) [(2, .inl 0), (1, .inl 0), (0, .inr (.inr (.inl 149)))] [] st
  have g27 := g_tsize hG
  exact lp _ 0 0 st ⟨hG, (fr_rf _ _), (show 0 ≤ (0 : Int) ∧ (0 : Int) ≤ 6 ∧ st 149 2 = st 149 2 + (0 : Int) from by omega), (show (0 : Int) = pk5 (fun j : Int => st 2 j.toNat % 256) (st 149 2) ((0 : Int) : Int).toNat ∧ 0 ≤ (0 : Int) ∧ (0 : Int) < 32 ^ ((0 : Int) : Int).toNat from ⟨rfl, by decide, by decide⟩), (show ∀ j : Int, st 149 2 ≤ j → j < st 149 2 + (0 : Int) → wle (tcc (fun j : Int => st 2 j.toNat % 256) (st 1 1) j) from fun j z1 z2 => by omega)⟩ rfl
theorem k_cTakeWord_m (hTb : aTb zSh rx_tb cl) {D : Nat} (hD : 2 ≤ D) : ∀ as st (Q Q' : zQ), (∀ r st', Q r st' → Q' r st') → k_cTakeWord 298 as st Q → cl D 298 as st Q' := by
  intro as st Q Q' hQ h
  unfold k_cTakeWord at h
  split at h
  · obtain ⟨rfl, h⟩ := h
    exact c_cTakeWord hTb hD (ct_cTakeWord_m hQ h)
  · exact h.elim
set_option maxHeartbeats 40000000 in
set_option maxRecDepth 100000 in
theorem c_cTakeNumber (hTb : aTb zSh rx_tb cl) {D : Nat} (hD : 2 ≤ D) {st : zS} {Q : zQ} (h : ct_cTakeNumber  st Q) : cl D 300 [.inr (.inr (.inl 149))] st Q := by
  obtain ⟨d, rfl⟩ : ∃ d, D = d + 1 := ⟨D - 1, by omega⟩
  refine hTb d 300 (rx_m300, 3, 0, 0, 0) rfl _ _ _ (Nat.le_of_ble_eq_true rfl) (fun K hcl hsf hsl => ?_)
  have hcm : zmo (wcL [(72, k_cAt), (297, k_cIsDigit)]) (cl d) := (wcL_m (wm_cons (k_cAt_m hTb (by omega)) (wm_cons (k_cIsDigit_m hTb (by omega)) wm_nil)))
  obtain ⟨hR, hQ⟩ := h
  obtain ⟨hG, q⟩ := hR
  change wdi (tcc (fun j : Int => st 2 j.toNat % 256) (st 1 1) (st 149 2)) at q
  have m62 : ∀ (pa : Int) (l : Int) (s_m62 : zS), gInv zgt s_m62 ∧ aFr m_cTakeNumber st s_m62 ∧ (0 ≤ l ∧ l ≤ 4 ∧ s_m62 149 2 = st 149 2 + l) ∧ (pa = pkd (fun j : Int => st 2 j.toNat % 256) (st 149 2) (l : Int).toNat ∧ 0 ≤ pa ∧ pa < 10 ^ (l : Int).toNat) ∧ (∀ j : Int, st 149 2 ≤ j → j < st 149 2 + l → wdi (tcc (fun j : Int => st 2 j.toNat % 256) (st 1 1) j)) ∧ (l = 4 ∨ ¬ wdi (tcc (fun j : Int => st 2 j.toNat % 256) (st 1 1) (st 149 2 + l))) → K (rx_find rx_m300 62) [(2, .inl pa), (1, .inl l), (0, .inr (.inr (.inl 149)))] [] s_m62 := by
    intro pa l s_m62 hi
    obtain ⟨gI_m62, fI_m62, i_m62, p_m62, r_m62, x_m62⟩ := hi
    have ce : ∀ k : Int, tcc (fun k => s_m62 2 k.toNat % 256) (s_m62 1 1) k = tcc (fun k => st 2 k.toNat % 256) (st 1 1) k := fun k => by rw [fI_m62 1 1 rfl rfl]; exact tcc_e (fun j _ _ => by show s_m62 2 j.toNat % 256 = st 2 j.toNat % 256; rw [fI_m62 2 _ rfl rfl]) k
    have cr := tcc_r (st := st) (n := st 1 1) (st 149 2 + l)
    have c1 := ce (s_m62 149 2)
    have ca : s_m62 149 2 = st 149 2 + l := i_m62.2.2
    rw [show tcc (fun k => st 2 k.toNat % 256) (st 1 1) (s_m62 149 2) = tcc (fun k => st 2 k.toNat % 256) (st 1 1) (st 149 2 + l) by rw [ca]] at c1
    have cin : 0 ≤ tcc (fun k => st 2 k.toNat % 256) (st 1 1) (st 149 2 + l) → st 149 2 + l < st 1 1 := fun z => (tcc_nn z).2
    have pf := d10b (l := l) (pa := pa) ⟨i_m62.1, i_m62.2.1⟩ p_m62.2.2
    have g1 := g_wAt gI_m62
    have g2 := g_wAt hG
    have g3 := g_tsize hG
    have e4 : s_m62 1 1 = st 1 1 := fI_m62 1 1 rfl rfl
    refine yr1_ok (Rt := Q) (wc := (wcL [(72, k_cAt), (297, k_cIsDigit)])) (stp := [62]) hcm hcl [] 76 ?_
    show (1 = 1 ∧ (rq_cAt (s_m62 149 2) s_m62 ∧ (∀ (r5 : Int), en_cAt (s_m62 149 2) s_m62 r5 → (∀ (r6 : Int), en_cIsDigit r5 s_m62 r6 → ((r6 = (0 : Int) → Q none (zup (zup s_m62 149 3 3) 149 4 pa)) ∧ (¬ (r6 = (0 : Int)) → Q none (zup (zup s_m62 149 3 5) 149 6 (s_m62 149 2))))))))
    refine ⟨rfl, gI_m62, fun r5 q5 => ?_⟩
    have e5 := q5
    change r5 = tcc (fun j : Int => s_m62 2 j.toNat % 256) (s_m62 1 1) ((s_m62 149 2)) at e5
    refine fun r6 q6 => ?_
    have b6 := q6
    change (r6 = 0 ∨ r6 = 1) ∧ (r6 = 1 ↔ 48 ≤ r5 ∧ r5 ≤ 57) at b6
    refine ⟨fun h7 => ?_, fun h7 => ?_⟩
    · exact hQ _ ⟨(gInv_up (gInv_up gI_m62 (p_wKind (by omega))) (p_wValue (by omega))), (fr_f (fr_f fI_m62 rfl) rfl), (show cNum (fun j : Int => st 2 j.toNat % 256) (st 1 1) (st 149 2) (s_m62 149 2) (3) (pa) from by
            have ea : s_m62 149 2 = st 149 2 + l := by omega
            have e0 : st 149 2 + l - st 149 2 = l := by omega
            rw [ea]
            refine Or.inr ⟨⟨by omega, r_m62, fun z => ?_⟩, by omega, rfl, ?_⟩
            · have z : wdi (tcc (fun k => st 2 k.toNat % 256) (st 1 1) (st 149 2 + l)) := z
              unfold wdi at z
              omega
            · rw [e0]; exact p_m62.1)⟩
    · have g8 := g_wValue gI_m62
      exact hQ _ ⟨(gInv_up (gInv_up gI_m62 (p_wKind (by omega))) (p_wSpot (by omega))), (fr_f (fr_f fI_m62 rfl) rfl), (show cNum (fun j : Int => st 2 j.toNat % 256) (st 1 1) (st 149 2) (s_m62 149 2) (5) (s_m62 149 4) from by
            have z0 : wdi (tcc (fun k => st 2 k.toNat % 256) (st 1 1) (st 149 2 + l)) := by unfold wdi; omega
            have zl : l = 4 := x_m62.elim id (fun z => absurd z0 z)
            have zn : ¬ wdi (tcc (fun k => st 2 k.toNat % 256) (st 1 1) (st 1 1)) := by rw [tcc_out (by omega)]; unfold wdi; omega
            have zt := (tcc_di z0).1
            obtain ⟨m, z1, z2⟩ := run_more (P := fun j => wdi (tcc (fun k => st 2 k.toNat % 256) (st 1 1) j)) (c := 4) zn r_m62 z0 (by omega) zt.2 (by omega)
            exact Or.inl ⟨m, z1, z2, rfl⟩)⟩
  have lp : ∀ (u : Nat) (pa : Int) (l : Int) (s_lp : zS), gInv zgt s_lp ∧ aFr m_cTakeNumber st s_lp ∧ (0 ≤ l ∧ l ≤ 4 ∧ s_lp 149 2 = st 149 2 + l) ∧ (pa = pkd (fun j : Int => st 2 j.toNat % 256) (st 149 2) (l : Int).toNat ∧ 0 ≤ pa ∧ pa < 10 ^ (l : Int).toNat) ∧ (∀ j : Int, st 149 2 ≤ j → j < st 149 2 + l → wdi (tcc (fun j : Int => st 2 j.toNat % 256) (st 1 1) j)) → (4 - l).toNat = u → K (rx_find rx_m300 4) [(2, .inl pa), (1, .inl l), (0, .inr (.inr (.inl 149)))] [] s_lp := by
    intro u
    induction u using Nat.strongRecOn with
    | _ u ih =>
      intro pa l s_lp hi hu
      obtain ⟨gI_lp, fI_lp, i_lp, p_lp, r_lp⟩ := hi
      have ce : ∀ k : Int, tcc (fun k => s_lp 2 k.toNat % 256) (s_lp 1 1) k = tcc (fun k => st 2 k.toNat % 256) (st 1 1) k := fun k => by rw [fI_lp 1 1 rfl rfl]; exact tcc_e (fun j _ _ => by show s_lp 2 j.toNat % 256 = st 2 j.toNat % 256; rw [fI_lp 2 _ rfl rfl]) k
      have cr := tcc_r (st := st) (n := st 1 1) (st 149 2 + l)
      have c1 := ce (s_lp 149 2)
      have ca : s_lp 149 2 = st 149 2 + l := i_lp.2.2
      rw [show tcc (fun k => st 2 k.toNat % 256) (st 1 1) (s_lp 149 2) = tcc (fun k => st 2 k.toNat % 256) (st 1 1) (st 149 2 + l) by rw [ca]] at c1
      have cin : 0 ≤ tcc (fun k => st 2 k.toNat % 256) (st 1 1) (st 149 2 + l) → st 149 2 + l < st 1 1 := fun z => (tcc_nn z).2
      have pb := d10b (l := l) (pa := pa) ⟨i_lp.1, i_lp.2.1⟩ p_lp.2.2
      have g9 := g_wAt gI_lp
      have g10 := g_wAt hG
      have g11 := g_tsize hG
      have e12 : s_lp 1 1 = st 1 1 := fI_lp 1 1 rfl rfl
      refine yr1_ok (Rt := Q) (wc := (wcL [(72, k_cAt), (297, k_cIsDigit)])) (stp := [4, 62]) hcm hcl [] 76 ?_
      show (((4 : Int) ≤ l → K (rx_find rx_m300 62) [(2, .inl pa), (1, .inl l), (0, .inr (.inr (.inl 149)))] [] s_lp) ∧ (¬ ((4 : Int) ≤ l) → (1 = 1 ∧ (rq_cAt (s_lp 149 2) s_lp ∧ (∀ (r13 : Int), en_cAt (s_lp 149 2) s_lp r13 → (∀ (r14 : Int), en_cIsDigit r13 s_lp r14 → ((r14 = (0 : Int) → K (rx_find rx_m300 62) [(2, .inl pa), (1, .inl l), (0, .inr (.inr (.inl 149)))] [] s_lp) ∧ (¬ (r14 = (0 : Int)) → ((-2147483648 ≤ pa * 10 ∧ pa * 10 ≤ 2147483647) ∧ (1 = 1 ∧ (rq_cAt (s_lp 149 2) s_lp ∧ (∀ (r15 : Int), en_cAt (s_lp 149 2) s_lp r15 → ((-2147483648 ≤ (pa * 10) + r15 ∧ (pa * 10) + r15 ≤ 2147483647) ∧ ((-2147483648 ≤ ((pa * 10) + r15) - 48 ∧ ((pa * 10) + r15) - 48 ≤ 2147483647) ∧ ((-2147483648 ≤ l + 1 ∧ l + 1 ≤ 2147483647) ∧ ((-2147483648 ≤ (s_lp 149 2) + 1 ∧ (s_lp 149 2) + 1 ≤ 2147483647) ∧ K (rx_find rx_m300 4) [(1, .inl (l + 1)), (2, .inl (((pa * 10) + r15) - 48)), (0, .inr (.inr (.inl 149)))] [] (zup s_lp 149 2 ((s_lp 149 2) + 1))))))))))))))))))
      refine ⟨fun h16 => ?_, fun h16 => ?_⟩
      · exact m62 pa l s_lp ⟨gI_lp, fI_lp, (show 0 ≤ l ∧ l ≤ 4 ∧ s_lp 149 2 = st 149 2 + l from by omega), (show pa = pkd (fun j : Int => st 2 j.toNat % 256) (st 149 2) (l : Int).toNat ∧ 0 ≤ pa ∧ pa < 10 ^ (l : Int).toNat from p_lp), (show ∀ j : Int, st 149 2 ≤ j → j < st 149 2 + l → wdi (tcc (fun j : Int => st 2 j.toNat % 256) (st 1 1) j) from r_lp), (show l = 4 ∨ ¬ wdi (tcc (fun j : Int => st 2 j.toNat % 256) (st 1 1) (st 149 2 + l)) from Or.inl (by omega))⟩
      · refine ⟨rfl, gI_lp, fun r13 q13 => ?_⟩
        have e13 := q13
        change r13 = tcc (fun j : Int => s_lp 2 j.toNat % 256) (s_lp 1 1) ((s_lp 149 2)) at e13
        refine fun r14 q14 => ?_
        have b14 := q14
        change (r14 = 0 ∨ r14 = 1) ∧ (r14 = 1 ↔ 48 ≤ r13 ∧ r13 ≤ 57) at b14
        refine ⟨fun h17 => ?_, fun h17 => ?_⟩
        · exact m62 pa l s_lp ⟨gI_lp, fI_lp, (show 0 ≤ l ∧ l ≤ 4 ∧ s_lp 149 2 = st 149 2 + l from by omega), (show pa = pkd (fun j : Int => st 2 j.toNat % 256) (st 149 2) (l : Int).toNat ∧ 0 ≤ pa ∧ pa < 10 ^ (l : Int).toNat from p_lp), (show ∀ j : Int, st 149 2 ≤ j → j < st 149 2 + l → wdi (tcc (fun j : Int => st 2 j.toNat % 256) (st 1 1) j) from r_lp), (show l = 4 ∨ ¬ wdi (tcc (fun j : Int => st 2 j.toNat % 256) (st 1 1) (st 149 2 + l)) from Or.inr (by unfold wdi; omega))⟩
        · refine ⟨by omega, ?_⟩
          refine ⟨rfl, gI_lp, fun r15 q15 => ?_⟩
          have e15 := q15
          change r15 = tcc (fun j : Int => s_lp 2 j.toNat % 256) (s_lp 1 1) ((s_lp 149 2)) at e15
          refine ⟨by omega, ?_⟩
          refine ⟨by omega, ?_⟩
          refine ⟨by omega, ?_⟩
          refine ⟨by omega, ?_⟩
          exact hsl _ _ _ _ _ (sb_cons (.tail _ (.head _)) (sb_cons (.head _) (sb_cons (.tail _ (.tail _ (.head _))) sb_nil))) (ih _ (show (4 - (l + 1) : Int).toNat < u from by omega) (((pa * 10) + r15) - 48) (l + 1) (zup s_lp 149 2 ((s_lp 149 2) + 1)) ⟨(gInv_up gI_lp (p_wAt (by omega))), (fr_f fI_lp rfl), (show 0 ≤ (l + 1) ∧ (l + 1) ≤ 4 ∧ ((s_lp 149 2) + 1) = st 149 2 + (l + 1) from by omega), (show (((pa * 10) + r15) - 48) = pkd (fun j : Int => st 2 j.toNat % 256) (st 149 2) ((l + 1) : Int).toNat ∧ 0 ≤ (((pa * 10) + r15) - 48) ∧ (((pa * 10) + r15) - 48) < 10 ^ ((l + 1) : Int).toNat from by
            have z0 : wdi (tcc (fun k => st 2 k.toNat % 256) (st 1 1) (st 149 2 + l)) := by unfold wdi; omega
            have z1 := (tcc_di z0).2
            have z2 := pkd_s (fun k => st 2 k.toNat % 256) (st 149 2) l.toNat
            have z5 : r15 = st 2 (st 149 2 + l : Int).toNat % 256 := by omega
            rw [show (st 149 2 + ((l.toNat : Nat) : Int)) = st 149 2 + l by omega, ← z5, ← p_lp.1] at z2
            have z4 := d10s (l := l) (pa := pa) (c := r15 - 48) (by omega) p_lp.2.2 (by unfold wdi at z0; omega)
            exact ⟨by rw [show (l + 1 : Int).toNat = l.toNat + 1 by omega]; rw [z2]; omega, by have := p_lp.2.1; unfold wdi at z0; omega, by omega⟩), (show ∀ j : Int, st 149 2 ≤ j → j < st 149 2 + (l + 1) → wdi (tcc (fun j : Int => st 2 j.toNat % 256) (st 1 1) j) from fun j z1 z2 => by
            by_cases z3 : j = st 149 2 + l
            · rw [z3]; unfold wdi; omega
            · exact r_lp j z1 (by omega))⟩ rfl)
  have g18 := g_wAt hG
  refine yr1_ok (Rt := Q) (wc := (wcL [(72, k_cAt), (297, k_cIsDigit)])) (stp := [4, 62]) hcm hcl [] 76 ?_
  show K (rx_find rx_m300 4) [(2, .inl 0), (1, .inl 0), (0, .inr (.inr (.inl 149)))] [] st
  have g19 := g_tsize hG
  exact lp _ 0 0 st ⟨hG, (fr_rf _ _), (show 0 ≤ (0 : Int) ∧ (0 : Int) ≤ 4 ∧ st 149 2 = st 149 2 + (0 : Int) from by omega), (show (0 : Int) = pkd (fun j : Int => st 2 j.toNat % 256) (st 149 2) ((0 : Int) : Int).toNat ∧ 0 ≤ (0 : Int) ∧ (0 : Int) < 10 ^ ((0 : Int) : Int).toNat from ⟨rfl, by decide, by decide⟩), (show ∀ j : Int, st 149 2 ≤ j → j < st 149 2 + (0 : Int) → wdi (tcc (fun j : Int => st 2 j.toNat % 256) (st 1 1) j) from fun j z1 z2 => by omega)⟩ rfl
theorem k_cTakeNumber_m (hTb : aTb zSh rx_tb cl) {D : Nat} (hD : 2 ≤ D) : ∀ as st (Q Q' : zQ), (∀ r st', Q r st' → Q' r st') → k_cTakeNumber 300 as st Q → cl D 300 as st Q' := by
  intro as st Q Q' hQ h
  unfold k_cTakeNumber at h
  split at h
  · obtain ⟨rfl, h⟩ := h
    exact c_cTakeNumber hTb hD (ct_cTakeNumber_m hQ h)
  · exact h.elim
end R93
