/-! printed by wip/p32/liby.py: the reference's next token -/
def m_rAhead : aM := ([(170, 3), (170, 4), (170, 5), (170, 6), (170, 7), (170, 12)], [])
def rq_rAhead  (st : zS) : Prop := gInv zgt st ∧ (st 170 5 ≤ st 170 2)
def en_rAhead  (st : zS) (s1 : zS) : Prop := gInv zgt s1 ∧ aFr m_rAhead st s1 ∧ (∃ k v s e : Int, TK (fun k => st 171 k.toNat) (st 170 2) (st 170 5) k v s e ∧ RW (s1 170 3) (s1 170 6) (s1 170 7) (s1 170 4) (s1 170 5) (s1 170 12) k v s e)
def ct_rAhead  (st : zS) (Q : zQ) : Prop := rq_rAhead  st ∧ (∀ (s1 : zS), en_rAhead  st s1 → Q none s1)
theorem ct_rAhead_m {st : zS} {Q Q' : zQ} (hQ : ∀ r st', Q r st' → Q' r st') (h : ct_rAhead  st Q) : ct_rAhead  st Q' := ⟨h.1, fun x0 x1 => hQ _ _ (h.2 x0 x1)⟩
def k_rAhead : zCall := fun _ as st Q => match as with
  | [.inr (.inr (.inl z_o))] => z_o = 170 ∧ ct_rAhead  st Q
  | _ => False
theorem k_rAhead_mon : zmon k_rAhead := by
  intro nu as st Q Q' hQ h
  unfold k_rAhead at h ⊢
  split at h
  · exact ⟨h.1, ct_rAhead_m hQ h.2⟩
  · exact h.elim
section R97
variable {cl : Nat → zCall}
set_option maxHeartbeats 40000000 in
set_option maxRecDepth 100000 in
theorem c_rAhead (hTb : aTb zSh rx_tb cl) {D : Nat} (hD : 2 ≤ D) {st : zS} {Q : zQ} (h : ct_rAhead  st Q) : cl D 149 [.inr (.inr (.inl 170))] st Q := by
  obtain ⟨d, rfl⟩ : ∃ d, D = d + 1 := ⟨D - 1, by omega⟩
  refine hTb d 149 (rx_m149, 6, 0, 0, 0) rfl _ _ _ (Nat.le_of_ble_eq_true rfl) (fun K hcl hsf hsl => ?_)
  have hcm : zmo (wcL [(179, k_isLetter), (180, k_isDigit)]) (cl d) := (wcL_m (wm_cons (k_isLetter_m hTb (by omega)) (wm_cons (k_isDigit_m hTb (by omega)) wm_nil)))
  obtain ⟨hR, hQ⟩ := h
  obtain ⟨hG, le⟩ := hR
  change st 170 5 ≤ st 170 2 at le
  have lb : ∀ (u : Nat) (ax : Int) (le : Int) (di : Int) (mo : Int) (n : Int) (s_lb : zS), gInv zgt s_lb ∧ aFr m_rAhead st s_lb ∧ (ax ≤ st 170 2 ∧ n = ax - s_lb 170 4 ∧ 0 ≤ n ∧ ((le = 1 ∧ di = 0 ∧ mo = 6) ∨ (le = 0 ∧ di = 1 ∧ mo = 4))) ∧ (mo = mof le) ∧ (SGd le (s_lb 170 3)) ∧ (wrn (fun j => wbl (tcc (fun k => st 171 k.toNat) (st 170 2) j)) (st 170 5) (s_lb 170 4)) ∧ (RLn (fun k => st 171 k.toNat) (st 170 2) (s_lb 170 4) ax le (s_lb 170 7) (s_lb 170 6) (s_lb 170 12)) → (st 170 2 - ax).toNat = u → K (rx_find rx_m149 204) [(0, .inr (.inr (.inl 170))), (1, .inl ax), (2, .inl le), (3, .inl di), (4, .inl mo), (5, .inl n)] [] s_lb := by
    intro u_lb
    induction u_lb using Nat.strongRecOn with
    | _ u_lb ih_lb =>
      intro ax le di mo n s_lb hi hu_lb
      obtain ⟨gI_lb, fI_lb, b_lb, mf_lb, sgd_lb, w_lb, R_lb⟩ := hi
      have g1 := g_size hG
      have g2 := g_signAt gI_lb
      have g3 := g_sign gI_lb
      have g4 := g_signEnd hG
      have g5 := g_word gI_lb
      have g6 := g_value gI_lb
      have g7 := g_lexAt gI_lb
      have m325 : ∀ (s_m325 : zS), gInv zgt s_m325 ∧ aFr m_rAhead st s_m325 ∧ (s_m325 170 4 = s_lb 170 4) ∧ (s_m325 170 3 = s_lb 170 3) ∧ (LQd n mo (s_lb 170 12) (s_m325 170 12) ax) ∧ (WQd n mo le (s_lb 170 7) (s_m325 170 7) (st 171 (ax : Int).toNat)) ∧ (VQd n mo le (s_lb 170 6) (s_m325 170 6) (st 171 (ax : Int).toNat)) ∧ (ax < st 170 2) ∧ (CHd le (st 171 (ax : Int).toNat)) → K (rx_find rx_m149 325) [(0, .inr (.inr (.inl 170))), (1, .inl ax), (2, .inl le), (3, .inl di), (4, .inl mo), (5, .inl n)] [] s_m325 := by
        intro  s_m325 hi
        obtain ⟨gI_m325, fI_m325, sa_m325, sg_m325, lq_m325, wq_m325, vq_m325, cx_m325, c_m325⟩ := hi
        have g8 := g_signAt gI_m325
        have g9 := g_sign gI_m325
        have g10 := g_lexAt gI_m325
        have g11 := g_word gI_m325
        have g12 := g_tape hG (ax : Int).toNat
        have g13 := g_value gI_m325
        have g14 := g_size hG
        refine yr1_ok (Rt := Q) (wc := (wcL [(179, k_isLetter), (180, k_isDigit)])) (stp := [204, 325]) hcm hcl [] 206 ?_
        show ((-2147483648 ≤ n + 1 ∧ n + 1 ≤ 2147483647) ∧ ((-2147483648 ≤ ax + 1 ∧ ax + 1 ≤ 2147483647) ∧ K (rx_find rx_m149 204) [(1, .inl (ax + 1)), (5, .inl (n + 1)), (0, .inr (.inr (.inl 170))), (2, .inl le), (3, .inl di), (4, .inl mo)] [] s_m325))
        refine ⟨by omega, ?_⟩
        refine ⟨by omega, ?_⟩
        have g15 := g_signEnd hG
        exact hsl _ _ _ _ _ (sb_cons (.tail _ (.tail _ (.head _))) (sb_cons (.head _) (sb_cons (.tail _ (.tail _ (.tail _ (.head _)))) (sb_cons (.tail _ (.tail _ (.tail _ (.tail _ (.head _))))) (sb_cons (.tail _ (.tail _ (.tail _ (.tail _ (.tail _ (.head _)))))) (sb_cons (.tail _ (.head _)) sb_nil)))))) (ih_lb _ (show (st 170 2 - (ax + 1) : Int).toNat < u_lb from by omega) (ax + 1) le di mo (n + 1) s_m325 ⟨gI_m325, fI_m325, (show (ax + 1) ≤ st 170 2 ∧ (n + 1) = (ax + 1) - s_m325 170 4 ∧ 0 ≤ (n + 1) ∧ ((le = 1 ∧ di = 0 ∧ mo = 6) ∨ (le = 0 ∧ di = 1 ∧ mo = 4)) from by omega), (show mo = mof le from mf_lb), (show SGd le (s_m325 170 3) from by
            rw [sg_m325]
            exact sgd_lb), (show wrn (fun j => wbl (tcc (fun k => st 171 k.toNat) (st 170 2) j)) (st 170 5) (s_m325 170 4) from by
            rw [sa_m325]
            exact w_lb), (show RLn (fun k => st 171 k.toNat) (st 170 2) (s_m325 170 4) (ax + 1) le (s_m325 170 7) (s_m325 170 6) (s_m325 170 12) from by
            rw [sa_m325]
            exact RLn_s R_lb cx_m325 c_m325 ⟨fun z => lq_m325.1 ⟨by rw [mf_lb, ← z.1]; omega, z.2⟩, fun z => lq_m325.2 (fun z2 => z ⟨by rw [← mf_lb, ← z2.1]; omega, z2.2⟩)⟩ (fun z z2 => wq_m325 (by rw [mf_lb]; omega) z2) (fun z z2 => vq_m325 (by rw [mf_lb]; omega) z2))⟩ rfl)
      have m293 : ∀ (s_m293 : zS), gInv zgt s_m293 ∧ aFr m_rAhead st s_m293 ∧ (s_m293 170 4 = s_lb 170 4) ∧ (s_m293 170 3 = s_lb 170 3) ∧ (s_m293 170 6 = s_lb 170 6) ∧ (LQd n mo (s_lb 170 12) (s_m293 170 12) ax) ∧ (WQd n mo le (s_lb 170 7) (s_m293 170 7) (st 171 (ax : Int).toNat)) ∧ (ax < st 170 2) ∧ (CHd le (st 171 (ax : Int).toNat)) → K (rx_find rx_m149 293) [(0, .inr (.inr (.inl 170))), (1, .inl ax), (2, .inl le), (3, .inl di), (4, .inl mo), (5, .inl n)] [] s_m293 := by
        intro  s_m293 hi
        obtain ⟨gI_m293, fI_m293, sa_m293, sg_m293, vl_m293, lq_m293, wq_m293, cx_m293, c_m293⟩ := hi
        have g16 := g_signAt gI_m293
        have g17 := g_sign gI_m293
        have g18 := g_value gI_m293
        have g19 := g_lexAt gI_m293
        have g20 := g_word gI_m293
        have g21 := g_tape hG (ax : Int).toNat
        have g22 := g_size hG
        refine yr1_ok (Rt := Q) (wc := (wcL [(179, k_isLetter), (180, k_isDigit)])) (stp := [204, 293, 325]) hcm hcl [] 206 ?_
        show ((mo ≤ n → K (rx_find rx_m149 325) [(0, .inr (.inr (.inl 170))), (1, .inl ax), (2, .inl le), (3, .inl di), (4, .inl mo), (5, .inl n)] [] s_m293) ∧ (¬ (mo ≤ n) → ((di = (0 : Int) → K (rx_find rx_m149 325) [(0, .inr (.inr (.inl 170))), (1, .inl ax), (2, .inl le), (3, .inl di), (4, .inl mo), (5, .inl n)] [] s_m293) ∧ (¬ (di = (0 : Int)) → ((-2147483648 ≤ (10 : Int) * (s_m293 170 6) ∧ (10 : Int) * (s_m293 170 6) ≤ 2147483647) ∧ ((0 ≤ ax ∧ ax < 1800) ∧ ((-2147483648 ≤ ((10 : Int) * (s_m293 170 6)) + (s_m293 171 (ax : Int).toNat) ∧ ((10 : Int) * (s_m293 170 6)) + (s_m293 171 (ax : Int).toNat) ≤ 2147483647) ∧ ((-2147483648 ≤ (((10 : Int) * (s_m293 170 6)) + (s_m293 171 (ax : Int).toNat)) - 48 ∧ (((10 : Int) * (s_m293 170 6)) + (s_m293 171 (ax : Int).toNat)) - 48 ≤ 2147483647) ∧ K (rx_find rx_m149 325) [(0, .inr (.inr (.inl 170))), (1, .inl ax), (2, .inl le), (3, .inl di), (4, .inl mo), (5, .inl n)] [] (zup s_m293 170 6 ((((10 : Int) * (s_m293 170 6)) + (s_m293 171 (ax : Int).toNat)) - 48))))))))))
        refine ⟨fun h23 => ?_, fun h23 => ?_⟩
        · exact m325 s_m293 ⟨gI_m293, fI_m293, (show s_m293 170 4 = s_lb 170 4 from by omega), (show s_m293 170 3 = s_lb 170 3 from by omega), (show LQd n mo (s_lb 170 12) (s_m293 170 12) ax from lq_m293), (show WQd n mo le (s_lb 170 7) (s_m293 170 7) (st 171 (ax : Int).toNat) from wq_m293), (show VQd n mo le (s_lb 170 6) (s_m293 170 6) (st 171 (ax : Int).toNat) from by unfold VQd; intro z1 z2; omega), (show ax < st 170 2 from by omega), (show CHd le (st 171 (ax : Int).toNat) from c_m293)⟩
        · refine ⟨fun h24 => ?_, fun h24 => ?_⟩
          · exact m325 s_m293 ⟨gI_m293, fI_m293, (show s_m293 170 4 = s_lb 170 4 from by omega), (show s_m293 170 3 = s_lb 170 3 from by omega), (show LQd n mo (s_lb 170 12) (s_m293 170 12) ax from lq_m293), (show WQd n mo le (s_lb 170 7) (s_m293 170 7) (st 171 (ax : Int).toNat) from wq_m293), (show VQd n mo le (s_lb 170 6) (s_m293 170 6) (st 171 (ax : Int).toNat) from by unfold VQd; intro z1 z2; omega), (show ax < st 170 2 from by omega), (show CHd le (st 171 (ax : Int).toNat) from c_m293)⟩
          · refine ⟨by have rb := (RLn_b R_lb).2 (by omega) (by omega); omega, ?_⟩
            have e25 : s_m293 171 (ax : Int).toNat = st 171 (ax : Int).toNat := fI_m293 171 (ax : Int).toNat rfl rfl
            refine ⟨by omega, ?_⟩
            refine ⟨by have rb := (RLn_b R_lb).2 (by omega) (by omega); omega, ?_⟩
            refine ⟨by have rb := (RLn_b R_lb).2 (by omega) (by omega); omega, ?_⟩
            exact m325 (zup s_m293 170 6 ((((10 : Int) * (s_m293 170 6)) + (s_m293 171 (ax : Int).toNat)) - 48)) ⟨(gInv_up gI_m293 (p_value (by have rb := (RLn_b R_lb).2 (by omega) (by omega); omega))), (fr_f fI_m293 rfl), (show s_m293 170 4 = s_lb 170 4 from by omega), (show s_m293 170 3 = s_lb 170 3 from by omega), (show LQd n mo (s_lb 170 12) (s_m293 170 12) ax from lq_m293), (show WQd n mo le (s_lb 170 7) (s_m293 170 7) (st 171 (ax : Int).toNat) from wq_m293), (show VQd n mo le (s_lb 170 6) (((((10 : Int) * (s_m293 170 6)) + (s_m293 171 (ax : Int).toNat)) - 48)) (st 171 (ax : Int).toNat) from by unfold VQd; intro z1 z2; omega), (show ax < st 170 2 from by omega), (show CHd le (st 171 (ax : Int).toNat) from c_m293)⟩
      have m263 : ∀ (s_m263 : zS), gInv zgt s_m263 ∧ aFr m_rAhead st s_m263 ∧ (s_m263 170 4 = s_lb 170 4) ∧ (s_m263 170 3 = s_lb 170 3) ∧ (s_m263 170 6 = s_lb 170 6) ∧ (s_m263 170 7 = s_lb 170 7) ∧ (LQd n mo (s_lb 170 12) (s_m263 170 12) ax) ∧ (ax < st 170 2) ∧ (CHd le (st 171 (ax : Int).toNat)) → K (rx_find rx_m149 263) [(0, .inr (.inr (.inl 170))), (1, .inl ax), (2, .inl le), (3, .inl di), (4, .inl mo), (5, .inl n)] [] s_m263 := by
        intro  s_m263 hi
        obtain ⟨gI_m263, fI_m263, sa_m263, sg_m263, vl_m263, wd_m263, lq_m263, cx_m263, c_m263⟩ := hi
        have g26 := g_signAt gI_m263
        have g27 := g_sign gI_m263
        have g28 := g_value gI_m263
        have g29 := g_word gI_m263
        have g30 := g_lexAt gI_m263
        have g31 := g_size hG
        have g32 := g_tape hG (ax : Int).toNat
        refine yr1_ok (Rt := Q) (wc := (wcL [(179, k_isLetter), (180, k_isDigit)])) (stp := [204, 263, 293, 325]) hcm hcl [] 206 ?_
        show ((mo ≤ n → K (rx_find rx_m149 293) [(0, .inr (.inr (.inl 170))), (1, .inl ax), (2, .inl le), (3, .inl di), (4, .inl mo), (5, .inl n)] [] s_m263) ∧ (¬ (mo ≤ n) → ((le = (0 : Int) → K (rx_find rx_m149 293) [(0, .inr (.inr (.inl 170))), (1, .inl ax), (2, .inl le), (3, .inl di), (4, .inl mo), (5, .inl n)] [] s_m263) ∧ (¬ (le = (0 : Int)) → ((0 ≤ ax ∧ ax < 1800) ∧ K (rx_find rx_m149 293) [(0, .inr (.inr (.inl 170))), (1, .inl ax), (2, .inl le), (3, .inl di), (4, .inl mo), (5, .inl n)] [] (zup s_m263 170 7 (ze (Nat.lor (zl (ze ((zl (s_m263 170 7) * 2 ^ (zi 8 % 64)) % 18446744073709551616))) (zl (s_m263 171 (ax : Int).toNat))))))))))
        refine ⟨fun h33 => ?_, fun h33 => ?_⟩
        · exact m293 s_m263 ⟨gI_m263, fI_m263, (show s_m263 170 4 = s_lb 170 4 from by omega), (show s_m263 170 3 = s_lb 170 3 from by omega), (show s_m263 170 6 = s_lb 170 6 from by omega), (show LQd n mo (s_lb 170 12) (s_m263 170 12) ax from lq_m263), (show WQd n mo le (s_lb 170 7) (s_m263 170 7) (st 171 (ax : Int).toNat) from by unfold WQd; intro z1 z2; omega), (show ax < st 170 2 from by omega), (show CHd le (st 171 (ax : Int).toNat) from c_m263)⟩
        · refine ⟨fun h34 => ?_, fun h34 => ?_⟩
          · exact m293 s_m263 ⟨gI_m263, fI_m263, (show s_m263 170 4 = s_lb 170 4 from by omega), (show s_m263 170 3 = s_lb 170 3 from by omega), (show s_m263 170 6 = s_lb 170 6 from by omega), (show LQd n mo (s_lb 170 12) (s_m263 170 12) ax from lq_m263), (show WQd n mo le (s_lb 170 7) (s_m263 170 7) (st 171 (ax : Int).toNat) from by unfold WQd; intro z1 z2; omega), (show ax < st 170 2 from by omega), (show CHd le (st 171 (ax : Int).toNat) from c_m263)⟩
          · have e35 : s_m263 171 (ax : Int).toNat = st 171 (ax : Int).toNat := fI_m263 171 (ax : Int).toNat rfl rfl
            refine ⟨by omega, ?_⟩
            exact m293 (zup s_m263 170 7 (ze (Nat.lor (zl (ze ((zl (s_m263 170 7) * 2 ^ (zi 8 % 64)) % 18446744073709551616))) (zl (s_m263 171 (ax : Int).toNat))))) ⟨(gInv_up gI_m263 (p_word (zlor_ok _ _))), (fr_f fI_m263 rfl), (show s_m263 170 4 = s_lb 170 4 from by omega), (show s_m263 170 3 = s_lb 170 3 from by omega), (show s_m263 170 6 = s_lb 170 6 from by omega), (show LQd n mo (s_lb 170 12) (s_m263 170 12) ax from lq_m263), (show WQd n mo le (s_lb 170 7) ((ze (Nat.lor (zl (ze ((zl (s_m263 170 7) * 2 ^ (zi 8 % 64)) % 18446744073709551616))) (zl (s_m263 171 (ax : Int).toNat))))) (st 171 (ax : Int).toNat) from by
              unfold WQd
              intro z1 z2
              have rb := (RLn_b R_lb).1 z2 (by omega)
              have z := or8 (p := s_m263 170 7) (c := s_m263 171 (ax : Int).toNat) (by omega) (by omega)
              omega), (show ax < st 170 2 from by omega), (show CHd le (st 171 (ax : Int).toNat) from c_m263)⟩
      have m243 : (ax < st 170 2) ∧ (CHd le (st 171 (ax : Int).toNat)) → K (rx_find rx_m149 243) [(0, .inr (.inr (.inl 170))), (1, .inl ax), (2, .inl le), (3, .inl di), (4, .inl mo), (5, .inl n)] [] s_lb := by
        intro  hi
        obtain ⟨cx_m243, c_m243⟩ := hi
        have g36 := g_size hG
        have g37 := g_tape hG (ax : Int).toNat
        have g38 := g_signAt gI_lb
        have g39 := g_sign gI_lb
        have g40 := g_word gI_lb
        have g41 := g_value gI_lb
        have g42 := g_lexAt gI_lb
        refine yr1_ok (Rt := Q) (wc := (wcL [(179, k_isLetter), (180, k_isDigit)])) (stp := [204, 243, 263, 293, 325]) hcm hcl [] 206 ?_
        show ((¬ n = mo → K (rx_find rx_m149 263) [(0, .inr (.inr (.inl 170))), (1, .inl ax), (2, .inl le), (3, .inl di), (4, .inl mo), (5, .inl n)] [] s_lb) ∧ (¬ (¬ n = mo) → ((¬ s_lb 170 12 = ((-1) : Int) → K (rx_find rx_m149 263) [(0, .inr (.inr (.inl 170))), (1, .inl ax), (2, .inl le), (3, .inl di), (4, .inl mo), (5, .inl n)] [] s_lb) ∧ (¬ (¬ s_lb 170 12 = ((-1) : Int)) → K (rx_find rx_m149 263) [(0, .inr (.inr (.inl 170))), (1, .inl ax), (2, .inl le), (3, .inl di), (4, .inl mo), (5, .inl n)] [] (zup s_lb 170 12 ax)))))
        refine ⟨fun h43 => ?_, fun h43 => ?_⟩
        · exact m263 s_lb ⟨gI_lb, fI_lb, (show s_lb 170 4 = s_lb 170 4 from by omega), (show s_lb 170 3 = s_lb 170 3 from by omega), (show s_lb 170 6 = s_lb 170 6 from by omega), (show s_lb 170 7 = s_lb 170 7 from by omega), (show LQd n mo (s_lb 170 12) (s_lb 170 12) ax from by unfold LQd; omega), (show ax < st 170 2 from by omega), (show CHd le (st 171 (ax : Int).toNat) from c_m243)⟩
        · refine ⟨fun h44 => ?_, fun h44 => ?_⟩
          · exact m263 s_lb ⟨gI_lb, fI_lb, (show s_lb 170 4 = s_lb 170 4 from by omega), (show s_lb 170 3 = s_lb 170 3 from by omega), (show s_lb 170 6 = s_lb 170 6 from by omega), (show s_lb 170 7 = s_lb 170 7 from by omega), (show LQd n mo (s_lb 170 12) (s_lb 170 12) ax from by unfold LQd; omega), (show ax < st 170 2 from by omega), (show CHd le (st 171 (ax : Int).toNat) from c_m243)⟩
          · exact m263 (zup s_lb 170 12 ax) ⟨(gInv_up gI_lb (p_lexAt (by omega))), (fr_f fI_lb rfl), (show s_lb 170 4 = s_lb 170 4 from by omega), (show s_lb 170 3 = s_lb 170 3 from by omega), (show s_lb 170 6 = s_lb 170 6 from by omega), (show s_lb 170 7 = s_lb 170 7 from by omega), (show LQd n mo (s_lb 170 12) (ax) ax from by unfold LQd; omega), (show ax < st 170 2 from by omega), (show CHd le (st 171 (ax : Int).toNat) from c_m243)⟩
      refine yr1_ok (Rt := Q) (wc := (wcL [(179, k_isLetter), (180, k_isDigit)])) (stp := [204, 243, 263, 293, 325]) hcm hcl [] 206 ?_
      show ((s_lb 170 2 ≤ ax → Q none (zup s_lb 170 5 ax)) ∧ (¬ (s_lb 170 2 ≤ ax) → ((le = (0 : Int) → ((0 ≤ ax ∧ ax < 1800) ∧ (∀ (r45 : Int), en_isDigit (s_lb 171 (ax : Int).toNat) s_lb r45 → ((r45 = (0 : Int) → Q none (zup s_lb 170 5 ax)) ∧ (¬ (r45 = (0 : Int)) → K (rx_find rx_m149 243) [(0, .inr (.inr (.inl 170))), (1, .inl ax), (2, .inl le), (3, .inl di), (4, .inl mo), (5, .inl n)] [] s_lb))))) ∧ (¬ (le = (0 : Int)) → ((0 ≤ ax ∧ ax < 1800) ∧ (∀ (r46 : Int), en_isLetter (s_lb 171 (ax : Int).toNat) s_lb r46 → ((r46 = (0 : Int) → Q none (zup s_lb 170 5 ax)) ∧ (¬ (r46 = (0 : Int)) → K (rx_find rx_m149 243) [(0, .inr (.inr (.inl 170))), (1, .inl ax), (2, .inl le), (3, .inl di), (4, .inl mo), (5, .inl n)] [] s_lb))))))))
      have e47 : s_lb 170 2 = st 170 2 := fI_lb 170 2 rfl rfl
      refine ⟨fun h48 => ?_, fun h48 => ?_⟩
      · exact hQ _ ⟨(gInv_up gI_lb (p_signEnd (by omega))), (fr_f fI_lb rfl), (show ∃ k v s e : Int, TK (fun k => st 171 k.toNat) (st 170 2) (st 170 5) k v s e ∧ RW (s_lb 170 3) (s_lb 170 6) (s_lb 170 7) (s_lb 170 4) (ax) (s_lb 170 12) k v s e from by
          refine RLn_end w_lb R_lb sgd_lb ?_
          first | exact Or.inl (by omega) | exact Or.inr ⟨fun z z2 => (by unfold wle at z2; have z2 : 97 ≤ st 171 (ax : Int).toNat ∧ st 171 (ax : Int).toNat ≤ 122 := z2; omega), fun z z2 => (by unfold wdi at z2; have z2 : 48 ≤ st 171 (ax : Int).toNat ∧ st 171 (ax : Int).toNat ≤ 57 := z2; omega)⟩)⟩
      · refine ⟨fun h49 => ?_, fun h49 => ?_⟩
        · have g51 := g_tape hG (ax : Int).toNat
          have e50 : s_lb 171 (ax : Int).toNat = st 171 (ax : Int).toNat := fI_lb 171 (ax : Int).toNat rfl rfl
          refine ⟨by omega, ?_⟩
          refine fun r45 q45 => ?_
          have b45 := q45
          change (r45 = 0 ∨ r45 = 1) ∧ (r45 = 1 ↔ 48 ≤ (s_lb 171 (ax : Int).toNat) ∧ (s_lb 171 (ax : Int).toNat) ≤ 57) at b45
          refine ⟨fun h52 => ?_, fun h52 => ?_⟩
          · exact hQ _ ⟨(gInv_up gI_lb (p_signEnd (by omega))), (fr_f fI_lb rfl), (show ∃ k v s e : Int, TK (fun k => st 171 k.toNat) (st 170 2) (st 170 5) k v s e ∧ RW (s_lb 170 3) (s_lb 170 6) (s_lb 170 7) (s_lb 170 4) (ax) (s_lb 170 12) k v s e from by
          refine RLn_end w_lb R_lb sgd_lb ?_
          first | exact Or.inl (by omega) | exact Or.inr ⟨fun z z2 => (by unfold wle at z2; have z2 : 97 ≤ st 171 (ax : Int).toNat ∧ st 171 (ax : Int).toNat ≤ 122 := z2; omega), fun z z2 => (by unfold wdi at z2; have z2 : 48 ≤ st 171 (ax : Int).toNat ∧ st 171 (ax : Int).toNat ≤ 57 := z2; omega)⟩)⟩
          · exact m243 ⟨(show ax < st 170 2 from by omega), (show CHd le (st 171 (ax : Int).toNat) from by unfold CHd wle wdi; constructor <;> intro z <;> omega)⟩
        · have g54 := g_tape hG (ax : Int).toNat
          have e53 : s_lb 171 (ax : Int).toNat = st 171 (ax : Int).toNat := fI_lb 171 (ax : Int).toNat rfl rfl
          refine ⟨by omega, ?_⟩
          refine fun r46 q46 => ?_
          have b46 := q46
          change (r46 = 0 ∨ r46 = 1) ∧ (r46 = 1 ↔ 97 ≤ (s_lb 171 (ax : Int).toNat) ∧ (s_lb 171 (ax : Int).toNat) ≤ 122) at b46
          refine ⟨fun h55 => ?_, fun h55 => ?_⟩
          · exact hQ _ ⟨(gInv_up gI_lb (p_signEnd (by omega))), (fr_f fI_lb rfl), (show ∃ k v s e : Int, TK (fun k => st 171 k.toNat) (st 170 2) (st 170 5) k v s e ∧ RW (s_lb 170 3) (s_lb 170 6) (s_lb 170 7) (s_lb 170 4) (ax) (s_lb 170 12) k v s e from by
          refine RLn_end w_lb R_lb sgd_lb ?_
          first | exact Or.inl (by omega) | exact Or.inr ⟨fun z z2 => (by unfold wle at z2; have z2 : 97 ≤ st 171 (ax : Int).toNat ∧ st 171 (ax : Int).toNat ≤ 122 := z2; omega), fun z z2 => (by unfold wdi at z2; have z2 : 48 ≤ st 171 (ax : Int).toNat ∧ st 171 (ax : Int).toNat ≤ 57 := z2; omega)⟩)⟩
          · exact m243 ⟨(show ax < st 170 2 from by omega), (show CHd le (st 171 (ax : Int).toNat) from by unfold CHd wle wdi; constructor <;> intro z <;> omega)⟩
  have m135 : ∀ (ax : Int) (le : Int) (di : Int) (s_m135 : zS), gInv zgt s_m135 ∧ aFr m_rAhead st s_m135 ∧ (st 170 5 ≤ ax ∧ ax < st 170 2 ∧ s_m135 170 4 = ax ∧ (le = 0 ∨ le = 1) ∧ (di = 0 ∨ di = 1) ∧ (le = 1 ↔ 97 ≤ st 171 (ax : Int).toNat ∧ st 171 (ax : Int).toNat ≤ 122) ∧ (di = 1 ↔ 48 ≤ st 171 (ax : Int).toNat ∧ st 171 (ax : Int).toNat ≤ 57)) ∧ (wrn (fun j => wbl (tcc (fun k => st 171 k.toNat) (st 170 2) j)) (st 170 5) ax) ∧ (LXd (fun k => st 171 k.toNat) le di ax (s_m135 170 12)) → K (rx_find rx_m149 135) [(0, .inr (.inr (.inl 170))), (1, .inl ax), (2, .inl le), (3, .inl di)] [] s_m135 := by
    intro ax le di s_m135 hi
    obtain ⟨gI_m135, fI_m135, b_m135, w_m135, lx_m135⟩ := hi
    have g56 := g_signEnd hG
    have g57 := g_size hG
    have g58 := g_signAt gI_m135
    have g59 := g_tape hG (ax : Int).toNat
    have g60 := g_lexAt gI_m135
    have g61 := g_sign gI_m135
    have g62 := g_word gI_m135
    have g63 := g_value gI_m135
    refine yr1_ok (Rt := Q) (wc := (wcL [(179, k_isLetter), (180, k_isDigit)])) (stp := [135, 204, 243, 263, 293, 325]) hcm hcl [] 206 ?_
    show ((-2147483648 ≤ ax + 1 ∧ ax + 1 ≤ 2147483647) ∧ ((¬ le = (0 : Int) → ((le = (0 : Int) → ((le = (0 : Int) → K (rx_find rx_m149 204) [(5, .inl 0), (4, .inl 4), (0, .inr (.inr (.inl 170))), (1, .inl ax), (2, .inl le), (3, .inl di)] [] (zup (zup (zup (zup (zup s_m135 170 6 0) 170 7 0) 170 3 3) 170 5 (ax + 1)) 170 3 2)) ∧ (¬ (le = (0 : Int)) → K (rx_find rx_m149 204) [(5, .inl 0), (4, .inl 6), (0, .inr (.inr (.inl 170))), (1, .inl ax), (2, .inl le), (3, .inl di)] [] (zup (zup (zup (zup (zup s_m135 170 6 0) 170 7 0) 170 3 3) 170 5 (ax + 1)) 170 3 2)))) ∧ (¬ (le = (0 : Int)) → ((le = (0 : Int) → K (rx_find rx_m149 204) [(5, .inl 0), (4, .inl 4), (0, .inr (.inr (.inl 170))), (1, .inl ax), (2, .inl le), (3, .inl di)] [] (zup (zup (zup (zup (zup s_m135 170 6 0) 170 7 0) 170 3 3) 170 5 (ax + 1)) 170 3 1)) ∧ (¬ (le = (0 : Int)) → K (rx_find rx_m149 204) [(5, .inl 0), (4, .inl 6), (0, .inr (.inr (.inl 170))), (1, .inl ax), (2, .inl le), (3, .inl di)] [] (zup (zup (zup (zup (zup s_m135 170 6 0) 170 7 0) 170 3 3) 170 5 (ax + 1)) 170 3 1)))))) ∧ (¬ (¬ le = (0 : Int)) → ((¬ di = (0 : Int) → ((le = (0 : Int) → ((le = (0 : Int) → K (rx_find rx_m149 204) [(5, .inl 0), (4, .inl 4), (0, .inr (.inr (.inl 170))), (1, .inl ax), (2, .inl le), (3, .inl di)] [] (zup (zup (zup (zup (zup s_m135 170 6 0) 170 7 0) 170 3 3) 170 5 (ax + 1)) 170 3 2)) ∧ (¬ (le = (0 : Int)) → K (rx_find rx_m149 204) [(5, .inl 0), (4, .inl 6), (0, .inr (.inr (.inl 170))), (1, .inl ax), (2, .inl le), (3, .inl di)] [] (zup (zup (zup (zup (zup s_m135 170 6 0) 170 7 0) 170 3 3) 170 5 (ax + 1)) 170 3 2)))) ∧ (¬ (le = (0 : Int)) → ((le = (0 : Int) → K (rx_find rx_m149 204) [(5, .inl 0), (4, .inl 4), (0, .inr (.inr (.inl 170))), (1, .inl ax), (2, .inl le), (3, .inl di)] [] (zup (zup (zup (zup (zup s_m135 170 6 0) 170 7 0) 170 3 3) 170 5 (ax + 1)) 170 3 1)) ∧ (¬ (le = (0 : Int)) → K (rx_find rx_m149 204) [(5, .inl 0), (4, .inl 6), (0, .inr (.inr (.inl 170))), (1, .inl ax), (2, .inl le), (3, .inl di)] [] (zup (zup (zup (zup (zup s_m135 170 6 0) 170 7 0) 170 3 3) 170 5 (ax + 1)) 170 3 1)))))) ∧ (¬ (¬ di = (0 : Int)) → ((0 ≤ ax ∧ ax < 1800) ∧ Q none (zup (zup (zup (zup (zup s_m135 170 6 0) 170 7 0) 170 3 3) 170 5 (ax + 1)) 170 6 (s_m135 171 (ax : Int).toNat))))))))
    refine ⟨by omega, ?_⟩
    refine ⟨fun h64 => ?_, fun h64 => ?_⟩
    · refine ⟨fun h65 => ?_, fun h65 => ?_⟩
      · refine ⟨fun h66 => ?_, fun h66 => ?_⟩
        · exact hsl _ _ _ _ _ (sb_cons (.tail _ (.tail _ (.head _))) (sb_cons (.tail _ (.tail _ (.tail _ (.head _)))) (sb_cons (.tail _ (.tail _ (.tail _ (.tail _ (.head _))))) (sb_cons (.tail _ (.tail _ (.tail _ (.tail _ (.tail _ (.head _)))))) (sb_cons (.tail _ (.head _)) (sb_cons (.head _) sb_nil)))))) (lb _ ax le di 4 0 (zup (zup (zup (zup (zup s_m135 170 6 0) 170 7 0) 170 3 3) 170 5 (ax + 1)) 170 3 2) ⟨(gInv_up (gInv_up (gInv_up (gInv_up (gInv_up gI_m135 (p_value (by omega))) (p_word (by omega))) (p_sign (by omega))) (p_signEnd (by omega))) (p_sign (by omega))), (fr_f (fr_f (fr_f (fr_f (fr_f fI_m135 rfl) rfl) rfl) rfl) rfl), (show ax ≤ st 170 2 ∧ (0 : Int) = ax - s_m135 170 4 ∧ 0 ≤ (0 : Int) ∧ ((le = 1 ∧ di = 0 ∧ (4 : Int) = 6) ∨ (le = 0 ∧ di = 1 ∧ (4 : Int) = 4)) from by omega), (show (4 : Int) = mof le from by unfold mof; split <;> omega), (show SGd le (2) from by unfold SGd; omega), (show wrn (fun j => wbl (tcc (fun k => st 171 k.toNat) (st 170 2) j)) (st 170 5) (s_m135 170 4) from by
          rw [show s_m135 170 4 = ax by omega]
          exact w_m135), (show RLn (fun k => st 171 k.toNat) (st 170 2) (s_m135 170 4) ax le (0) (0) (s_m135 170 12) from by
          have e1 : s_m135 170 4 = ax := by omega
          rw [e1]
          refine ⟨⟨by omega, by omega, by omega, by omega⟩, ⟨fun z => lx_m135.1 ⟨by omega, z⟩, fun z => ⟨fun _ => lx_m135.2 (fun z2 => z z2.2), fun z2 => by unfold mof at z2; split at z2 <;> omega⟩⟩, ?_⟩
          first | exact Or.inl ⟨by omega, by unfold wle; show 97 ≤ st 171 (ax : Int).toNat ∧ st 171 (ax : Int).toNat ≤ 122; omega, fun j z1 z2 => by omega, fun _ => by rw [show (ax - ax : Int).toNat = 0 by omega]; rfl⟩ | exact Or.inr ⟨by omega, by unfold wdi; show 48 ≤ st 171 (ax : Int).toNat ∧ st 171 (ax : Int).toNat ≤ 57; omega, fun j z1 z2 => by omega, fun _ => by rw [show (ax - ax : Int).toNat = 0 by omega]; rfl⟩)⟩ rfl)
        · exact hsl _ _ _ _ _ (sb_cons (.tail _ (.tail _ (.head _))) (sb_cons (.tail _ (.tail _ (.tail _ (.head _)))) (sb_cons (.tail _ (.tail _ (.tail _ (.tail _ (.head _))))) (sb_cons (.tail _ (.tail _ (.tail _ (.tail _ (.tail _ (.head _)))))) (sb_cons (.tail _ (.head _)) (sb_cons (.head _) sb_nil)))))) (lb _ ax le di 6 0 (zup (zup (zup (zup (zup s_m135 170 6 0) 170 7 0) 170 3 3) 170 5 (ax + 1)) 170 3 2) ⟨(gInv_up (gInv_up (gInv_up (gInv_up (gInv_up gI_m135 (p_value (by omega))) (p_word (by omega))) (p_sign (by omega))) (p_signEnd (by omega))) (p_sign (by omega))), (fr_f (fr_f (fr_f (fr_f (fr_f fI_m135 rfl) rfl) rfl) rfl) rfl), (show ax ≤ st 170 2 ∧ (0 : Int) = ax - s_m135 170 4 ∧ 0 ≤ (0 : Int) ∧ ((le = 1 ∧ di = 0 ∧ (6 : Int) = 6) ∨ (le = 0 ∧ di = 1 ∧ (6 : Int) = 4)) from by omega), (show (6 : Int) = mof le from by unfold mof; split <;> omega), (show SGd le (2) from by unfold SGd; omega), (show wrn (fun j => wbl (tcc (fun k => st 171 k.toNat) (st 170 2) j)) (st 170 5) (s_m135 170 4) from by
          rw [show s_m135 170 4 = ax by omega]
          exact w_m135), (show RLn (fun k => st 171 k.toNat) (st 170 2) (s_m135 170 4) ax le (0) (0) (s_m135 170 12) from by
          have e1 : s_m135 170 4 = ax := by omega
          rw [e1]
          refine ⟨⟨by omega, by omega, by omega, by omega⟩, ⟨fun z => lx_m135.1 ⟨by omega, z⟩, fun z => ⟨fun _ => lx_m135.2 (fun z2 => z z2.2), fun z2 => by unfold mof at z2; split at z2 <;> omega⟩⟩, ?_⟩
          first | exact Or.inl ⟨by omega, by unfold wle; show 97 ≤ st 171 (ax : Int).toNat ∧ st 171 (ax : Int).toNat ≤ 122; omega, fun j z1 z2 => by omega, fun _ => by rw [show (ax - ax : Int).toNat = 0 by omega]; rfl⟩ | exact Or.inr ⟨by omega, by unfold wdi; show 48 ≤ st 171 (ax : Int).toNat ∧ st 171 (ax : Int).toNat ≤ 57; omega, fun j z1 z2 => by omega, fun _ => by rw [show (ax - ax : Int).toNat = 0 by omega]; rfl⟩)⟩ rfl)
      · refine ⟨fun h67 => ?_, fun h67 => ?_⟩
        · exact hsl _ _ _ _ _ (sb_cons (.tail _ (.tail _ (.head _))) (sb_cons (.tail _ (.tail _ (.tail _ (.head _)))) (sb_cons (.tail _ (.tail _ (.tail _ (.tail _ (.head _))))) (sb_cons (.tail _ (.tail _ (.tail _ (.tail _ (.tail _ (.head _)))))) (sb_cons (.tail _ (.head _)) (sb_cons (.head _) sb_nil)))))) (lb _ ax le di 4 0 (zup (zup (zup (zup (zup s_m135 170 6 0) 170 7 0) 170 3 3) 170 5 (ax + 1)) 170 3 1) ⟨(gInv_up (gInv_up (gInv_up (gInv_up (gInv_up gI_m135 (p_value (by omega))) (p_word (by omega))) (p_sign (by omega))) (p_signEnd (by omega))) (p_sign (by omega))), (fr_f (fr_f (fr_f (fr_f (fr_f fI_m135 rfl) rfl) rfl) rfl) rfl), (show ax ≤ st 170 2 ∧ (0 : Int) = ax - s_m135 170 4 ∧ 0 ≤ (0 : Int) ∧ ((le = 1 ∧ di = 0 ∧ (4 : Int) = 6) ∨ (le = 0 ∧ di = 1 ∧ (4 : Int) = 4)) from by omega), (show (4 : Int) = mof le from by unfold mof; split <;> omega), (show SGd le (1) from by unfold SGd; omega), (show wrn (fun j => wbl (tcc (fun k => st 171 k.toNat) (st 170 2) j)) (st 170 5) (s_m135 170 4) from by
          rw [show s_m135 170 4 = ax by omega]
          exact w_m135), (show RLn (fun k => st 171 k.toNat) (st 170 2) (s_m135 170 4) ax le (0) (0) (s_m135 170 12) from by
          have e1 : s_m135 170 4 = ax := by omega
          rw [e1]
          refine ⟨⟨by omega, by omega, by omega, by omega⟩, ⟨fun z => lx_m135.1 ⟨by omega, z⟩, fun z => ⟨fun _ => lx_m135.2 (fun z2 => z z2.2), fun z2 => by unfold mof at z2; split at z2 <;> omega⟩⟩, ?_⟩
          first | exact Or.inl ⟨by omega, by unfold wle; show 97 ≤ st 171 (ax : Int).toNat ∧ st 171 (ax : Int).toNat ≤ 122; omega, fun j z1 z2 => by omega, fun _ => by rw [show (ax - ax : Int).toNat = 0 by omega]; rfl⟩ | exact Or.inr ⟨by omega, by unfold wdi; show 48 ≤ st 171 (ax : Int).toNat ∧ st 171 (ax : Int).toNat ≤ 57; omega, fun j z1 z2 => by omega, fun _ => by rw [show (ax - ax : Int).toNat = 0 by omega]; rfl⟩)⟩ rfl)
        · exact hsl _ _ _ _ _ (sb_cons (.tail _ (.tail _ (.head _))) (sb_cons (.tail _ (.tail _ (.tail _ (.head _)))) (sb_cons (.tail _ (.tail _ (.tail _ (.tail _ (.head _))))) (sb_cons (.tail _ (.tail _ (.tail _ (.tail _ (.tail _ (.head _)))))) (sb_cons (.tail _ (.head _)) (sb_cons (.head _) sb_nil)))))) (lb _ ax le di 6 0 (zup (zup (zup (zup (zup s_m135 170 6 0) 170 7 0) 170 3 3) 170 5 (ax + 1)) 170 3 1) ⟨(gInv_up (gInv_up (gInv_up (gInv_up (gInv_up gI_m135 (p_value (by omega))) (p_word (by omega))) (p_sign (by omega))) (p_signEnd (by omega))) (p_sign (by omega))), (fr_f (fr_f (fr_f (fr_f (fr_f fI_m135 rfl) rfl) rfl) rfl) rfl), (show ax ≤ st 170 2 ∧ (0 : Int) = ax - s_m135 170 4 ∧ 0 ≤ (0 : Int) ∧ ((le = 1 ∧ di = 0 ∧ (6 : Int) = 6) ∨ (le = 0 ∧ di = 1 ∧ (6 : Int) = 4)) from by omega), (show (6 : Int) = mof le from by unfold mof; split <;> omega), (show SGd le (1) from by unfold SGd; omega), (show wrn (fun j => wbl (tcc (fun k => st 171 k.toNat) (st 170 2) j)) (st 170 5) (s_m135 170 4) from by
          rw [show s_m135 170 4 = ax by omega]
          exact w_m135), (show RLn (fun k => st 171 k.toNat) (st 170 2) (s_m135 170 4) ax le (0) (0) (s_m135 170 12) from by
          have e1 : s_m135 170 4 = ax := by omega
          rw [e1]
          refine ⟨⟨by omega, by omega, by omega, by omega⟩, ⟨fun z => lx_m135.1 ⟨by omega, z⟩, fun z => ⟨fun _ => lx_m135.2 (fun z2 => z z2.2), fun z2 => by unfold mof at z2; split at z2 <;> omega⟩⟩, ?_⟩
          first | exact Or.inl ⟨by omega, by unfold wle; show 97 ≤ st 171 (ax : Int).toNat ∧ st 171 (ax : Int).toNat ≤ 122; omega, fun j z1 z2 => by omega, fun _ => by rw [show (ax - ax : Int).toNat = 0 by omega]; rfl⟩ | exact Or.inr ⟨by omega, by unfold wdi; show 48 ≤ st 171 (ax : Int).toNat ∧ st 171 (ax : Int).toNat ≤ 57; omega, fun j z1 z2 => by omega, fun _ => by rw [show (ax - ax : Int).toNat = 0 by omega]; rfl⟩)⟩ rfl)
    · refine ⟨fun h68 => ?_, fun h68 => ?_⟩
      · refine ⟨fun h69 => ?_, fun h69 => ?_⟩
        · refine ⟨fun h70 => ?_, fun h70 => ?_⟩
          · exact hsl _ _ _ _ _ (sb_cons (.tail _ (.tail _ (.head _))) (sb_cons (.tail _ (.tail _ (.tail _ (.head _)))) (sb_cons (.tail _ (.tail _ (.tail _ (.tail _ (.head _))))) (sb_cons (.tail _ (.tail _ (.tail _ (.tail _ (.tail _ (.head _)))))) (sb_cons (.tail _ (.head _)) (sb_cons (.head _) sb_nil)))))) (lb _ ax le di 4 0 (zup (zup (zup (zup (zup s_m135 170 6 0) 170 7 0) 170 3 3) 170 5 (ax + 1)) 170 3 2) ⟨(gInv_up (gInv_up (gInv_up (gInv_up (gInv_up gI_m135 (p_value (by omega))) (p_word (by omega))) (p_sign (by omega))) (p_signEnd (by omega))) (p_sign (by omega))), (fr_f (fr_f (fr_f (fr_f (fr_f fI_m135 rfl) rfl) rfl) rfl) rfl), (show ax ≤ st 170 2 ∧ (0 : Int) = ax - s_m135 170 4 ∧ 0 ≤ (0 : Int) ∧ ((le = 1 ∧ di = 0 ∧ (4 : Int) = 6) ∨ (le = 0 ∧ di = 1 ∧ (4 : Int) = 4)) from by omega), (show (4 : Int) = mof le from by unfold mof; split <;> omega), (show SGd le (2) from by unfold SGd; omega), (show wrn (fun j => wbl (tcc (fun k => st 171 k.toNat) (st 170 2) j)) (st 170 5) (s_m135 170 4) from by
          rw [show s_m135 170 4 = ax by omega]
          exact w_m135), (show RLn (fun k => st 171 k.toNat) (st 170 2) (s_m135 170 4) ax le (0) (0) (s_m135 170 12) from by
          have e1 : s_m135 170 4 = ax := by omega
          rw [e1]
          refine ⟨⟨by omega, by omega, by omega, by omega⟩, ⟨fun z => lx_m135.1 ⟨by omega, z⟩, fun z => ⟨fun _ => lx_m135.2 (fun z2 => z z2.2), fun z2 => by unfold mof at z2; split at z2 <;> omega⟩⟩, ?_⟩
          first | exact Or.inl ⟨by omega, by unfold wle; show 97 ≤ st 171 (ax : Int).toNat ∧ st 171 (ax : Int).toNat ≤ 122; omega, fun j z1 z2 => by omega, fun _ => by rw [show (ax - ax : Int).toNat = 0 by omega]; rfl⟩ | exact Or.inr ⟨by omega, by unfold wdi; show 48 ≤ st 171 (ax : Int).toNat ∧ st 171 (ax : Int).toNat ≤ 57; omega, fun j z1 z2 => by omega, fun _ => by rw [show (ax - ax : Int).toNat = 0 by omega]; rfl⟩)⟩ rfl)
          · exact hsl _ _ _ _ _ (sb_cons (.tail _ (.tail _ (.head _))) (sb_cons (.tail _ (.tail _ (.tail _ (.head _)))) (sb_cons (.tail _ (.tail _ (.tail _ (.tail _ (.head _))))) (sb_cons (.tail _ (.tail _ (.tail _ (.tail _ (.tail _ (.head _)))))) (sb_cons (.tail _ (.head _)) (sb_cons (.head _) sb_nil)))))) (lb _ ax le di 6 0 (zup (zup (zup (zup (zup s_m135 170 6 0) 170 7 0) 170 3 3) 170 5 (ax + 1)) 170 3 2) ⟨(gInv_up (gInv_up (gInv_up (gInv_up (gInv_up gI_m135 (p_value (by omega))) (p_word (by omega))) (p_sign (by omega))) (p_signEnd (by omega))) (p_sign (by omega))), (fr_f (fr_f (fr_f (fr_f (fr_f fI_m135 rfl) rfl) rfl) rfl) rfl), (show ax ≤ st 170 2 ∧ (0 : Int) = ax - s_m135 170 4 ∧ 0 ≤ (0 : Int) ∧ ((le = 1 ∧ di = 0 ∧ (6 : Int) = 6) ∨ (le = 0 ∧ di = 1 ∧ (6 : Int) = 4)) from by omega), (show (6 : Int) = mof le from by unfold mof; split <;> omega), (show SGd le (2) from by unfold SGd; omega), (show wrn (fun j => wbl (tcc (fun k => st 171 k.toNat) (st 170 2) j)) (st 170 5) (s_m135 170 4) from by
          rw [show s_m135 170 4 = ax by omega]
          exact w_m135), (show RLn (fun k => st 171 k.toNat) (st 170 2) (s_m135 170 4) ax le (0) (0) (s_m135 170 12) from by
          have e1 : s_m135 170 4 = ax := by omega
          rw [e1]
          refine ⟨⟨by omega, by omega, by omega, by omega⟩, ⟨fun z => lx_m135.1 ⟨by omega, z⟩, fun z => ⟨fun _ => lx_m135.2 (fun z2 => z z2.2), fun z2 => by unfold mof at z2; split at z2 <;> omega⟩⟩, ?_⟩
          first | exact Or.inl ⟨by omega, by unfold wle; show 97 ≤ st 171 (ax : Int).toNat ∧ st 171 (ax : Int).toNat ≤ 122; omega, fun j z1 z2 => by omega, fun _ => by rw [show (ax - ax : Int).toNat = 0 by omega]; rfl⟩ | exact Or.inr ⟨by omega, by unfold wdi; show 48 ≤ st 171 (ax : Int).toNat ∧ st 171 (ax : Int).toNat ≤ 57; omega, fun j z1 z2 => by omega, fun _ => by rw [show (ax - ax : Int).toNat = 0 by omega]; rfl⟩)⟩ rfl)
        · refine ⟨fun h71 => ?_, fun h71 => ?_⟩
          · exact hsl _ _ _ _ _ (sb_cons (.tail _ (.tail _ (.head _))) (sb_cons (.tail _ (.tail _ (.tail _ (.head _)))) (sb_cons (.tail _ (.tail _ (.tail _ (.tail _ (.head _))))) (sb_cons (.tail _ (.tail _ (.tail _ (.tail _ (.tail _ (.head _)))))) (sb_cons (.tail _ (.head _)) (sb_cons (.head _) sb_nil)))))) (lb _ ax le di 4 0 (zup (zup (zup (zup (zup s_m135 170 6 0) 170 7 0) 170 3 3) 170 5 (ax + 1)) 170 3 1) ⟨(gInv_up (gInv_up (gInv_up (gInv_up (gInv_up gI_m135 (p_value (by omega))) (p_word (by omega))) (p_sign (by omega))) (p_signEnd (by omega))) (p_sign (by omega))), (fr_f (fr_f (fr_f (fr_f (fr_f fI_m135 rfl) rfl) rfl) rfl) rfl), (show ax ≤ st 170 2 ∧ (0 : Int) = ax - s_m135 170 4 ∧ 0 ≤ (0 : Int) ∧ ((le = 1 ∧ di = 0 ∧ (4 : Int) = 6) ∨ (le = 0 ∧ di = 1 ∧ (4 : Int) = 4)) from by omega), (show (4 : Int) = mof le from by unfold mof; split <;> omega), (show SGd le (1) from by unfold SGd; omega), (show wrn (fun j => wbl (tcc (fun k => st 171 k.toNat) (st 170 2) j)) (st 170 5) (s_m135 170 4) from by
          rw [show s_m135 170 4 = ax by omega]
          exact w_m135), (show RLn (fun k => st 171 k.toNat) (st 170 2) (s_m135 170 4) ax le (0) (0) (s_m135 170 12) from by
          have e1 : s_m135 170 4 = ax := by omega
          rw [e1]
          refine ⟨⟨by omega, by omega, by omega, by omega⟩, ⟨fun z => lx_m135.1 ⟨by omega, z⟩, fun z => ⟨fun _ => lx_m135.2 (fun z2 => z z2.2), fun z2 => by unfold mof at z2; split at z2 <;> omega⟩⟩, ?_⟩
          first | exact Or.inl ⟨by omega, by unfold wle; show 97 ≤ st 171 (ax : Int).toNat ∧ st 171 (ax : Int).toNat ≤ 122; omega, fun j z1 z2 => by omega, fun _ => by rw [show (ax - ax : Int).toNat = 0 by omega]; rfl⟩ | exact Or.inr ⟨by omega, by unfold wdi; show 48 ≤ st 171 (ax : Int).toNat ∧ st 171 (ax : Int).toNat ≤ 57; omega, fun j z1 z2 => by omega, fun _ => by rw [show (ax - ax : Int).toNat = 0 by omega]; rfl⟩)⟩ rfl)
          · exact hsl _ _ _ _ _ (sb_cons (.tail _ (.tail _ (.head _))) (sb_cons (.tail _ (.tail _ (.tail _ (.head _)))) (sb_cons (.tail _ (.tail _ (.tail _ (.tail _ (.head _))))) (sb_cons (.tail _ (.tail _ (.tail _ (.tail _ (.tail _ (.head _)))))) (sb_cons (.tail _ (.head _)) (sb_cons (.head _) sb_nil)))))) (lb _ ax le di 6 0 (zup (zup (zup (zup (zup s_m135 170 6 0) 170 7 0) 170 3 3) 170 5 (ax + 1)) 170 3 1) ⟨(gInv_up (gInv_up (gInv_up (gInv_up (gInv_up gI_m135 (p_value (by omega))) (p_word (by omega))) (p_sign (by omega))) (p_signEnd (by omega))) (p_sign (by omega))), (fr_f (fr_f (fr_f (fr_f (fr_f fI_m135 rfl) rfl) rfl) rfl) rfl), (show ax ≤ st 170 2 ∧ (0 : Int) = ax - s_m135 170 4 ∧ 0 ≤ (0 : Int) ∧ ((le = 1 ∧ di = 0 ∧ (6 : Int) = 6) ∨ (le = 0 ∧ di = 1 ∧ (6 : Int) = 4)) from by omega), (show (6 : Int) = mof le from by unfold mof; split <;> omega), (show SGd le (1) from by unfold SGd; omega), (show wrn (fun j => wbl (tcc (fun k => st 171 k.toNat) (st 170 2) j)) (st 170 5) (s_m135 170 4) from by
          rw [show s_m135 170 4 = ax by omega]
          exact w_m135), (show RLn (fun k => st 171 k.toNat) (st 170 2) (s_m135 170 4) ax le (0) (0) (s_m135 170 12) from by
          have e1 : s_m135 170 4 = ax := by omega
          rw [e1]
          refine ⟨⟨by omega, by omega, by omega, by omega⟩, ⟨fun z => lx_m135.1 ⟨by omega, z⟩, fun z => ⟨fun _ => lx_m135.2 (fun z2 => z z2.2), fun z2 => by unfold mof at z2; split at z2 <;> omega⟩⟩, ?_⟩
          first | exact Or.inl ⟨by omega, by unfold wle; show 97 ≤ st 171 (ax : Int).toNat ∧ st 171 (ax : Int).toNat ≤ 122; omega, fun j z1 z2 => by omega, fun _ => by rw [show (ax - ax : Int).toNat = 0 by omega]; rfl⟩ | exact Or.inr ⟨by omega, by unfold wdi; show 48 ≤ st 171 (ax : Int).toNat ∧ st 171 (ax : Int).toNat ≤ 57; omega, fun j z1 z2 => by omega, fun _ => by rw [show (ax - ax : Int).toNat = 0 by omega]; rfl⟩)⟩ rfl)
      · have e72 : s_m135 171 (ax : Int).toNat = st 171 (ax : Int).toNat := fI_m135 171 (ax : Int).toNat rfl rfl
        refine ⟨by omega, ?_⟩
        exact hQ _ ⟨(gInv_up (gInv_up (gInv_up (gInv_up (gInv_up gI_m135 (p_value (by omega))) (p_word (by omega))) (p_sign (by omega))) (p_signEnd (by omega))) (p_value (by omega))), (fr_f (fr_f (fr_f (fr_f (fr_f fI_m135 rfl) rfl) rfl) rfl) rfl), (show ∃ k v s e : Int, TK (fun k => st 171 k.toNat) (st 170 2) (st 170 5) k v s e ∧ RW (3) ((s_m135 171 (ax : Int).toNat)) (0) (s_m135 170 4) ((ax + 1)) (s_m135 170 12) k v s e from by
          refine ⟨3, st 171 (ax : Int).toNat, ax, ax + 1, ⟨w_m135, Or.inr (Or.inr (Or.inr ⟨by omega, fun z => (by unfold wle at z; have z : 97 ≤ st 171 (ax : Int).toNat ∧ st 171 (ax : Int).toNat ≤ 122 := z; omega), fun z => (by unfold wdi at z; have z : 48 ≤ st 171 (ax : Int).toNat ∧ st 171 (ax : Int).toNat ≤ 57 := z; omega), rfl, rfl, rfl⟩))⟩, by omega, Or.inr (Or.inr (Or.inr (Or.inl ⟨rfl, rfl, by omega, rfl, lx_m135.2 (fun z => by omega)⟩)))⟩)⟩
  have m41 : ∀ (ax : Int), (st 170 5 ≤ ax ∧ ax ≤ st 170 2) ∧ (wrn (fun j => wbl (tcc (fun k => st 171 k.toNat) (st 170 2) j)) (st 170 5) ax) → K (rx_find rx_m149 41) [(0, .inr (.inr (.inl 170))), (1, .inl ax)] [] st := by
    intro ax hi
    obtain ⟨b_m41, w_m41⟩ := hi
    have g73 := g_signEnd hG
    have g74 := g_size hG
    refine yr1_ok (Rt := Q) (wc := (wcL [(179, k_isLetter), (180, k_isDigit)])) (stp := [41, 135, 204, 243, 263, 293, 325]) hcm hcl [] 206 ?_
    show ((ax < st 170 2 → ((0 ≤ ax ∧ ax < 1800) ∧ (∀ (r75 : Int), en_isLetter (st 171 (ax : Int).toNat) (zup (zup (zup (zup st 170 4 ax) 170 5 ax) 170 3 0) 170 12 (-1)) r75 → ((0 ≤ ax ∧ ax < 1800) ∧ (∀ (r76 : Int), en_isDigit (st 171 (ax : Int).toNat) (zup (zup (zup (zup st 170 4 ax) 170 5 ax) 170 3 0) 170 12 (-1)) r76 → ((¬ r75 = (0 : Int) → ((ax ≤ (0 : Int) → K (rx_find rx_m149 135) [(3, .inl r76), (2, .inl r75), (0, .inr (.inr (.inl 170))), (1, .inl ax)] [] (zup (zup (zup (zup st 170 4 ax) 170 5 ax) 170 3 0) 170 12 (-1))) ∧ (¬ (ax ≤ (0 : Int)) → ((-2147483648 ≤ ax - 1 ∧ ax - 1 ≤ 2147483647) ∧ ((0 ≤ ax - 1 ∧ ax - 1 < 1800) ∧ (∀ (r77 : Int), en_isLetter (st 171 (ax - 1 : Int).toNat) (zup (zup (zup (zup st 170 4 ax) 170 5 ax) 170 3 0) 170 12 (-1)) r77 → ((¬ r77 = (0 : Int) → K (rx_find rx_m149 135) [(3, .inl r76), (2, .inl r75), (0, .inr (.inr (.inl 170))), (1, .inl ax)] [] (zup (zup (zup (zup (zup st 170 4 ax) 170 5 ax) 170 3 0) 170 12 (-1)) 170 12 ax)) ∧ (¬ (¬ r77 = (0 : Int)) → ((-2147483648 ≤ ax - 1 ∧ ax - 1 ≤ 2147483647) ∧ ((0 ≤ ax - 1 ∧ ax - 1 < 1800) ∧ (∀ (r78 : Int), en_isDigit (st 171 (ax - 1 : Int).toNat) (zup (zup (zup (zup st 170 4 ax) 170 5 ax) 170 3 0) 170 12 (-1)) r78 → ((r78 = (0 : Int) → K (rx_find rx_m149 135) [(3, .inl r76), (2, .inl r75), (0, .inr (.inr (.inl 170))), (1, .inl ax)] [] (zup (zup (zup (zup st 170 4 ax) 170 5 ax) 170 3 0) 170 12 (-1))) ∧ (¬ (r78 = (0 : Int)) → K (rx_find rx_m149 135) [(3, .inl r76), (2, .inl r75), (0, .inr (.inr (.inl 170))), (1, .inl ax)] [] (zup (zup (zup (zup (zup st 170 4 ax) 170 5 ax) 170 3 0) 170 12 (-1)) 170 12 ax)))))))))))))) ∧ (¬ (¬ r75 = (0 : Int)) → ((r76 = (0 : Int) → K (rx_find rx_m149 135) [(3, .inl r76), (2, .inl r75), (0, .inr (.inr (.inl 170))), (1, .inl ax)] [] (zup (zup (zup (zup st 170 4 ax) 170 5 ax) 170 3 0) 170 12 (-1))) ∧ (¬ (r76 = (0 : Int)) → ((ax ≤ (0 : Int) → K (rx_find rx_m149 135) [(3, .inl r76), (2, .inl r75), (0, .inr (.inr (.inl 170))), (1, .inl ax)] [] (zup (zup (zup (zup st 170 4 ax) 170 5 ax) 170 3 0) 170 12 (-1))) ∧ (¬ (ax ≤ (0 : Int)) → ((-2147483648 ≤ ax - 1 ∧ ax - 1 ≤ 2147483647) ∧ ((0 ≤ ax - 1 ∧ ax - 1 < 1800) ∧ (∀ (r79 : Int), en_isLetter (st 171 (ax - 1 : Int).toNat) (zup (zup (zup (zup st 170 4 ax) 170 5 ax) 170 3 0) 170 12 (-1)) r79 → ((¬ r79 = (0 : Int) → K (rx_find rx_m149 135) [(3, .inl r76), (2, .inl r75), (0, .inr (.inr (.inl 170))), (1, .inl ax)] [] (zup (zup (zup (zup (zup st 170 4 ax) 170 5 ax) 170 3 0) 170 12 (-1)) 170 12 ax)) ∧ (¬ (¬ r79 = (0 : Int)) → ((-2147483648 ≤ ax - 1 ∧ ax - 1 ≤ 2147483647) ∧ ((0 ≤ ax - 1 ∧ ax - 1 < 1800) ∧ (∀ (r80 : Int), en_isDigit (st 171 (ax - 1 : Int).toNat) (zup (zup (zup (zup st 170 4 ax) 170 5 ax) 170 3 0) 170 12 (-1)) r80 → ((r80 = (0 : Int) → K (rx_find rx_m149 135) [(3, .inl r76), (2, .inl r75), (0, .inr (.inr (.inl 170))), (1, .inl ax)] [] (zup (zup (zup (zup st 170 4 ax) 170 5 ax) 170 3 0) 170 12 (-1))) ∧ (¬ (r80 = (0 : Int)) → K (rx_find rx_m149 135) [(3, .inl r76), (2, .inl r75), (0, .inr (.inr (.inl 170))), (1, .inl ax)] [] (zup (zup (zup (zup (zup st 170 4 ax) 170 5 ax) 170 3 0) 170 12 (-1)) 170 12 ax)))))))))))))))))))))) ∧ (¬ (ax < st 170 2) → Q none (zup (zup (zup (zup st 170 4 ax) 170 5 ax) 170 3 0) 170 12 (-1))))
    refine ⟨fun h81 => ?_, fun h81 => ?_⟩
    · have g82 := g_tape hG (ax : Int).toNat
      refine ⟨by omega, ?_⟩
      refine fun r75 q75 => ?_
      have b75 := q75
      change (r75 = 0 ∨ r75 = 1) ∧ (r75 = 1 ↔ 97 ≤ (st 171 (ax : Int).toNat) ∧ (st 171 (ax : Int).toNat) ≤ 122) at b75
      refine ⟨by omega, ?_⟩
      refine fun r76 q76 => ?_
      have b76 := q76
      change (r76 = 0 ∨ r76 = 1) ∧ (r76 = 1 ↔ 48 ≤ (st 171 (ax : Int).toNat) ∧ (st 171 (ax : Int).toNat) ≤ 57) at b76
      refine ⟨fun h83 => ?_, fun h83 => ?_⟩
      · refine ⟨fun h84 => ?_, fun h84 => ?_⟩
        · exact hsl _ _ _ _ _ (sb_cons (.tail _ (.tail _ (.head _))) (sb_cons (.tail _ (.tail _ (.tail _ (.head _)))) (sb_cons (.tail _ (.head _)) (sb_cons (.head _) sb_nil)))) (m135 ax r75 r76 (zup (zup (zup (zup st 170 4 ax) 170 5 ax) 170 3 0) 170 12 (-1)) ⟨(gInv_up (gInv_up (gInv_up (gInv_up hG (p_signAt (by omega))) (p_signEnd (by omega))) (p_sign (by omega))) (p_lexAt (by omega))), (fr_f (fr_f (fr_f (fr_f (fr_rf _ _) rfl) rfl) rfl) rfl), (show st 170 5 ≤ ax ∧ ax < st 170 2 ∧ ax = ax ∧ (r75 = 0 ∨ r75 = 1) ∧ (r76 = 0 ∨ r76 = 1) ∧ (r75 = 1 ↔ 97 ≤ st 171 (ax : Int).toNat ∧ st 171 (ax : Int).toNat ≤ 122) ∧ (r76 = 1 ↔ 48 ≤ st 171 (ax : Int).toNat ∧ st 171 (ax : Int).toNat ≤ 57) from by omega), (show wrn (fun j => wbl (tcc (fun k => st 171 k.toNat) (st 170 2) j)) (st 170 5) ax from w_m41), (show LXd (fun k => st 171 k.toNat) r75 r76 ax ((-1)) from by
          unfold LXd nbp wle wdi
          show (_ ∧ (0 < ax ∧ ((97 ≤ st 171 (ax - 1 : Int).toNat ∧ st 171 (ax - 1 : Int).toNat ≤ 122) ∨ (48 ≤ st 171 (ax - 1 : Int).toNat ∧ st 171 (ax - 1 : Int).toNat ≤ 57))) → _) ∧ (¬ (_ ∧ (0 < ax ∧ ((97 ≤ st 171 (ax - 1 : Int).toNat ∧ st 171 (ax - 1 : Int).toNat ≤ 122) ∨ (48 ≤ st 171 (ax - 1 : Int).toNat ∧ st 171 (ax - 1 : Int).toNat ≤ 57)))) → _)
          constructor
          · intro z
            omega
          · intro z
            omega)⟩)
        · refine ⟨by omega, ?_⟩
          have g85 := g_tape hG (ax - 1 : Int).toNat
          refine ⟨by omega, ?_⟩
          refine fun r77 q77 => ?_
          have b77 := q77
          change (r77 = 0 ∨ r77 = 1) ∧ (r77 = 1 ↔ 97 ≤ (st 171 (ax - 1 : Int).toNat) ∧ (st 171 (ax - 1 : Int).toNat) ≤ 122) at b77
          refine ⟨fun h86 => ?_, fun h86 => ?_⟩
          · exact hsl _ _ _ _ _ (sb_cons (.tail _ (.tail _ (.head _))) (sb_cons (.tail _ (.tail _ (.tail _ (.head _)))) (sb_cons (.tail _ (.head _)) (sb_cons (.head _) sb_nil)))) (m135 ax r75 r76 (zup (zup (zup (zup (zup st 170 4 ax) 170 5 ax) 170 3 0) 170 12 (-1)) 170 12 ax) ⟨(gInv_up (gInv_up (gInv_up (gInv_up (gInv_up hG (p_signAt (by omega))) (p_signEnd (by omega))) (p_sign (by omega))) (p_lexAt (by omega))) (p_lexAt (by omega))), (fr_f (fr_f (fr_f (fr_f (fr_f (fr_rf _ _) rfl) rfl) rfl) rfl) rfl), (show st 170 5 ≤ ax ∧ ax < st 170 2 ∧ ax = ax ∧ (r75 = 0 ∨ r75 = 1) ∧ (r76 = 0 ∨ r76 = 1) ∧ (r75 = 1 ↔ 97 ≤ st 171 (ax : Int).toNat ∧ st 171 (ax : Int).toNat ≤ 122) ∧ (r76 = 1 ↔ 48 ≤ st 171 (ax : Int).toNat ∧ st 171 (ax : Int).toNat ≤ 57) from by omega), (show wrn (fun j => wbl (tcc (fun k => st 171 k.toNat) (st 170 2) j)) (st 170 5) ax from w_m41), (show LXd (fun k => st 171 k.toNat) r75 r76 ax (ax) from by
          unfold LXd nbp wle wdi
          show (_ ∧ (0 < ax ∧ ((97 ≤ st 171 (ax - 1 : Int).toNat ∧ st 171 (ax - 1 : Int).toNat ≤ 122) ∨ (48 ≤ st 171 (ax - 1 : Int).toNat ∧ st 171 (ax - 1 : Int).toNat ≤ 57))) → _) ∧ (¬ (_ ∧ (0 < ax ∧ ((97 ≤ st 171 (ax - 1 : Int).toNat ∧ st 171 (ax - 1 : Int).toNat ≤ 122) ∨ (48 ≤ st 171 (ax - 1 : Int).toNat ∧ st 171 (ax - 1 : Int).toNat ≤ 57)))) → _)
          constructor
          · intro z
            omega
          · intro z
            omega)⟩)
          · refine ⟨by omega, ?_⟩
            refine ⟨by omega, ?_⟩
            refine fun r78 q78 => ?_
            have b78 := q78
            change (r78 = 0 ∨ r78 = 1) ∧ (r78 = 1 ↔ 48 ≤ (st 171 (ax - 1 : Int).toNat) ∧ (st 171 (ax - 1 : Int).toNat) ≤ 57) at b78
            refine ⟨fun h87 => ?_, fun h87 => ?_⟩
            · exact hsl _ _ _ _ _ (sb_cons (.tail _ (.tail _ (.head _))) (sb_cons (.tail _ (.tail _ (.tail _ (.head _)))) (sb_cons (.tail _ (.head _)) (sb_cons (.head _) sb_nil)))) (m135 ax r75 r76 (zup (zup (zup (zup st 170 4 ax) 170 5 ax) 170 3 0) 170 12 (-1)) ⟨(gInv_up (gInv_up (gInv_up (gInv_up hG (p_signAt (by omega))) (p_signEnd (by omega))) (p_sign (by omega))) (p_lexAt (by omega))), (fr_f (fr_f (fr_f (fr_f (fr_rf _ _) rfl) rfl) rfl) rfl), (show st 170 5 ≤ ax ∧ ax < st 170 2 ∧ ax = ax ∧ (r75 = 0 ∨ r75 = 1) ∧ (r76 = 0 ∨ r76 = 1) ∧ (r75 = 1 ↔ 97 ≤ st 171 (ax : Int).toNat ∧ st 171 (ax : Int).toNat ≤ 122) ∧ (r76 = 1 ↔ 48 ≤ st 171 (ax : Int).toNat ∧ st 171 (ax : Int).toNat ≤ 57) from by omega), (show wrn (fun j => wbl (tcc (fun k => st 171 k.toNat) (st 170 2) j)) (st 170 5) ax from w_m41), (show LXd (fun k => st 171 k.toNat) r75 r76 ax ((-1)) from by
          unfold LXd nbp wle wdi
          show (_ ∧ (0 < ax ∧ ((97 ≤ st 171 (ax - 1 : Int).toNat ∧ st 171 (ax - 1 : Int).toNat ≤ 122) ∨ (48 ≤ st 171 (ax - 1 : Int).toNat ∧ st 171 (ax - 1 : Int).toNat ≤ 57))) → _) ∧ (¬ (_ ∧ (0 < ax ∧ ((97 ≤ st 171 (ax - 1 : Int).toNat ∧ st 171 (ax - 1 : Int).toNat ≤ 122) ∨ (48 ≤ st 171 (ax - 1 : Int).toNat ∧ st 171 (ax - 1 : Int).toNat ≤ 57)))) → _)
          constructor
          · intro z
            omega
          · intro z
            omega)⟩)
            · exact hsl _ _ _ _ _ (sb_cons (.tail _ (.tail _ (.head _))) (sb_cons (.tail _ (.tail _ (.tail _ (.head _)))) (sb_cons (.tail _ (.head _)) (sb_cons (.head _) sb_nil)))) (m135 ax r75 r76 (zup (zup (zup (zup (zup st 170 4 ax) 170 5 ax) 170 3 0) 170 12 (-1)) 170 12 ax) ⟨(gInv_up (gInv_up (gInv_up (gInv_up (gInv_up hG (p_signAt (by omega))) (p_signEnd (by omega))) (p_sign (by omega))) (p_lexAt (by omega))) (p_lexAt (by omega))), (fr_f (fr_f (fr_f (fr_f (fr_f (fr_rf _ _) rfl) rfl) rfl) rfl) rfl), (show st 170 5 ≤ ax ∧ ax < st 170 2 ∧ ax = ax ∧ (r75 = 0 ∨ r75 = 1) ∧ (r76 = 0 ∨ r76 = 1) ∧ (r75 = 1 ↔ 97 ≤ st 171 (ax : Int).toNat ∧ st 171 (ax : Int).toNat ≤ 122) ∧ (r76 = 1 ↔ 48 ≤ st 171 (ax : Int).toNat ∧ st 171 (ax : Int).toNat ≤ 57) from by omega), (show wrn (fun j => wbl (tcc (fun k => st 171 k.toNat) (st 170 2) j)) (st 170 5) ax from w_m41), (show LXd (fun k => st 171 k.toNat) r75 r76 ax (ax) from by
          unfold LXd nbp wle wdi
          show (_ ∧ (0 < ax ∧ ((97 ≤ st 171 (ax - 1 : Int).toNat ∧ st 171 (ax - 1 : Int).toNat ≤ 122) ∨ (48 ≤ st 171 (ax - 1 : Int).toNat ∧ st 171 (ax - 1 : Int).toNat ≤ 57))) → _) ∧ (¬ (_ ∧ (0 < ax ∧ ((97 ≤ st 171 (ax - 1 : Int).toNat ∧ st 171 (ax - 1 : Int).toNat ≤ 122) ∨ (48 ≤ st 171 (ax - 1 : Int).toNat ∧ st 171 (ax - 1 : Int).toNat ≤ 57)))) → _)
          constructor
          · intro z
            omega
          · intro z
            omega)⟩)
      · refine ⟨fun h88 => ?_, fun h88 => ?_⟩
        · exact hsl _ _ _ _ _ (sb_cons (.tail _ (.tail _ (.head _))) (sb_cons (.tail _ (.tail _ (.tail _ (.head _)))) (sb_cons (.tail _ (.head _)) (sb_cons (.head _) sb_nil)))) (m135 ax r75 r76 (zup (zup (zup (zup st 170 4 ax) 170 5 ax) 170 3 0) 170 12 (-1)) ⟨(gInv_up (gInv_up (gInv_up (gInv_up hG (p_signAt (by omega))) (p_signEnd (by omega))) (p_sign (by omega))) (p_lexAt (by omega))), (fr_f (fr_f (fr_f (fr_f (fr_rf _ _) rfl) rfl) rfl) rfl), (show st 170 5 ≤ ax ∧ ax < st 170 2 ∧ ax = ax ∧ (r75 = 0 ∨ r75 = 1) ∧ (r76 = 0 ∨ r76 = 1) ∧ (r75 = 1 ↔ 97 ≤ st 171 (ax : Int).toNat ∧ st 171 (ax : Int).toNat ≤ 122) ∧ (r76 = 1 ↔ 48 ≤ st 171 (ax : Int).toNat ∧ st 171 (ax : Int).toNat ≤ 57) from by omega), (show wrn (fun j => wbl (tcc (fun k => st 171 k.toNat) (st 170 2) j)) (st 170 5) ax from w_m41), (show LXd (fun k => st 171 k.toNat) r75 r76 ax ((-1)) from by
          unfold LXd nbp wle wdi
          show (_ ∧ (0 < ax ∧ ((97 ≤ st 171 (ax - 1 : Int).toNat ∧ st 171 (ax - 1 : Int).toNat ≤ 122) ∨ (48 ≤ st 171 (ax - 1 : Int).toNat ∧ st 171 (ax - 1 : Int).toNat ≤ 57))) → _) ∧ (¬ (_ ∧ (0 < ax ∧ ((97 ≤ st 171 (ax - 1 : Int).toNat ∧ st 171 (ax - 1 : Int).toNat ≤ 122) ∨ (48 ≤ st 171 (ax - 1 : Int).toNat ∧ st 171 (ax - 1 : Int).toNat ≤ 57)))) → _)
          constructor
          · intro z
            omega
          · intro z
            omega)⟩)
        · refine ⟨fun h89 => ?_, fun h89 => ?_⟩
          · exact hsl _ _ _ _ _ (sb_cons (.tail _ (.tail _ (.head _))) (sb_cons (.tail _ (.tail _ (.tail _ (.head _)))) (sb_cons (.tail _ (.head _)) (sb_cons (.head _) sb_nil)))) (m135 ax r75 r76 (zup (zup (zup (zup st 170 4 ax) 170 5 ax) 170 3 0) 170 12 (-1)) ⟨(gInv_up (gInv_up (gInv_up (gInv_up hG (p_signAt (by omega))) (p_signEnd (by omega))) (p_sign (by omega))) (p_lexAt (by omega))), (fr_f (fr_f (fr_f (fr_f (fr_rf _ _) rfl) rfl) rfl) rfl), (show st 170 5 ≤ ax ∧ ax < st 170 2 ∧ ax = ax ∧ (r75 = 0 ∨ r75 = 1) ∧ (r76 = 0 ∨ r76 = 1) ∧ (r75 = 1 ↔ 97 ≤ st 171 (ax : Int).toNat ∧ st 171 (ax : Int).toNat ≤ 122) ∧ (r76 = 1 ↔ 48 ≤ st 171 (ax : Int).toNat ∧ st 171 (ax : Int).toNat ≤ 57) from by omega), (show wrn (fun j => wbl (tcc (fun k => st 171 k.toNat) (st 170 2) j)) (st 170 5) ax from w_m41), (show LXd (fun k => st 171 k.toNat) r75 r76 ax ((-1)) from by
          unfold LXd nbp wle wdi
          show (_ ∧ (0 < ax ∧ ((97 ≤ st 171 (ax - 1 : Int).toNat ∧ st 171 (ax - 1 : Int).toNat ≤ 122) ∨ (48 ≤ st 171 (ax - 1 : Int).toNat ∧ st 171 (ax - 1 : Int).toNat ≤ 57))) → _) ∧ (¬ (_ ∧ (0 < ax ∧ ((97 ≤ st 171 (ax - 1 : Int).toNat ∧ st 171 (ax - 1 : Int).toNat ≤ 122) ∨ (48 ≤ st 171 (ax - 1 : Int).toNat ∧ st 171 (ax - 1 : Int).toNat ≤ 57)))) → _)
          constructor
          · intro z
            omega
          · intro z
            omega)⟩)
          · refine ⟨by omega, ?_⟩
            have g90 := g_tape hG (ax - 1 : Int).toNat
            refine ⟨by omega, ?_⟩
            refine fun r79 q79 => ?_
            have b79 := q79
            change (r79 = 0 ∨ r79 = 1) ∧ (r79 = 1 ↔ 97 ≤ (st 171 (ax - 1 : Int).toNat) ∧ (st 171 (ax - 1 : Int).toNat) ≤ 122) at b79
            refine ⟨fun h91 => ?_, fun h91 => ?_⟩
            · exact hsl _ _ _ _ _ (sb_cons (.tail _ (.tail _ (.head _))) (sb_cons (.tail _ (.tail _ (.tail _ (.head _)))) (sb_cons (.tail _ (.head _)) (sb_cons (.head _) sb_nil)))) (m135 ax r75 r76 (zup (zup (zup (zup (zup st 170 4 ax) 170 5 ax) 170 3 0) 170 12 (-1)) 170 12 ax) ⟨(gInv_up (gInv_up (gInv_up (gInv_up (gInv_up hG (p_signAt (by omega))) (p_signEnd (by omega))) (p_sign (by omega))) (p_lexAt (by omega))) (p_lexAt (by omega))), (fr_f (fr_f (fr_f (fr_f (fr_f (fr_rf _ _) rfl) rfl) rfl) rfl) rfl), (show st 170 5 ≤ ax ∧ ax < st 170 2 ∧ ax = ax ∧ (r75 = 0 ∨ r75 = 1) ∧ (r76 = 0 ∨ r76 = 1) ∧ (r75 = 1 ↔ 97 ≤ st 171 (ax : Int).toNat ∧ st 171 (ax : Int).toNat ≤ 122) ∧ (r76 = 1 ↔ 48 ≤ st 171 (ax : Int).toNat ∧ st 171 (ax : Int).toNat ≤ 57) from by omega), (show wrn (fun j => wbl (tcc (fun k => st 171 k.toNat) (st 170 2) j)) (st 170 5) ax from w_m41), (show LXd (fun k => st 171 k.toNat) r75 r76 ax (ax) from by
          unfold LXd nbp wle wdi
          show (_ ∧ (0 < ax ∧ ((97 ≤ st 171 (ax - 1 : Int).toNat ∧ st 171 (ax - 1 : Int).toNat ≤ 122) ∨ (48 ≤ st 171 (ax - 1 : Int).toNat ∧ st 171 (ax - 1 : Int).toNat ≤ 57))) → _) ∧ (¬ (_ ∧ (0 < ax ∧ ((97 ≤ st 171 (ax - 1 : Int).toNat ∧ st 171 (ax - 1 : Int).toNat ≤ 122) ∨ (48 ≤ st 171 (ax - 1 : Int).toNat ∧ st 171 (ax - 1 : Int).toNat ≤ 57)))) → _)
          constructor
          · intro z
            omega
          · intro z
            omega)⟩)
            · refine ⟨by omega, ?_⟩
              refine ⟨by omega, ?_⟩
              refine fun r80 q80 => ?_
              have b80 := q80
              change (r80 = 0 ∨ r80 = 1) ∧ (r80 = 1 ↔ 48 ≤ (st 171 (ax - 1 : Int).toNat) ∧ (st 171 (ax - 1 : Int).toNat) ≤ 57) at b80
              refine ⟨fun h92 => ?_, fun h92 => ?_⟩
              · exact hsl _ _ _ _ _ (sb_cons (.tail _ (.tail _ (.head _))) (sb_cons (.tail _ (.tail _ (.tail _ (.head _)))) (sb_cons (.tail _ (.head _)) (sb_cons (.head _) sb_nil)))) (m135 ax r75 r76 (zup (zup (zup (zup st 170 4 ax) 170 5 ax) 170 3 0) 170 12 (-1)) ⟨(gInv_up (gInv_up (gInv_up (gInv_up hG (p_signAt (by omega))) (p_signEnd (by omega))) (p_sign (by omega))) (p_lexAt (by omega))), (fr_f (fr_f (fr_f (fr_f (fr_rf _ _) rfl) rfl) rfl) rfl), (show st 170 5 ≤ ax ∧ ax < st 170 2 ∧ ax = ax ∧ (r75 = 0 ∨ r75 = 1) ∧ (r76 = 0 ∨ r76 = 1) ∧ (r75 = 1 ↔ 97 ≤ st 171 (ax : Int).toNat ∧ st 171 (ax : Int).toNat ≤ 122) ∧ (r76 = 1 ↔ 48 ≤ st 171 (ax : Int).toNat ∧ st 171 (ax : Int).toNat ≤ 57) from by omega), (show wrn (fun j => wbl (tcc (fun k => st 171 k.toNat) (st 170 2) j)) (st 170 5) ax from w_m41), (show LXd (fun k => st 171 k.toNat) r75 r76 ax ((-1)) from by
          unfold LXd nbp wle wdi
          show (_ ∧ (0 < ax ∧ ((97 ≤ st 171 (ax - 1 : Int).toNat ∧ st 171 (ax - 1 : Int).toNat ≤ 122) ∨ (48 ≤ st 171 (ax - 1 : Int).toNat ∧ st 171 (ax - 1 : Int).toNat ≤ 57))) → _) ∧ (¬ (_ ∧ (0 < ax ∧ ((97 ≤ st 171 (ax - 1 : Int).toNat ∧ st 171 (ax - 1 : Int).toNat ≤ 122) ∨ (48 ≤ st 171 (ax - 1 : Int).toNat ∧ st 171 (ax - 1 : Int).toNat ≤ 57)))) → _)
          constructor
          · intro z
            omega
          · intro z
            omega)⟩)
              · exact hsl _ _ _ _ _ (sb_cons (.tail _ (.tail _ (.head _))) (sb_cons (.tail _ (.tail _ (.tail _ (.head _)))) (sb_cons (.tail _ (.head _)) (sb_cons (.head _) sb_nil)))) (m135 ax r75 r76 (zup (zup (zup (zup (zup st 170 4 ax) 170 5 ax) 170 3 0) 170 12 (-1)) 170 12 ax) ⟨(gInv_up (gInv_up (gInv_up (gInv_up (gInv_up hG (p_signAt (by omega))) (p_signEnd (by omega))) (p_sign (by omega))) (p_lexAt (by omega))) (p_lexAt (by omega))), (fr_f (fr_f (fr_f (fr_f (fr_f (fr_rf _ _) rfl) rfl) rfl) rfl) rfl), (show st 170 5 ≤ ax ∧ ax < st 170 2 ∧ ax = ax ∧ (r75 = 0 ∨ r75 = 1) ∧ (r76 = 0 ∨ r76 = 1) ∧ (r75 = 1 ↔ 97 ≤ st 171 (ax : Int).toNat ∧ st 171 (ax : Int).toNat ≤ 122) ∧ (r76 = 1 ↔ 48 ≤ st 171 (ax : Int).toNat ∧ st 171 (ax : Int).toNat ≤ 57) from by omega), (show wrn (fun j => wbl (tcc (fun k => st 171 k.toNat) (st 170 2) j)) (st 170 5) ax from w_m41), (show LXd (fun k => st 171 k.toNat) r75 r76 ax (ax) from by
          unfold LXd nbp wle wdi
          show (_ ∧ (0 < ax ∧ ((97 ≤ st 171 (ax - 1 : Int).toNat ∧ st 171 (ax - 1 : Int).toNat ≤ 122) ∨ (48 ≤ st 171 (ax - 1 : Int).toNat ∧ st 171 (ax - 1 : Int).toNat ≤ 57))) → _) ∧ (¬ (_ ∧ (0 < ax ∧ ((97 ≤ st 171 (ax - 1 : Int).toNat ∧ st 171 (ax - 1 : Int).toNat ≤ 122) ∨ (48 ≤ st 171 (ax - 1 : Int).toNat ∧ st 171 (ax - 1 : Int).toNat ≤ 57)))) → _)
          constructor
          · intro z
            omega
          · intro z
            omega)⟩)
    · have g93 := g_value hG
      have g94 := g_word hG
      exact hQ _ ⟨(gInv_up (gInv_up (gInv_up (gInv_up hG (p_signAt (by omega))) (p_signEnd (by omega))) (p_sign (by omega))) (p_lexAt (by omega))), (fr_f (fr_f (fr_f (fr_f (fr_rf _ _) rfl) rfl) rfl) rfl), (show ∃ k v s e : Int, TK (fun k => st 171 k.toNat) (st 170 2) (st 170 5) k v s e ∧ RW (0) (st 170 6) (st 170 7) (ax) (ax) ((-1)) k v s e from ⟨0, 0, ax, ax, ⟨w_m41, Or.inl ⟨by omega, rfl, rfl, rfl⟩⟩, rfl, Or.inl ⟨rfl, rfl, rfl, rfl⟩⟩)⟩
  have la : ∀ (u : Nat) (ax : Int), (st 170 5 ≤ ax ∧ ax ≤ st 170 2) ∧ (∀ j : Int, st 170 5 ≤ j → j < ax → wbl (tcc (fun k => st 171 k.toNat) (st 170 2) j)) → (st 170 2 - ax).toNat = u → K (rx_find rx_m149 5) [(0, .inr (.inr (.inl 170))), (1, .inl ax)] [] st := by
    intro u_la
    induction u_la using Nat.strongRecOn with
    | _ u_la ih_la =>
      intro ax hi hu_la
      obtain ⟨b_la, b2_la⟩ := hi
      have g95 := g_signEnd hG
      have g96 := g_size hG
      refine yr1_ok (Rt := Q) (wc := (wcL [(179, k_isLetter), (180, k_isDigit)])) (stp := [5, 41, 135, 204, 243, 263, 293, 325]) hcm hcl [] 206 ?_
      show ((st 170 2 ≤ ax → K (rx_find rx_m149 41) [(0, .inr (.inr (.inl 170))), (1, .inl ax)] [] st) ∧ (¬ (st 170 2 ≤ ax) → ((0 ≤ ax ∧ ax < 1800) ∧ ((st 171 (ax : Int).toNat = (32 : Int) → ((-2147483648 ≤ ax + 1 ∧ ax + 1 ≤ 2147483647) ∧ K (rx_find rx_m149 5) [(1, .inl (ax + 1)), (0, .inr (.inr (.inl 170)))] [] st)) ∧ (¬ (st 171 (ax : Int).toNat = (32 : Int)) → ((0 ≤ ax ∧ ax < 1800) ∧ ((¬ st 171 (ax : Int).toNat = (10 : Int) → K (rx_find rx_m149 41) [(0, .inr (.inr (.inl 170))), (1, .inl ax)] [] st) ∧ (¬ (¬ st 171 (ax : Int).toNat = (10 : Int)) → ((-2147483648 ≤ ax + 1 ∧ ax + 1 ≤ 2147483647) ∧ K (rx_find rx_m149 5) [(1, .inl (ax + 1)), (0, .inr (.inr (.inl 170)))] [] st)))))))))
      refine ⟨fun h97 => ?_, fun h97 => ?_⟩
      · exact m41 ax ⟨(show st 170 5 ≤ ax ∧ ax ≤ st 170 2 from by omega), (show wrn (fun j => wbl (tcc (fun k => st 171 k.toNat) (st 170 2) j)) (st 170 5) ax from ⟨by omega, b2_la, fun z => (by
            have z : wbl (tcc (fun k => st 171 k.toNat) (st 170 2) ax) := z
            first | (rw [tcc_out (by omega)] at z; unfold wbl at z; omega) | (rw [tcc_in (by omega)] at z; unfold wbl at z; have z : st 171 (ax : Int).toNat = 32 ∨ st 171 (ax : Int).toNat = 10 := z; omega))⟩)⟩
      · have g98 := g_tape hG (ax : Int).toNat
        refine ⟨by omega, ?_⟩
        refine ⟨fun h99 => ?_, fun h99 => ?_⟩
        · refine ⟨by omega, ?_⟩
          exact hsl _ _ _ _ _ (sb_cons (.tail _ (.head _)) (sb_cons (.head _) sb_nil)) (ih_la _ (show (st 170 2 - (ax + 1) : Int).toNat < u_la from by omega) (ax + 1) ⟨(show st 170 5 ≤ (ax + 1) ∧ (ax + 1) ≤ st 170 2 from by omega), (show ∀ j : Int, st 170 5 ≤ j → j < (ax + 1) → wbl (tcc (fun k => st 171 k.toNat) (st 170 2) j) from fun j z1 z2 => by
            by_cases z3 : j = ax
            · rw [z3, tcc_in (by omega)]; unfold wbl; show st 171 (ax : Int).toNat = 32 ∨ st 171 (ax : Int).toNat = 10; omega
            · exact b2_la j z1 (by omega))⟩ rfl)
        · refine ⟨by omega, ?_⟩
          refine ⟨fun h100 => ?_, fun h100 => ?_⟩
          · exact m41 ax ⟨(show st 170 5 ≤ ax ∧ ax ≤ st 170 2 from by omega), (show wrn (fun j => wbl (tcc (fun k => st 171 k.toNat) (st 170 2) j)) (st 170 5) ax from ⟨by omega, b2_la, fun z => (by
            have z : wbl (tcc (fun k => st 171 k.toNat) (st 170 2) ax) := z
            first | (rw [tcc_out (by omega)] at z; unfold wbl at z; omega) | (rw [tcc_in (by omega)] at z; unfold wbl at z; have z : st 171 (ax : Int).toNat = 32 ∨ st 171 (ax : Int).toNat = 10 := z; omega))⟩)⟩
          · refine ⟨by omega, ?_⟩
            exact hsl _ _ _ _ _ (sb_cons (.tail _ (.head _)) (sb_cons (.head _) sb_nil)) (ih_la _ (show (st 170 2 - (ax + 1) : Int).toNat < u_la from by omega) (ax + 1) ⟨(show st 170 5 ≤ (ax + 1) ∧ (ax + 1) ≤ st 170 2 from by omega), (show ∀ j : Int, st 170 5 ≤ j → j < (ax + 1) → wbl (tcc (fun k => st 171 k.toNat) (st 170 2) j) from fun j z1 z2 => by
            by_cases z3 : j = ax
            · rw [z3, tcc_in (by omega)]; unfold wbl; show st 171 (ax : Int).toNat = 32 ∨ st 171 (ax : Int).toNat = 10; omega
            · exact b2_la j z1 (by omega))⟩ rfl)
  have g101 := g_signEnd hG
  have g102 := g_size hG
  refine yr1_ok (Rt := Q) (wc := (wcL [(179, k_isLetter), (180, k_isDigit)])) (stp := [5, 41, 135, 204, 243, 263, 293, 325]) hcm hcl [] 206 ?_
  show K (rx_find rx_m149 5) [(1, .inl (st 170 5)), (0, .inr (.inr (.inl 170)))] [] st
  exact hsl _ _ _ _ _ (sb_cons (.tail _ (.head _)) (sb_cons (.head _) sb_nil)) (la _ (st 170 5) ⟨(show st 170 5 ≤ (st 170 5) ∧ (st 170 5) ≤ st 170 2 from by omega), (show ∀ j : Int, st 170 5 ≤ j → j < (st 170 5) → wbl (tcc (fun k => st 171 k.toNat) (st 170 2) j) from fun j z1 z2 => by omega)⟩ rfl)
theorem k_rAhead_m (hTb : aTb zSh rx_tb cl) {D : Nat} (hD : 2 ≤ D) : ∀ as st (Q Q' : zQ), (∀ r st', Q r st' → Q' r st') → k_rAhead 149 as st Q → cl D 149 as st Q' := by
  intro as st Q Q' hQ h
  unfold k_rAhead at h
  split at h
  · obtain ⟨rfl, h⟩ := h
    exact c_rAhead hTb hD (ct_rAhead_m hQ h)
  · exact h.elim
end R97
