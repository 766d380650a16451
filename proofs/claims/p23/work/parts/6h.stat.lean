/-! printed by wip/p32/lib9.py: a statement and its end -/
section R6h
variable {cl : Nat → zCall}
set_option maxHeartbeats 40000000 in
set_option maxRecDepth 100000 in
theorem c_statement (hTb : aTb zSh rx_tb cl) {D : Nat} (hD : 7 ≤ D) {st : zS} {Q : zQ} (h : ct_statement  st Q) : cl D 210 [.inr (.inr (.inl 170))] st Q := by
  obtain ⟨d, rfl⟩ : ∃ d, D = d + 1 := ⟨D - 1, by omega⟩
  refine hTb d 210 (rx_m210, 1, 0, 0, 0) rfl _ _ _ (Nat.le_of_ble_eq_true rfl) (fun K hcl hsf hsl => ?_)
  have hcm : zmo (wcL [(181, k_lex), (183, k_isWord), (204, k_placing), (205, k_streeting), (206, k_stepping), (207, k_thinging), (208, k_reading), (209, k_heating), (178, k_blame)]) (cl d) := (wcL_m (wm_cons (k_lex_m hTb (by omega)) (wm_cons (k_isWord_m hTb (by omega)) (wm_cons (k_placing_m hTb (by omega)) (wm_cons (k_streeting_m hTb (by omega)) (wm_cons (k_stepping_m hTb (by omega)) (wm_cons (k_thinging_m hTb (by omega)) (wm_cons (k_reading_m hTb (by omega)) (wm_cons (k_heating_m hTb (by omega)) (wm_cons (k_blame_m hTb (by omega)) wm_nil))))))))))
  obtain ⟨hR, hQ⟩ := h
  obtain ⟨hG, lx, ts, q, bk⟩ := hR
  change st 170 4 ≤ st 170 5 ∧ st 170 5 ≤ st 170 2 ∧ (st 170 3 = 0 ∧ st 170 4 = st 170 2 ∨ 1 ≤ st 170 3 ∧ st 170 4 < st 170 5) at lx
  change TS st at ts
  change st 170 8 = 0 ∧ st 170 34 ≤ st 170 4 ∧ 1 ≤ st 170 3 at q
  change st 170 35 = 1 - st 170 13 at bk
  have g1 := g_signAt hG
  have g2 := g_signEnd hG
  have g3 := g_size hG
  have g4 := g_sign hG
  have g5 := g_faultKind hG
  have g6 := g_codes hG
  have g7 := g_in hG
  have g8 := g_bank hG
  refine yr1_ok (Rt := Q) (wc := (wcL [(181, k_lex), (183, k_isWord), (204, k_placing), (205, k_streeting), (206, k_stepping), (207, k_thinging), (208, k_reading), (209, k_heating), (178, k_blame)])) (stp := []) hcm hcl [] 92 ?_
  show (170 = 170 ∧ (rq_lex  st ∧ (∀ (s9 : zS), en_lex  st s9 → ((s9 170 8 ≤ (0 : Int) → (170 = 170 ∧ (∀ (r10 : Int), en_isWord (482854658917) s9 r10 → ((r10 = (0 : Int) → (170 = 170 ∧ (∀ (r11 : Int), en_isWord (126943972648308) s9 r11 → ((r11 = (0 : Int) → (170 = 170 ∧ (∀ (r12 : Int), en_isWord (1937007984) s9 r12 → ((r12 = (0 : Int) → (170 = 170 ∧ (∀ (r13 : Int), en_isWord (499967946343) s9 r13 → ((r13 = (0 : Int) → (170 = 170 ∧ (∀ (r14 : Int), en_isWord (126943688025203) s9 r14 → ((r14 = (0 : Int) → (170 = 170 ∧ (∀ (r15 : Int), en_isWord (109317209875826) s9 r15 → ((r15 = (0 : Int) → (170 = 170 ∧ (∀ (r16 : Int), en_isWord (1751474548) s9 r16 → ((r16 = (0 : Int) → (170 = 170 ∧ (∀ (r17 : Int), en_isWord (6844276) s9 r17 → ((r17 = (0 : Int) → (170 = 170 ∧ (rq_blame (1) (s9 170 4) s9 ∧ (∀ (s18 : zS), en_blame (1) (s9 170 4) s9 s18 → Q none s18)))) ∧ (¬ (r17 = (0 : Int)) → (170 = 170 ∧ (rq_heating (1) s9 ∧ (∀ (s19 : zS), en_heating (1) s9 s19 → Q none s19)))))))) ∧ (¬ (r16 = (0 : Int)) → (170 = 170 ∧ (rq_heating (0) s9 ∧ (∀ (s20 : zS), en_heating (0) s9 s20 → Q none s20)))))))) ∧ (¬ (r15 = (0 : Int)) → (170 = 170 ∧ (rq_reading (1) s9 ∧ (∀ (s21 : zS), en_reading (1) s9 s21 → Q none s21)))))))) ∧ (¬ (r14 = (0 : Int)) → (170 = 170 ∧ (rq_reading (0) s9 ∧ (∀ (s22 : zS), en_reading (0) s9 s22 → Q none s22)))))))) ∧ (¬ (r13 = (0 : Int)) → (170 = 170 ∧ (rq_thinging  s9 ∧ (∀ (s23 : zS), en_thinging  s9 s23 → Q none s23)))))))) ∧ (¬ (r12 = (0 : Int)) → (170 = 170 ∧ (rq_stepping  s9 ∧ (∀ (s24 : zS), en_stepping  s9 s24 → Q none s24)))))))) ∧ (¬ (r11 = (0 : Int)) → (170 = 170 ∧ (rq_streeting  s9 ∧ (∀ (s25 : zS), en_streeting  s9 s25 → Q none s25)))))))) ∧ (¬ (r10 = (0 : Int)) → (170 = 170 ∧ (rq_placing  s9 ∧ (∀ (s26 : zS), en_placing  s9 s26 → Q none s26)))))))) ∧ (¬ (s9 170 8 ≤ (0 : Int)) → Q none s9)))))
  refine ⟨rfl, hG, fun s9 q9 => ?_⟩
  obtain ⟨gs9, fs9, p9⟩ := q9
  change 0 < st 170 8 → 0 < s9 170 8 at p9
  have g27 := g_faultKind gs9
  refine ⟨fun h28 => ?_, fun h28 => ?_⟩
  · refine ⟨rfl, fun r10 q10 => ?_⟩
    have b10 := q10
    change (r10 = 0 ∨ r10 = 1) ∧ (r10 = 1 ↔ s9 170 3 = 1 ∧ s9 170 7 = (482854658917)) at b10
    have e29 : s9 170 3 = st 170 3 := fs9 170 3 rfl rfl
    have g31 := g_word hG
    have e30 : s9 170 7 = st 170 7 := fs9 170 7 rfl rfl
    refine ⟨fun h32 => ?_, fun h32 => ?_⟩
    · clear b10
      refine ⟨rfl, fun r11 q11 => ?_⟩
      have b11 := q11
      change (r11 = 0 ∨ r11 = 1) ∧ (r11 = 1 ↔ s9 170 3 = 1 ∧ s9 170 7 = (126943972648308)) at b11
      refine ⟨fun h33 => ?_, fun h33 => ?_⟩
      · clear b11
        refine ⟨rfl, fun r12 q12 => ?_⟩
        have b12 := q12
        change (r12 = 0 ∨ r12 = 1) ∧ (r12 = 1 ↔ s9 170 3 = 1 ∧ s9 170 7 = (1937007984)) at b12
        refine ⟨fun h34 => ?_, fun h34 => ?_⟩
        · clear b12
          refine ⟨rfl, fun r13 q13 => ?_⟩
          have b13 := q13
          change (r13 = 0 ∨ r13 = 1) ∧ (r13 = 1 ↔ s9 170 3 = 1 ∧ s9 170 7 = (499967946343)) at b13
          refine ⟨fun h35 => ?_, fun h35 => ?_⟩
          · clear b13
            refine ⟨rfl, fun r14 q14 => ?_⟩
            have b14 := q14
            change (r14 = 0 ∨ r14 = 1) ∧ (r14 = 1 ↔ s9 170 3 = 1 ∧ s9 170 7 = (126943688025203)) at b14
            refine ⟨fun h36 => ?_, fun h36 => ?_⟩
            · clear b14
              refine ⟨rfl, fun r15 q15 => ?_⟩
              have b15 := q15
              change (r15 = 0 ∨ r15 = 1) ∧ (r15 = 1 ↔ s9 170 3 = 1 ∧ s9 170 7 = (109317209875826)) at b15
              refine ⟨fun h37 => ?_, fun h37 => ?_⟩
              · clear b15
                refine ⟨rfl, fun r16 q16 => ?_⟩
                have b16 := q16
                change (r16 = 0 ∨ r16 = 1) ∧ (r16 = 1 ↔ s9 170 3 = 1 ∧ s9 170 7 = (1751474548)) at b16
                refine ⟨fun h38 => ?_, fun h38 => ?_⟩
                · clear b16
                  refine ⟨rfl, fun r17 q17 => ?_⟩
                  have b17 := q17
                  change (r17 = 0 ∨ r17 = 1) ∧ (r17 = 1 ↔ s9 170 3 = 1 ∧ s9 170 7 = (6844276)) at b17
                  refine ⟨fun h39 => ?_, fun h39 => ?_⟩
                  · clear b17
                    have e40 : s9 170 4 = st 170 4 := fs9 170 4 rfl rfl
                    refine ⟨rfl, ⟨gs9, (show 1 ≤ (1) ∧ (1) ≤ 6 from by omega), (show -2147483648 ≤ (s9 170 4) ∧ (s9 170 4) ≤ 2147483647 from by omega)⟩, fun s18 q18 => ?_⟩
                    obtain ⟨gs18, fs18, p18⟩ := q18
                    change (s9 170 8 = 0 → s18 170 8 = (1)) ∧ (0 < s9 170 8 → s18 170 8 = s9 170 8) at p18
                    have g41 := g_faultKind gs18
                    have e42 : s18 170 4 = s9 170 4 := fs18 170 4 rfl rfl
                    have e44 : s9 170 5 = st 170 5 := fs9 170 5 rfl rfl
                    have e43 : s18 170 5 = s9 170 5 := fs18 170 5 rfl rfl
                    have e46 : s9 170 2 = st 170 2 := fs9 170 2 rfl rfl
                    have e45 : s18 170 2 = s9 170 2 := fs18 170 2 rfl rfl
                    have e47 : s18 170 3 = s9 170 3 := fs18 170 3 rfl rfl
                    have e49 : s9 170 34 = st 170 34 := fs9 170 34 rfl rfl
                    have e48 : s18 170 34 = s9 170 34 := fs18 170 34 rfl rfl
                    exact hQ _ ⟨gs18, (fr_tr (fr_tr (fr_rf _ _) fs9 rfl) fs18 rfl), (show s18 170 4 ≤ s18 170 5 ∧ s18 170 5 ≤ s18 170 2 ∧ (s18 170 3 = 0 ∧ s18 170 4 = s18 170 2 ∨ 1 ≤ s18 170 3 ∧ s18 170 4 < s18 170 5) ∧ st 170 4 ≤ s18 170 4 from by omega), (show jR st s18 from (jR_tr (s1 := s9) (jR_tr (s1 := st) (jR_rf _) (jR_fr rfl fs9)) (jR_fr rfl fs18))), (show s18 170 8 = 0 → TS s18 ∧ s18 170 34 ≤ s18 170 4 from fun z => absurd z (by omega))⟩
                  · have b17_ : r17 = 1 := by omega
                    replace b17 := b17.2.mp b17_
                    have e50 : s9 170 4 = st 170 4 := fs9 170 4 rfl rfl
                    have e51 : s9 170 5 = st 170 5 := fs9 170 5 rfl rfl
                    have e52 : s9 170 2 = st 170 2 := fs9 170 2 rfl rfl
                    have e53 : s9 170 34 = st 170 34 := fs9 170 34 rfl rfl
                    have e54 : s9 170 35 = st 170 35 := fs9 170 35 rfl rfl
                    have e55 : s9 170 13 = st 170 13 := fs9 170 13 rfl rfl
                    refine ⟨rfl, ⟨gs9, (show s9 170 4 ≤ s9 170 5 ∧ s9 170 5 ≤ s9 170 2 ∧ (s9 170 3 = 0 ∧ s9 170 4 = s9 170 2 ∨ 1 ≤ s9 170 3 ∧ s9 170 4 < s9 170 5) from by omega), (show TS s9 from (TS_fr rfl fs9 ts)), (show s9 170 8 = 0 ∧ s9 170 34 ≤ s9 170 4 ∧ 1 ≤ s9 170 3 from by omega), (show s9 170 35 = 1 - s9 170 13 from by omega), (show (1) = 0 ∨ (1) = 1 from by omega)⟩, fun s19 q19 => ?_⟩
                    obtain ⟨gs19, fs19, p19, R19, e19⟩ := q19
                    change s19 170 4 ≤ s19 170 5 ∧ s19 170 5 ≤ s19 170 2 ∧ (s19 170 3 = 0 ∧ s19 170 4 = s19 170 2 ∨ 1 ≤ s19 170 3 ∧ s19 170 4 < s19 170 5) ∧ s9 170 4 ≤ s19 170 4 at p19
                    have g56 := g_signAt gs19
                    have g57 := g_signEnd gs19
                    have e58 : s19 170 2 = s9 170 2 := fs19 170 2 rfl rfl
                    have g59 := g_sign gs19
                    change jR s9 s19 at R19
                    change s19 170 8 = 0 → TS s19 ∧ s19 170 34 ≤ s19 170 4 at e19
                    have g60 := g_faultKind gs19
                    have g61 := g_codes gs19
                    exact hQ _ ⟨gs19, (fr_tr (fr_tr (fr_rf _ _) fs9 rfl) fs19 rfl), (show s19 170 4 ≤ s19 170 5 ∧ s19 170 5 ≤ s19 170 2 ∧ (s19 170 3 = 0 ∧ s19 170 4 = s19 170 2 ∨ 1 ≤ s19 170 3 ∧ s19 170 4 < s19 170 5) ∧ st 170 4 ≤ s19 170 4 from by omega), (show jR st s19 from (jR_tr (s1 := s9) (jR_tr (s1 := st) (jR_rf _) (jR_fr rfl fs9)) R19)), (show s19 170 8 = 0 → TS s19 ∧ s19 170 34 ≤ s19 170 4 from e19)⟩
                · have b16_ : r16 = 1 := by omega
                  replace b16 := b16.2.mp b16_
                  have e62 : s9 170 4 = st 170 4 := fs9 170 4 rfl rfl
                  have e63 : s9 170 5 = st 170 5 := fs9 170 5 rfl rfl
                  have e64 : s9 170 2 = st 170 2 := fs9 170 2 rfl rfl
                  have e65 : s9 170 34 = st 170 34 := fs9 170 34 rfl rfl
                  have e66 : s9 170 35 = st 170 35 := fs9 170 35 rfl rfl
                  have e67 : s9 170 13 = st 170 13 := fs9 170 13 rfl rfl
                  refine ⟨rfl, ⟨gs9, (show s9 170 4 ≤ s9 170 5 ∧ s9 170 5 ≤ s9 170 2 ∧ (s9 170 3 = 0 ∧ s9 170 4 = s9 170 2 ∨ 1 ≤ s9 170 3 ∧ s9 170 4 < s9 170 5) from by omega), (show TS s9 from (TS_fr rfl fs9 ts)), (show s9 170 8 = 0 ∧ s9 170 34 ≤ s9 170 4 ∧ 1 ≤ s9 170 3 from by omega), (show s9 170 35 = 1 - s9 170 13 from by omega), (show (0) = 0 ∨ (0) = 1 from by omega)⟩, fun s20 q20 => ?_⟩
                  obtain ⟨gs20, fs20, p20, R20, e20⟩ := q20
                  change s20 170 4 ≤ s20 170 5 ∧ s20 170 5 ≤ s20 170 2 ∧ (s20 170 3 = 0 ∧ s20 170 4 = s20 170 2 ∨ 1 ≤ s20 170 3 ∧ s20 170 4 < s20 170 5) ∧ s9 170 4 ≤ s20 170 4 at p20
                  have g68 := g_signAt gs20
                  have g69 := g_signEnd gs20
                  have e70 : s20 170 2 = s9 170 2 := fs20 170 2 rfl rfl
                  have g71 := g_sign gs20
                  change jR s9 s20 at R20
                  change s20 170 8 = 0 → TS s20 ∧ s20 170 34 ≤ s20 170 4 at e20
                  have g72 := g_faultKind gs20
                  have g73 := g_codes gs20
                  exact hQ _ ⟨gs20, (fr_tr (fr_tr (fr_rf _ _) fs9 rfl) fs20 rfl), (show s20 170 4 ≤ s20 170 5 ∧ s20 170 5 ≤ s20 170 2 ∧ (s20 170 3 = 0 ∧ s20 170 4 = s20 170 2 ∨ 1 ≤ s20 170 3 ∧ s20 170 4 < s20 170 5) ∧ st 170 4 ≤ s20 170 4 from by omega), (show jR st s20 from (jR_tr (s1 := s9) (jR_tr (s1 := st) (jR_rf _) (jR_fr rfl fs9)) R20)), (show s20 170 8 = 0 → TS s20 ∧ s20 170 34 ≤ s20 170 4 from e20)⟩
              · have b15_ : r15 = 1 := by omega
                replace b15 := b15.2.mp b15_
                have e74 : s9 170 4 = st 170 4 := fs9 170 4 rfl rfl
                have e75 : s9 170 5 = st 170 5 := fs9 170 5 rfl rfl
                have e76 : s9 170 2 = st 170 2 := fs9 170 2 rfl rfl
                have e77 : s9 170 34 = st 170 34 := fs9 170 34 rfl rfl
                have e78 : s9 170 35 = st 170 35 := fs9 170 35 rfl rfl
                have e79 : s9 170 13 = st 170 13 := fs9 170 13 rfl rfl
                refine ⟨rfl, ⟨gs9, (show s9 170 4 ≤ s9 170 5 ∧ s9 170 5 ≤ s9 170 2 ∧ (s9 170 3 = 0 ∧ s9 170 4 = s9 170 2 ∨ 1 ≤ s9 170 3 ∧ s9 170 4 < s9 170 5) from by omega), (show TS s9 from (TS_fr rfl fs9 ts)), (show s9 170 8 = 0 ∧ s9 170 34 ≤ s9 170 4 ∧ 1 ≤ s9 170 3 from by omega), (show s9 170 35 = 1 - s9 170 13 from by omega), (show (1) = 0 ∨ (1) = 1 from by omega)⟩, fun s21 q21 => ?_⟩
                obtain ⟨gs21, fs21, p21, R21, e21⟩ := q21
                change s21 170 4 ≤ s21 170 5 ∧ s21 170 5 ≤ s21 170 2 ∧ (s21 170 3 = 0 ∧ s21 170 4 = s21 170 2 ∨ 1 ≤ s21 170 3 ∧ s21 170 4 < s21 170 5) ∧ s9 170 4 ≤ s21 170 4 at p21
                have g80 := g_signAt gs21
                have g81 := g_signEnd gs21
                have e82 : s21 170 2 = s9 170 2 := fs21 170 2 rfl rfl
                have g83 := g_sign gs21
                change jR s9 s21 at R21
                change s21 170 8 = 0 → TS s21 ∧ s21 170 34 ≤ s21 170 4 at e21
                have g84 := g_faultKind gs21
                have g85 := g_codes gs21
                exact hQ _ ⟨gs21, (fr_tr (fr_tr (fr_rf _ _) fs9 rfl) fs21 rfl), (show s21 170 4 ≤ s21 170 5 ∧ s21 170 5 ≤ s21 170 2 ∧ (s21 170 3 = 0 ∧ s21 170 4 = s21 170 2 ∨ 1 ≤ s21 170 3 ∧ s21 170 4 < s21 170 5) ∧ st 170 4 ≤ s21 170 4 from by omega), (show jR st s21 from (jR_tr (s1 := s9) (jR_tr (s1 := st) (jR_rf _) (jR_fr rfl fs9)) R21)), (show s21 170 8 = 0 → TS s21 ∧ s21 170 34 ≤ s21 170 4 from e21)⟩
            · have b14_ : r14 = 1 := by omega
              replace b14 := b14.2.mp b14_
              have e86 : s9 170 4 = st 170 4 := fs9 170 4 rfl rfl
              have e87 : s9 170 5 = st 170 5 := fs9 170 5 rfl rfl
              have e88 : s9 170 2 = st 170 2 := fs9 170 2 rfl rfl
              have e89 : s9 170 34 = st 170 34 := fs9 170 34 rfl rfl
              have e90 : s9 170 35 = st 170 35 := fs9 170 35 rfl rfl
              have e91 : s9 170 13 = st 170 13 := fs9 170 13 rfl rfl
              refine ⟨rfl, ⟨gs9, (show s9 170 4 ≤ s9 170 5 ∧ s9 170 5 ≤ s9 170 2 ∧ (s9 170 3 = 0 ∧ s9 170 4 = s9 170 2 ∨ 1 ≤ s9 170 3 ∧ s9 170 4 < s9 170 5) from by omega), (show TS s9 from (TS_fr rfl fs9 ts)), (show s9 170 8 = 0 ∧ s9 170 34 ≤ s9 170 4 ∧ 1 ≤ s9 170 3 from by omega), (show s9 170 35 = 1 - s9 170 13 from by omega), (show (0) = 0 ∨ (0) = 1 from by omega)⟩, fun s22 q22 => ?_⟩
              obtain ⟨gs22, fs22, p22, R22, e22⟩ := q22
              change s22 170 4 ≤ s22 170 5 ∧ s22 170 5 ≤ s22 170 2 ∧ (s22 170 3 = 0 ∧ s22 170 4 = s22 170 2 ∨ 1 ≤ s22 170 3 ∧ s22 170 4 < s22 170 5) ∧ s9 170 4 ≤ s22 170 4 at p22
              have g92 := g_signAt gs22
              have g93 := g_signEnd gs22
              have e94 : s22 170 2 = s9 170 2 := fs22 170 2 rfl rfl
              have g95 := g_sign gs22
              change jR s9 s22 at R22
              change s22 170 8 = 0 → TS s22 ∧ s22 170 34 ≤ s22 170 4 at e22
              have g96 := g_faultKind gs22
              have g97 := g_codes gs22
              exact hQ _ ⟨gs22, (fr_tr (fr_tr (fr_rf _ _) fs9 rfl) fs22 rfl), (show s22 170 4 ≤ s22 170 5 ∧ s22 170 5 ≤ s22 170 2 ∧ (s22 170 3 = 0 ∧ s22 170 4 = s22 170 2 ∨ 1 ≤ s22 170 3 ∧ s22 170 4 < s22 170 5) ∧ st 170 4 ≤ s22 170 4 from by omega), (show jR st s22 from (jR_tr (s1 := s9) (jR_tr (s1 := st) (jR_rf _) (jR_fr rfl fs9)) R22)), (show s22 170 8 = 0 → TS s22 ∧ s22 170 34 ≤ s22 170 4 from e22)⟩
          · have b13_ : r13 = 1 := by omega
            replace b13 := b13.2.mp b13_
            have e98 : s9 170 4 = st 170 4 := fs9 170 4 rfl rfl
            have e99 : s9 170 5 = st 170 5 := fs9 170 5 rfl rfl
            have e100 : s9 170 2 = st 170 2 := fs9 170 2 rfl rfl
            have e101 : s9 170 34 = st 170 34 := fs9 170 34 rfl rfl
            have e102 : s9 170 35 = st 170 35 := fs9 170 35 rfl rfl
            have e103 : s9 170 13 = st 170 13 := fs9 170 13 rfl rfl
            refine ⟨rfl, ⟨gs9, (show s9 170 4 ≤ s9 170 5 ∧ s9 170 5 ≤ s9 170 2 ∧ (s9 170 3 = 0 ∧ s9 170 4 = s9 170 2 ∨ 1 ≤ s9 170 3 ∧ s9 170 4 < s9 170 5) from by omega), (show TS s9 from (TS_fr rfl fs9 ts)), (show s9 170 8 = 0 ∧ s9 170 34 ≤ s9 170 4 ∧ 1 ≤ s9 170 3 from by omega), (show s9 170 35 = 1 - s9 170 13 from by omega)⟩, fun s23 q23 => ?_⟩
            obtain ⟨gs23, fs23, p23, R23, e23⟩ := q23
            change s23 170 4 ≤ s23 170 5 ∧ s23 170 5 ≤ s23 170 2 ∧ (s23 170 3 = 0 ∧ s23 170 4 = s23 170 2 ∨ 1 ≤ s23 170 3 ∧ s23 170 4 < s23 170 5) ∧ s9 170 4 ≤ s23 170 4 at p23
            have g104 := g_signAt gs23
            have g105 := g_signEnd gs23
            have e106 : s23 170 2 = s9 170 2 := fs23 170 2 rfl rfl
            have g107 := g_sign gs23
            change jR s9 s23 at R23
            change s23 170 8 = 0 → TS s23 ∧ s23 170 34 ≤ s23 170 4 at e23
            have g108 := g_faultKind gs23
            have g109 := g_codes gs23
            exact hQ _ ⟨gs23, (fr_tr (fr_tr (fr_rf _ _) fs9 rfl) fs23 rfl), (show s23 170 4 ≤ s23 170 5 ∧ s23 170 5 ≤ s23 170 2 ∧ (s23 170 3 = 0 ∧ s23 170 4 = s23 170 2 ∨ 1 ≤ s23 170 3 ∧ s23 170 4 < s23 170 5) ∧ st 170 4 ≤ s23 170 4 from by omega), (show jR st s23 from (jR_tr (s1 := s9) (jR_tr (s1 := st) (jR_rf _) (jR_fr rfl fs9)) R23)), (show s23 170 8 = 0 → TS s23 ∧ s23 170 34 ≤ s23 170 4 from e23)⟩
        · have b12_ : r12 = 1 := by omega
          replace b12 := b12.2.mp b12_
          have e110 : s9 170 4 = st 170 4 := fs9 170 4 rfl rfl
          have e111 : s9 170 5 = st 170 5 := fs9 170 5 rfl rfl
          have e112 : s9 170 2 = st 170 2 := fs9 170 2 rfl rfl
          have e113 : s9 170 34 = st 170 34 := fs9 170 34 rfl rfl
          have e114 : s9 170 35 = st 170 35 := fs9 170 35 rfl rfl
          have e115 : s9 170 13 = st 170 13 := fs9 170 13 rfl rfl
          refine ⟨rfl, ⟨gs9, (show s9 170 4 ≤ s9 170 5 ∧ s9 170 5 ≤ s9 170 2 ∧ (s9 170 3 = 0 ∧ s9 170 4 = s9 170 2 ∨ 1 ≤ s9 170 3 ∧ s9 170 4 < s9 170 5) from by omega), (show TS s9 from (TS_fr rfl fs9 ts)), (show s9 170 8 = 0 ∧ s9 170 34 ≤ s9 170 4 ∧ 1 ≤ s9 170 3 from by omega), (show s9 170 35 = 1 - s9 170 13 from by omega)⟩, fun s24 q24 => ?_⟩
          obtain ⟨gs24, fs24, p24, R24, e24⟩ := q24
          change s24 170 4 ≤ s24 170 5 ∧ s24 170 5 ≤ s24 170 2 ∧ (s24 170 3 = 0 ∧ s24 170 4 = s24 170 2 ∨ 1 ≤ s24 170 3 ∧ s24 170 4 < s24 170 5) ∧ s9 170 4 ≤ s24 170 4 at p24
          have g116 := g_signAt gs24
          have g117 := g_signEnd gs24
          have e118 : s24 170 2 = s9 170 2 := fs24 170 2 rfl rfl
          have g119 := g_sign gs24
          change jR s9 s24 at R24
          change s24 170 8 = 0 → TS s24 ∧ s24 170 34 ≤ s24 170 4 at e24
          have g120 := g_faultKind gs24
          have g121 := g_codes gs24
          exact hQ _ ⟨gs24, (fr_tr (fr_tr (fr_rf _ _) fs9 rfl) fs24 rfl), (show s24 170 4 ≤ s24 170 5 ∧ s24 170 5 ≤ s24 170 2 ∧ (s24 170 3 = 0 ∧ s24 170 4 = s24 170 2 ∨ 1 ≤ s24 170 3 ∧ s24 170 4 < s24 170 5) ∧ st 170 4 ≤ s24 170 4 from by omega), (show jR st s24 from (jR_tr (s1 := s9) (jR_tr (s1 := st) (jR_rf _) (jR_fr rfl fs9)) R24)), (show s24 170 8 = 0 → TS s24 ∧ s24 170 34 ≤ s24 170 4 from e24)⟩
      · have b11_ : r11 = 1 := by omega
        replace b11 := b11.2.mp b11_
        have e122 : s9 170 4 = st 170 4 := fs9 170 4 rfl rfl
        have e123 : s9 170 5 = st 170 5 := fs9 170 5 rfl rfl
        have e124 : s9 170 2 = st 170 2 := fs9 170 2 rfl rfl
        have e125 : s9 170 34 = st 170 34 := fs9 170 34 rfl rfl
        have e126 : s9 170 35 = st 170 35 := fs9 170 35 rfl rfl
        have e127 : s9 170 13 = st 170 13 := fs9 170 13 rfl rfl
        refine ⟨rfl, ⟨gs9, (show s9 170 4 ≤ s9 170 5 ∧ s9 170 5 ≤ s9 170 2 ∧ (s9 170 3 = 0 ∧ s9 170 4 = s9 170 2 ∨ 1 ≤ s9 170 3 ∧ s9 170 4 < s9 170 5) from by omega), (show TS s9 from (TS_fr rfl fs9 ts)), (show s9 170 8 = 0 ∧ s9 170 34 ≤ s9 170 4 ∧ 1 ≤ s9 170 3 from by omega), (show s9 170 35 = 1 - s9 170 13 from by omega)⟩, fun s25 q25 => ?_⟩
        obtain ⟨gs25, fs25, p25, R25, e25⟩ := q25
        change s25 170 4 ≤ s25 170 5 ∧ s25 170 5 ≤ s25 170 2 ∧ (s25 170 3 = 0 ∧ s25 170 4 = s25 170 2 ∨ 1 ≤ s25 170 3 ∧ s25 170 4 < s25 170 5) ∧ s9 170 4 ≤ s25 170 4 at p25
        have g128 := g_signAt gs25
        have g129 := g_signEnd gs25
        have e130 : s25 170 2 = s9 170 2 := fs25 170 2 rfl rfl
        have g131 := g_sign gs25
        change jR s9 s25 at R25
        change s25 170 8 = 0 → TS s25 ∧ s25 170 34 ≤ s25 170 4 at e25
        have g132 := g_faultKind gs25
        have g133 := g_codes gs25
        exact hQ _ ⟨gs25, (fr_tr (fr_tr (fr_rf _ _) fs9 rfl) fs25 rfl), (show s25 170 4 ≤ s25 170 5 ∧ s25 170 5 ≤ s25 170 2 ∧ (s25 170 3 = 0 ∧ s25 170 4 = s25 170 2 ∨ 1 ≤ s25 170 3 ∧ s25 170 4 < s25 170 5) ∧ st 170 4 ≤ s25 170 4 from by omega), (show jR st s25 from (jR_tr (s1 := s9) (jR_tr (s1 := st) (jR_rf _) (jR_fr rfl fs9)) R25)), (show s25 170 8 = 0 → TS s25 ∧ s25 170 34 ≤ s25 170 4 from e25)⟩
    · have b10_ : r10 = 1 := by omega
      replace b10 := b10.2.mp b10_
      have e134 : s9 170 4 = st 170 4 := fs9 170 4 rfl rfl
      have e135 : s9 170 5 = st 170 5 := fs9 170 5 rfl rfl
      have e136 : s9 170 2 = st 170 2 := fs9 170 2 rfl rfl
      have e137 : s9 170 34 = st 170 34 := fs9 170 34 rfl rfl
      have e138 : s9 170 35 = st 170 35 := fs9 170 35 rfl rfl
      have e139 : s9 170 13 = st 170 13 := fs9 170 13 rfl rfl
      refine ⟨rfl, ⟨gs9, (show s9 170 4 ≤ s9 170 5 ∧ s9 170 5 ≤ s9 170 2 ∧ (s9 170 3 = 0 ∧ s9 170 4 = s9 170 2 ∨ 1 ≤ s9 170 3 ∧ s9 170 4 < s9 170 5) from by omega), (show TS s9 from (TS_fr rfl fs9 ts)), (show s9 170 8 = 0 ∧ s9 170 34 ≤ s9 170 4 ∧ 1 ≤ s9 170 3 from by omega), (show s9 170 35 = 1 - s9 170 13 from by omega)⟩, fun s26 q26 => ?_⟩
      obtain ⟨gs26, fs26, p26, R26, e26⟩ := q26
      change s26 170 4 ≤ s26 170 5 ∧ s26 170 5 ≤ s26 170 2 ∧ (s26 170 3 = 0 ∧ s26 170 4 = s26 170 2 ∨ 1 ≤ s26 170 3 ∧ s26 170 4 < s26 170 5) ∧ s9 170 4 ≤ s26 170 4 at p26
      have g140 := g_signAt gs26
      have g141 := g_signEnd gs26
      have e142 : s26 170 2 = s9 170 2 := fs26 170 2 rfl rfl
      have g143 := g_sign gs26
      change jR s9 s26 at R26
      change s26 170 8 = 0 → TS s26 ∧ s26 170 34 ≤ s26 170 4 at e26
      have g144 := g_faultKind gs26
      have g145 := g_codes gs26
      exact hQ _ ⟨gs26, (fr_tr (fr_tr (fr_rf _ _) fs9 rfl) fs26 rfl), (show s26 170 4 ≤ s26 170 5 ∧ s26 170 5 ≤ s26 170 2 ∧ (s26 170 3 = 0 ∧ s26 170 4 = s26 170 2 ∨ 1 ≤ s26 170 3 ∧ s26 170 4 < s26 170 5) ∧ st 170 4 ≤ s26 170 4 from by omega), (show jR st s26 from (jR_tr (s1 := s9) (jR_tr (s1 := st) (jR_rf _) (jR_fr rfl fs9)) R26)), (show s26 170 8 = 0 → TS s26 ∧ s26 170 34 ≤ s26 170 4 from e26)⟩
  · have e146 : s9 170 4 = st 170 4 := fs9 170 4 rfl rfl
    have e147 : s9 170 5 = st 170 5 := fs9 170 5 rfl rfl
    have e148 : s9 170 2 = st 170 2 := fs9 170 2 rfl rfl
    have e149 : s9 170 3 = st 170 3 := fs9 170 3 rfl rfl
    have e150 : s9 170 34 = st 170 34 := fs9 170 34 rfl rfl
    exact hQ _ ⟨gs9, (fr_tr (fr_rf _ _) fs9 rfl), (show s9 170 4 ≤ s9 170 5 ∧ s9 170 5 ≤ s9 170 2 ∧ (s9 170 3 = 0 ∧ s9 170 4 = s9 170 2 ∨ 1 ≤ s9 170 3 ∧ s9 170 4 < s9 170 5) ∧ st 170 4 ≤ s9 170 4 from by omega), (show jR st s9 from (jR_tr (s1 := st) (jR_rf _) (jR_fr rfl fs9))), (show s9 170 8 = 0 → TS s9 ∧ s9 170 34 ≤ s9 170 4 from fun z => absurd z (by omega))⟩
theorem k_statement_m (hTb : aTb zSh rx_tb cl) {D : Nat} (hD : 7 ≤ D) : ∀ as st (Q Q' : zQ), (∀ r st', Q r st' → Q' r st') → k_statement 210 as st Q → cl D 210 as st Q' := by
  intro as st Q Q' hQ h
  unfold k_statement at h
  split at h
  · obtain ⟨rfl, h⟩ := h
    exact c_statement hTb hD (ct_statement_m hQ h)
  · exact h.elim
set_option maxHeartbeats 40000000 in
set_option maxRecDepth 100000 in
theorem c_finishes (hTb : aTb zSh rx_tb cl) {D : Nat} (hD : 4 ≤ D) {n : Int} {st : zS} {Q : zQ} (h : ct_finishes n st Q) : cl D 211 [.inr (.inr (.inl 170)), .inl n] st Q := by
  obtain ⟨d, rfl⟩ : ∃ d, D = d + 1 := ⟨D - 1, by omega⟩
  refine hTb d 211 (rx_m211, 3, 0, 0, 0) rfl _ _ _ (Nat.le_of_ble_eq_true rfl) (fun K hcl hsf hsl => ?_)
  have hcm : zmo (wcL [(181, k_lex), (182, k_isSign), (178, k_blame), (184, k_mustI)]) (cl d) := (wcL_m (wm_cons (k_lex_m hTb (by omega)) (wm_cons (k_isSign_m hTb (by omega)) (wm_cons (k_blame_m hTb (by omega)) (wm_cons (k_mustI_m hTb (by omega)) wm_nil)))))
  obtain ⟨hR, hQ⟩ := h
  obtain ⟨hG, lx⟩ := hR
  change st 170 4 ≤ st 170 5 ∧ st 170 5 ≤ st 170 2 ∧ (st 170 3 = 0 ∧ st 170 4 = st 170 2 ∨ 1 ≤ st 170 3 ∧ st 170 4 < st 170 5) at lx
  have m83 : ∀ (ax : Int) (s_m83 : zS), gInv zgt s_m83 ∧ aFr m_finishes st s_m83 ∧ (s_m83 170 4 ≤ s_m83 170 5 ∧ s_m83 170 5 ≤ s_m83 170 2 ∧ (s_m83 170 3 = 0 ∧ s_m83 170 4 = s_m83 170 2 ∨ 1 ≤ s_m83 170 3 ∧ s_m83 170 4 < s_m83 170 5) ∧ s_m83 170 4 = st 170 4 ∧ s_m83 170 5 = st 170 5 ∧ s_m83 170 3 = st 170 3 ∧ (s_m83 170 8 = 0 → st 170 8 = 0)) → K (rx_find rx_m211 83) [(2, .inl ax), (0, .inr (.inr (.inl 170))), (1, .inl n)] [] s_m83 := by
    intro ax s_m83 hi
    obtain ⟨gI_m83, fI_m83, b_m83⟩ := hi
    have g1 := g_signAt gI_m83
    have g2 := g_signEnd gI_m83
    have g4 := g_size hG
    have e3 : s_m83 170 2 = st 170 2 := fI_m83 170 2 rfl rfl
    have g5 := g_sign gI_m83
    have g6 := g_signAt hG
    have g7 := g_signEnd hG
    have g8 := g_sign hG
    have g9 := g_faultKind gI_m83
    have g10 := g_faultKind hG
    refine yr1_ok (Rt := Q) (wc := (wcL [(181, k_lex), (182, k_isSign), (178, k_blame), (184, k_mustI)])) (stp := [83]) hcm hcl [] 66 ?_
    show (170 = 170 ∧ (rq_mustI (59) s_m83 ∧ (∀ (s11 : zS), en_mustI (59) s_m83 s11 → Q none s11)))
    refine ⟨rfl, ⟨gI_m83, (show s_m83 170 4 ≤ s_m83 170 5 ∧ s_m83 170 5 ≤ s_m83 170 2 ∧ (s_m83 170 3 = 0 ∧ s_m83 170 4 = s_m83 170 2 ∨ 1 ≤ s_m83 170 3 ∧ s_m83 170 4 < s_m83 170 5) from by omega)⟩, fun s11 q11 => ?_⟩
    obtain ⟨gs11, fs11, p11⟩ := q11
    change s11 170 4 ≤ s11 170 5 ∧ s11 170 5 ≤ s11 170 2 ∧ (s11 170 3 = 0 ∧ s11 170 4 = s11 170 2 ∨ 1 ≤ s11 170 3 ∧ s11 170 4 < s11 170 5) ∧ s_m83 170 4 ≤ s11 170 4 ∧ (s11 170 8 = 0 → s_m83 170 8 = 0 ∧ s_m83 170 5 ≤ s11 170 4 ∧ 1 ≤ s_m83 170 3) at p11
    have g12 := g_signAt gs11
    have g13 := g_signEnd gs11
    have e14 : s11 170 2 = s_m83 170 2 := fs11 170 2 rfl rfl
    have g15 := g_sign gs11
    have g16 := g_faultKind gs11
    exact hQ _ ⟨gs11, (fr_tr fI_m83 fs11 rfl), (show s11 170 4 ≤ s11 170 5 ∧ s11 170 5 ≤ s11 170 2 ∧ (s11 170 3 = 0 ∧ s11 170 4 = s11 170 2 ∨ 1 ≤ s11 170 3 ∧ s11 170 4 < s11 170 5) ∧ st 170 4 ≤ s11 170 4 ∧ (s11 170 8 = 0 → st 170 8 = 0 ∧ st 170 5 ≤ s11 170 4 ∧ 1 ≤ st 170 3) from by omega)⟩
  have m53 : ∀ (ax : Int) (s_m53 : zS), gInv zgt s_m53 ∧ aFr m_finishes st s_m53 ∧ (s_m53 170 4 ≤ s_m53 170 5 ∧ s_m53 170 5 ≤ s_m53 170 2 ∧ (s_m53 170 3 = 0 ∧ s_m53 170 4 = s_m53 170 2 ∨ 1 ≤ s_m53 170 3 ∧ s_m53 170 4 < s_m53 170 5) ∧ s_m53 170 4 = st 170 4 ∧ s_m53 170 5 = st 170 5 ∧ s_m53 170 3 = st 170 3 ∧ (s_m53 170 8 = 0 → st 170 8 = 0) ∧ 0 ≤ ax ∧ ax ≤ 1600) → K (rx_find rx_m211 53) [(2, .inl ax), (0, .inr (.inr (.inl 170))), (1, .inl n)] [] s_m53 := by
    intro ax s_m53 hi
    obtain ⟨gI_m53, fI_m53, b_m53⟩ := hi
    have g17 := g_signAt gI_m53
    have g18 := g_signEnd gI_m53
    have g20 := g_size hG
    have e19 : s_m53 170 2 = st 170 2 := fI_m53 170 2 rfl rfl
    have g21 := g_sign gI_m53
    have g22 := g_signAt hG
    have g23 := g_signEnd hG
    have g24 := g_sign hG
    have g25 := g_faultKind gI_m53
    have g26 := g_faultKind hG
    refine yr1_ok (Rt := Q) (wc := (wcL [(181, k_lex), (182, k_isSign), (178, k_blame), (184, k_mustI)])) (stp := [53, 83]) hcm hcl [] 66 ?_
    show (170 = 170 ∧ (∀ (r27 : Int), en_isSign (59) s_m53 r27 → ((r27 = (0 : Int) → K (rx_find rx_m211 83) [(2, .inl ax), (0, .inr (.inr (.inl 170))), (1, .inl n)] [] s_m53) ∧ (¬ (r27 = (0 : Int)) → ((¬ n = (80 : Int) → K (rx_find rx_m211 83) [(2, .inl ax), (0, .inr (.inr (.inl 170))), (1, .inl n)] [] s_m53) ∧ (¬ (¬ n = (80 : Int)) → ((s_m53 170 2 ≤ ax → K (rx_find rx_m211 83) [(2, .inl ax), (0, .inr (.inr (.inl 170))), (1, .inl n)] [] s_m53) ∧ (¬ (s_m53 170 2 ≤ ax) → (170 = 170 ∧ (rq_blame (6) ax s_m53 ∧ (∀ (s28 : zS), en_blame (6) ax s_m53 s28 → K (rx_find rx_m211 83) [(2, .inl ax), (0, .inr (.inr (.inl 170))), (1, .inl n)] [] s28)))))))))))
    refine ⟨rfl, fun r27 q27 => ?_⟩
    have b27 := q27
    change (r27 = 0 ∨ r27 = 1) ∧ (r27 = 1 ↔ s_m53 170 3 = 3 ∧ s_m53 170 6 = (59)) at b27
    have g29 := g_value gI_m53
    refine ⟨fun h30 => ?_, fun h30 => ?_⟩
    · clear b27
      exact m83 ax s_m53 ⟨gI_m53, fI_m53, (show s_m53 170 4 ≤ s_m53 170 5 ∧ s_m53 170 5 ≤ s_m53 170 2 ∧ (s_m53 170 3 = 0 ∧ s_m53 170 4 = s_m53 170 2 ∨ 1 ≤ s_m53 170 3 ∧ s_m53 170 4 < s_m53 170 5) ∧ s_m53 170 4 = st 170 4 ∧ s_m53 170 5 = st 170 5 ∧ s_m53 170 3 = st 170 3 ∧ (s_m53 170 8 = 0 → st 170 8 = 0) from by omega)⟩
    · have b27_ : r27 = 1 := by omega
      replace b27 := b27.2.mp b27_
      refine ⟨fun h31 => ?_, fun h31 => ?_⟩
      · exact m83 ax s_m53 ⟨gI_m53, fI_m53, (show s_m53 170 4 ≤ s_m53 170 5 ∧ s_m53 170 5 ≤ s_m53 170 2 ∧ (s_m53 170 3 = 0 ∧ s_m53 170 4 = s_m53 170 2 ∨ 1 ≤ s_m53 170 3 ∧ s_m53 170 4 < s_m53 170 5) ∧ s_m53 170 4 = st 170 4 ∧ s_m53 170 5 = st 170 5 ∧ s_m53 170 3 = st 170 3 ∧ (s_m53 170 8 = 0 → st 170 8 = 0) from by omega)⟩
      · refine ⟨fun h32 => ?_, fun h32 => ?_⟩
        · exact m83 ax s_m53 ⟨gI_m53, fI_m53, (show s_m53 170 4 ≤ s_m53 170 5 ∧ s_m53 170 5 ≤ s_m53 170 2 ∧ (s_m53 170 3 = 0 ∧ s_m53 170 4 = s_m53 170 2 ∨ 1 ≤ s_m53 170 3 ∧ s_m53 170 4 < s_m53 170 5) ∧ s_m53 170 4 = st 170 4 ∧ s_m53 170 5 = st 170 5 ∧ s_m53 170 3 = st 170 3 ∧ (s_m53 170 8 = 0 → st 170 8 = 0) from by omega)⟩
        · refine ⟨rfl, ⟨gI_m53, (show 1 ≤ (6) ∧ (6) ≤ 6 from by omega), (show -2147483648 ≤ ax ∧ ax ≤ 2147483647 from by omega)⟩, fun s28 q28 => ?_⟩
          obtain ⟨gs28, fs28, p28⟩ := q28
          change (s_m53 170 8 = 0 → s28 170 8 = (6)) ∧ (0 < s_m53 170 8 → s28 170 8 = s_m53 170 8) at p28
          have g33 := g_faultKind gs28
          have e34 : s28 170 4 = s_m53 170 4 := fs28 170 4 rfl rfl
          have e35 : s28 170 5 = s_m53 170 5 := fs28 170 5 rfl rfl
          have e36 : s28 170 2 = s_m53 170 2 := fs28 170 2 rfl rfl
          have e37 : s28 170 3 = s_m53 170 3 := fs28 170 3 rfl rfl
          exact m83 ax s28 ⟨gs28, (fr_tr fI_m53 fs28 rfl), (show s28 170 4 ≤ s28 170 5 ∧ s28 170 5 ≤ s28 170 2 ∧ (s28 170 3 = 0 ∧ s28 170 4 = s28 170 2 ∨ 1 ≤ s28 170 3 ∧ s28 170 4 < s28 170 5) ∧ s28 170 4 = st 170 4 ∧ s28 170 5 = st 170 5 ∧ s28 170 3 = st 170 3 ∧ (s28 170 8 = 0 → st 170 8 = 0) from by omega)⟩
  have lp : ∀ (u : Nat) (ax : Int) (s_lp : zS), gInv zgt s_lp ∧ aFr m_finishes st s_lp ∧ (s_lp 170 4 ≤ s_lp 170 5 ∧ s_lp 170 5 ≤ s_lp 170 2 ∧ (s_lp 170 3 = 0 ∧ s_lp 170 4 = s_lp 170 2 ∨ 1 ≤ s_lp 170 3 ∧ s_lp 170 4 < s_lp 170 5) ∧ s_lp 170 4 = st 170 4 ∧ s_lp 170 5 = st 170 5 ∧ s_lp 170 3 = st 170 3 ∧ (s_lp 170 8 = 0 → st 170 8 = 0) ∧ 0 ≤ ax ∧ ax ≤ s_lp 170 2) → (1600 - ax).toNat = u → K (rx_find rx_m211 17) [(2, .inl ax), (0, .inr (.inr (.inl 170))), (1, .inl n)] [] s_lp := by
    intro u
    induction u using Nat.strongRecOn with
    | _ u ih =>
      intro ax s_lp hi hu
      obtain ⟨gI_lp, fI_lp, b_lp⟩ := hi
      have g38 := g_signAt gI_lp
      have g39 := g_signEnd gI_lp
      have g41 := g_size hG
      have e40 : s_lp 170 2 = st 170 2 := fI_lp 170 2 rfl rfl
      have g42 := g_sign gI_lp
      have g43 := g_signAt hG
      have g44 := g_signEnd hG
      have g45 := g_sign hG
      have g46 := g_faultKind gI_lp
      have g47 := g_faultKind hG
      refine yr1_ok (Rt := Q) (wc := (wcL [(181, k_lex), (182, k_isSign), (178, k_blame), (184, k_mustI)])) (stp := [17, 53, 83]) hcm hcl [] 66 ?_
      show ((s_lp 170 2 ≤ ax → K (rx_find rx_m211 53) [(2, .inl ax), (0, .inr (.inr (.inl 170))), (1, .inl n)] [] s_lp) ∧ (¬ (s_lp 170 2 ≤ ax) → ((0 ≤ ax ∧ ax < 1800) ∧ ((s_lp 171 (ax : Int).toNat = (32 : Int) → ((-2147483648 ≤ ax + 1 ∧ ax + 1 ≤ 2147483647) ∧ K (rx_find rx_m211 17) [(2, .inl (ax + 1)), (0, .inr (.inr (.inl 170))), (1, .inl n)] [] s_lp)) ∧ (¬ (s_lp 171 (ax : Int).toNat = (32 : Int)) → ((0 ≤ ax ∧ ax < 1800) ∧ ((¬ s_lp 171 (ax : Int).toNat = (10 : Int) → K (rx_find rx_m211 53) [(2, .inl ax), (0, .inr (.inr (.inl 170))), (1, .inl n)] [] s_lp) ∧ (¬ (¬ s_lp 171 (ax : Int).toNat = (10 : Int)) → ((-2147483648 ≤ ax + 1 ∧ ax + 1 ≤ 2147483647) ∧ K (rx_find rx_m211 17) [(2, .inl (ax + 1)), (0, .inr (.inr (.inl 170))), (1, .inl n)] [] s_lp)))))))))
      refine ⟨fun h48 => ?_, fun h48 => ?_⟩
      · exact m53 ax s_lp ⟨gI_lp, fI_lp, (show s_lp 170 4 ≤ s_lp 170 5 ∧ s_lp 170 5 ≤ s_lp 170 2 ∧ (s_lp 170 3 = 0 ∧ s_lp 170 4 = s_lp 170 2 ∨ 1 ≤ s_lp 170 3 ∧ s_lp 170 4 < s_lp 170 5) ∧ s_lp 170 4 = st 170 4 ∧ s_lp 170 5 = st 170 5 ∧ s_lp 170 3 = st 170 3 ∧ (s_lp 170 8 = 0 → st 170 8 = 0) ∧ 0 ≤ ax ∧ ax ≤ 1600 from by omega)⟩
      · have g50 := g_tape hG (ax : Int).toNat
        have e49 : s_lp 171 (ax : Int).toNat = st 171 (ax : Int).toNat := fI_lp 171 (ax : Int).toNat rfl rfl
        refine ⟨by omega, ?_⟩
        refine ⟨fun h51 => ?_, fun h51 => ?_⟩
        · refine ⟨by omega, ?_⟩
          exact ih _ (show (1600 - (ax + 1) : Int).toNat < u from by omega) (ax + 1) s_lp ⟨gI_lp, fI_lp, (show s_lp 170 4 ≤ s_lp 170 5 ∧ s_lp 170 5 ≤ s_lp 170 2 ∧ (s_lp 170 3 = 0 ∧ s_lp 170 4 = s_lp 170 2 ∨ 1 ≤ s_lp 170 3 ∧ s_lp 170 4 < s_lp 170 5) ∧ s_lp 170 4 = st 170 4 ∧ s_lp 170 5 = st 170 5 ∧ s_lp 170 3 = st 170 3 ∧ (s_lp 170 8 = 0 → st 170 8 = 0) ∧ 0 ≤ (ax + 1) ∧ (ax + 1) ≤ s_lp 170 2 from by omega)⟩ rfl
        · refine ⟨by omega, ?_⟩
          refine ⟨fun h52 => ?_, fun h52 => ?_⟩
          · exact m53 ax s_lp ⟨gI_lp, fI_lp, (show s_lp 170 4 ≤ s_lp 170 5 ∧ s_lp 170 5 ≤ s_lp 170 2 ∧ (s_lp 170 3 = 0 ∧ s_lp 170 4 = s_lp 170 2 ∨ 1 ≤ s_lp 170 3 ∧ s_lp 170 4 < s_lp 170 5) ∧ s_lp 170 4 = st 170 4 ∧ s_lp 170 5 = st 170 5 ∧ s_lp 170 3 = st 170 3 ∧ (s_lp 170 8 = 0 → st 170 8 = 0) ∧ 0 ≤ ax ∧ ax ≤ 1600 from by omega)⟩
          · refine ⟨by omega, ?_⟩
            exact ih _ (show (1600 - (ax + 1) : Int).toNat < u from by omega) (ax + 1) s_lp ⟨gI_lp, fI_lp, (show s_lp 170 4 ≤ s_lp 170 5 ∧ s_lp 170 5 ≤ s_lp 170 2 ∧ (s_lp 170 3 = 0 ∧ s_lp 170 4 = s_lp 170 2 ∨ 1 ≤ s_lp 170 3 ∧ s_lp 170 4 < s_lp 170 5) ∧ s_lp 170 4 = st 170 4 ∧ s_lp 170 5 = st 170 5 ∧ s_lp 170 3 = st 170 3 ∧ (s_lp 170 8 = 0 → st 170 8 = 0) ∧ 0 ≤ (ax + 1) ∧ (ax + 1) ≤ s_lp 170 2 from by omega)⟩ rfl
  have g53 := g_signAt hG
  have g54 := g_signEnd hG
  have g55 := g_size hG
  have g56 := g_sign hG
  have g57 := g_codes hG
  have g58 := g_in hG
  have g59 := g_bank hG
  have g60 := g_faultKind hG
  refine yr1_ok (Rt := Q) (wc := (wcL [(181, k_lex), (182, k_isSign), (178, k_blame), (184, k_mustI)])) (stp := [17, 53, 83]) hcm hcl [] 66 ?_
  show (170 = 170 ∧ (rq_lex  st ∧ (∀ (s61 : zS), en_lex  st s61 → ((s61 170 8 ≤ (0 : Int) → K (rx_find rx_m211 17) [(2, .inl (s61 170 5)), (0, .inr (.inr (.inl 170))), (1, .inl n)] [] s61) ∧ (¬ (s61 170 8 ≤ (0 : Int)) → Q none s61)))))
  refine ⟨rfl, hG, fun s61 q61 => ?_⟩
  obtain ⟨gs61, fs61, p61⟩ := q61
  change 0 < st 170 8 → 0 < s61 170 8 at p61
  have g62 := g_faultKind gs61
  refine ⟨fun h63 => ?_, fun h63 => ?_⟩
  · have e64 : s61 170 5 = st 170 5 := fs61 170 5 rfl rfl
    have e65 : s61 170 4 = st 170 4 := fs61 170 4 rfl rfl
    have e66 : s61 170 2 = st 170 2 := fs61 170 2 rfl rfl
    have e67 : s61 170 3 = st 170 3 := fs61 170 3 rfl rfl
    exact lp _ (s61 170 5) s61 ⟨gs61, (fr_tr (fr_rf _ _) fs61 rfl), (show s61 170 4 ≤ s61 170 5 ∧ s61 170 5 ≤ s61 170 2 ∧ (s61 170 3 = 0 ∧ s61 170 4 = s61 170 2 ∨ 1 ≤ s61 170 3 ∧ s61 170 4 < s61 170 5) ∧ s61 170 4 = st 170 4 ∧ s61 170 5 = st 170 5 ∧ s61 170 3 = st 170 3 ∧ (s61 170 8 = 0 → st 170 8 = 0) ∧ 0 ≤ (s61 170 5) ∧ (s61 170 5) ≤ s61 170 2 from by omega)⟩ rfl
  · have e68 : s61 170 4 = st 170 4 := fs61 170 4 rfl rfl
    have e69 : s61 170 5 = st 170 5 := fs61 170 5 rfl rfl
    have e70 : s61 170 2 = st 170 2 := fs61 170 2 rfl rfl
    have e71 : s61 170 3 = st 170 3 := fs61 170 3 rfl rfl
    exact hQ _ ⟨gs61, (fr_tr (fr_rf _ _) fs61 rfl), (show s61 170 4 ≤ s61 170 5 ∧ s61 170 5 ≤ s61 170 2 ∧ (s61 170 3 = 0 ∧ s61 170 4 = s61 170 2 ∨ 1 ≤ s61 170 3 ∧ s61 170 4 < s61 170 5) ∧ st 170 4 ≤ s61 170 4 ∧ (s61 170 8 = 0 → st 170 8 = 0 ∧ st 170 5 ≤ s61 170 4 ∧ 1 ≤ st 170 3) from by omega)⟩
theorem k_finishes_m (hTb : aTb zSh rx_tb cl) {D : Nat} (hD : 4 ≤ D) : ∀ as st (Q Q' : zQ), (∀ r st', Q r st' → Q' r st') → k_finishes 211 as st Q → cl D 211 as st Q' := by
  intro as st Q Q' hQ h
  unfold k_finishes at h
  split at h
  · obtain ⟨rfl, h⟩ := h
    exact c_finishes hTb hD (ct_finishes_m hQ h)
  · exact h.elim
end R6h
