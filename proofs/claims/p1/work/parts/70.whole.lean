/-! the whole: the entry, the two constructors, then the script by its length and its first number -/
set_option maxRecDepth 1000000 in
theorem rx_short0 : rx_isE (rx_lawR [] (0 + 1) 99999999 (rx_find rx_mL 18) rx_L0 [] rx_w0 221 26609) = true := by decide +kernel
set_option maxRecDepth 1000000 in
theorem rx_short1 : rx_isE (rx_lawR [] (1 + 1) 99999999 (rx_find rx_mL 18) rx_L0 [] rx_w0 221 26609) = true := by decide +kernel
set_option maxRecDepth 1000000 in
theorem rx_short2 : rx_isE (rx_lawR [] (2 + 1) 99999999 (rx_find rx_mL 18) rx_L0 [] rx_w0 221 26609) = true := by decide +kernel
set_option maxRecDepth 1000000 in
theorem rx_short3 : rx_isE (rx_lawR [] (3 + 1) 99999999 (rx_find rx_mL 18) rx_L0 [] rx_w0 221 26609) = true := by decide +kernel
set_option maxRecDepth 1000000 in
theorem rx_short4 : rx_isE (rx_lawR [] (4 + 1) 99999999 (rx_find rx_mL 18) rx_L0 [] rx_w0 221 26609) = true := by decide +kernel
set_option maxRecDepth 1000000 in
theorem rx_short5 : rx_isE (rx_lawR [] (5 + 1) 99999999 (rx_find rx_mL 18) rx_L0 [] rx_w0 221 26609) = true := by decide +kernel
theorem rx_and63 (x : Int32) : 2147483648 ≤ rx_b (x &&& nI 63) ∧ rx_b (x &&& nI 63) ≤ 2147483711 := by
  have h : (x &&& nI 63).toBitVec.toNat ≤ 63 := by
    rw [Int32.toBitVec_and, BitVec.toNat_and, rx_tn]
    exact Nat.and_le_right
  unfold rx_b
  omega
theorem rx_at18 {p : Program} {l : Launch} {e : Env} {s : State} {m : MethodId} {below : List Frame} {meth : Method} {c : Code} {b L : Nat} {xs : Nat → Int32} {X : rx_X} {D : va_G} (hL : L ≤ 6) (C0 : rx_lawC p s m meth c b L xs X D) : rx_LW p l e s m below meth c b X D 18 rx_L0 [] rx_w0 221 26609 := by
  by_cases h6 : L < 6
  · rcases (show L = 0 ∨ L = 1 ∨ L = 2 ∨ L = 3 ∨ L = 4 ∨ L = 5 by omega) with z | z | z | z | z | z <;> subst z
    · exact rx_lawE C0 (Or.inr rfl) rx_fok_n rx_short0
    · exact rx_lawE C0 (Or.inr rfl) rx_fok_n rx_short1
    · exact rx_lawE C0 (Or.inr rfl) rx_fok_n rx_short2
    · exact rx_lawE C0 (Or.inr rfl) rx_fok_n rx_short3
    · exact rx_lawE C0 (Or.inr rfl) rx_fok_n rx_short4
    · exact rx_lawE C0 (Or.inr rfl) rx_fok_n rx_short5
  · have z : L = 6 := by omega
    subst z
    have hb : 2147483648 ≤ rx_b (rx_U X 0 [(0, 63)]) ∧ rx_b (rx_U X 0 [(0, 63)]) ≤ 2147483711 := rx_and63 (rx_U X 0 [])
    obtain ⟨hb1, hb2⟩ := hb
    by_cases q0 : rx_b (rx_U X 0 [(0, 63)]) < 2147483649
    · exact rx_case0 C0 ⟨by omega, by omega⟩
    by_cases q1 : rx_b (rx_U X 0 [(0, 63)]) < 2147483650
    · exact rx_case1 C0 ⟨by omega, by omega⟩
    by_cases q2 : rx_b (rx_U X 0 [(0, 63)]) < 2147483651
    · exact rx_case2 C0 ⟨by omega, by omega⟩
    by_cases q3 : rx_b (rx_U X 0 [(0, 63)]) < 2147483652
    · exact rx_case3 C0 ⟨by omega, by omega⟩
    by_cases q4 : rx_b (rx_U X 0 [(0, 63)]) < 2147483653
    · exact rx_case4 C0 ⟨by omega, by omega⟩
    by_cases q5 : rx_b (rx_U X 0 [(0, 63)]) < 2147483654
    · exact rx_case5 C0 ⟨by omega, by omega⟩
    by_cases q6 : rx_b (rx_U X 0 [(0, 63)]) < 2147483655
    · exact rx_case6 C0 ⟨by omega, by omega⟩
    by_cases q7 : rx_b (rx_U X 0 [(0, 63)]) < 2147483656
    · exact rx_case7 C0 ⟨by omega, by omega⟩
    by_cases q8 : rx_b (rx_U X 0 [(0, 63)]) < 2147483657
    · exact rx_case8 C0 ⟨by omega, by omega⟩
    by_cases q9 : rx_b (rx_U X 0 [(0, 63)]) < 2147483658
    · exact rx_case9 C0 ⟨by omega, by omega⟩
    by_cases q10 : rx_b (rx_U X 0 [(0, 63)]) < 2147483659
    · exact rx_case10 C0 ⟨by omega, by omega⟩
    by_cases q11 : rx_b (rx_U X 0 [(0, 63)]) < 2147483660
    · exact rx_case11 C0 ⟨by omega, by omega⟩
    by_cases q12 : rx_b (rx_U X 0 [(0, 63)]) < 2147483661
    · exact rx_case12 C0 ⟨by omega, by omega⟩
    by_cases q13 : rx_b (rx_U X 0 [(0, 63)]) < 2147483662
    · exact rx_case13 C0 ⟨by omega, by omega⟩
    by_cases q14 : rx_b (rx_U X 0 [(0, 63)]) < 2147483663
    · exact rx_case14 C0 ⟨by omega, by omega⟩
    by_cases q15 : rx_b (rx_U X 0 [(0, 63)]) < 2147483664
    · exact rx_case15 C0 ⟨by omega, by omega⟩
    by_cases q16 : rx_b (rx_U X 0 [(0, 63)]) < 2147483665
    · exact rx_case16 C0 ⟨by omega, by omega⟩
    by_cases q17 : rx_b (rx_U X 0 [(0, 63)]) < 2147483666
    · exact rx_case17 C0 ⟨by omega, by omega⟩
    by_cases q18 : rx_b (rx_U X 0 [(0, 63)]) < 2147483667
    · exact rx_case18 C0 ⟨by omega, by omega⟩
    by_cases q19 : rx_b (rx_U X 0 [(0, 63)]) < 2147483668
    · exact rx_case19 C0 ⟨by omega, by omega⟩
    by_cases q20 : rx_b (rx_U X 0 [(0, 63)]) < 2147483669
    · exact rx_case20 C0 ⟨by omega, by omega⟩
    by_cases q21 : rx_b (rx_U X 0 [(0, 63)]) < 2147483670
    · exact rx_case21 C0 ⟨by omega, by omega⟩
    by_cases q22 : rx_b (rx_U X 0 [(0, 63)]) < 2147483671
    · exact rx_case22 C0 ⟨by omega, by omega⟩
    by_cases q23 : rx_b (rx_U X 0 [(0, 63)]) < 2147483672
    · exact rx_case23 C0 ⟨by omega, by omega⟩
    by_cases q24 : rx_b (rx_U X 0 [(0, 63)]) < 2147483673
    · exact rx_case24 C0 ⟨by omega, by omega⟩
    by_cases q25 : rx_b (rx_U X 0 [(0, 63)]) < 2147483674
    · exact rx_case25 C0 ⟨by omega, by omega⟩
    by_cases q26 : rx_b (rx_U X 0 [(0, 63)]) < 2147483675
    · exact rx_case26 C0 ⟨by omega, by omega⟩
    by_cases q27 : rx_b (rx_U X 0 [(0, 63)]) < 2147483676
    · exact rx_case27 C0 ⟨by omega, by omega⟩
    by_cases q28 : rx_b (rx_U X 0 [(0, 63)]) < 2147483677
    · exact rx_case28 C0 ⟨by omega, by omega⟩
    by_cases q29 : rx_b (rx_U X 0 [(0, 63)]) < 2147483678
    · exact rx_case29 C0 ⟨by omega, by omega⟩
    by_cases q30 : rx_b (rx_U X 0 [(0, 63)]) < 2147483679
    · exact rx_case30 C0 ⟨by omega, by omega⟩
    by_cases q31 : rx_b (rx_U X 0 [(0, 63)]) < 2147483680
    · exact rx_case31 C0 ⟨by omega, by omega⟩
    by_cases q32 : rx_b (rx_U X 0 [(0, 63)]) < 2147483681
    · exact rx_case32 C0 ⟨by omega, by omega⟩
    by_cases q33 : rx_b (rx_U X 0 [(0, 63)]) < 2147483682
    · exact rx_case33 C0 ⟨by omega, by omega⟩
    by_cases q34 : rx_b (rx_U X 0 [(0, 63)]) < 2147483683
    · exact rx_case34 C0 ⟨by omega, by omega⟩
    by_cases q35 : rx_b (rx_U X 0 [(0, 63)]) < 2147483684
    · exact rx_case35 C0 ⟨by omega, by omega⟩
    exact rx_case36 C0 ⟨by omega, by omega⟩
theorem whole_start {p : Program} {e : Env} {s : State} {m : MethodId} {below : List Frame} {meth : Method} {c : Code} (l : Launch) {b L : Nat} {xs : Nat → Int32} (hL : L ≤ 6) (hnm : meth.name = "law") (C0 : lw_At p s m meth c b L xs) : W p l e room_1 s m #[Value.ref b] below meth c s.heap [] 0 0 (lw_Z below #[Value.ref b] s) (entryFrame m ([Value.ref b] : List Value).toArray 4) := by
  obtain ⟨X, D, e1, e2, e3, hU⟩ := rx_start C0
  have CC : rx_lawC p s m meth c b L xs X D := ⟨C0, e1, e2, hnm, hU⟩
  have hgo : rx_LW p l e s m below meth c b X D 0 [(0, .inr (.inr (.inr 0)))] [] [] 0 0 := rx_lawS CC (Or.inl rfl) rx_fok_n rx_stage1 (rx_at18 hL CC)
  have hlv := lv_entry ([Value.ref b] : List Value) (n := 4) (by show (1 : Nat) ≤ 4; decide)
  rw [lg_entry_eq]
  have hlv2 : lv_args 0 [Value.ref b] = rx_Lm X [(0, .inr (.inr (.inr 0)))] := by
    show [(0, Value.ref b)] = [(0, rx_d X (.inr (.inr (.inr 0))))]
    have h3 : rx_d X (.inr (.inr (.inr 0))) = Value.ref b := by
      show va_rf (X.2.2.1 0) = Value.ref b
      rw [e3]
      rfl
    rw [h3]
  rw [hlv2] at hlv
  generalize ((lg_sl ([Value.ref b] : List Value) ++ List.replicate (4 - (lg_sl ([Value.ref b] : List Value)).length) Slot.unset).toArray) = ls at hlv ⊢
  exact hgo s.heap [] ls ⟨fun k q hk => by simp [rx_w] at hk, fun _ => (by show s.heap.size + 0 ≤ X.2.1 + 0; rw [e2]; exact Nat.le_refl _), va_S.rf⟩ hlv
