/-! printed by wip/p1/regs.py: the cases out of the regions -/
theorem rx_fok_d {X : rx_X} {j : Nat} {us : List (Nat × Nat)} {lo hi : Nat} {F : rx_F} (h1 : lo ≤ rx_b (rx_U X j us)) (h2 : rx_b (rx_U X j us) ≤ hi) (h : rx_fok X F) : rx_fok X (((j, us), lo, hi) :: F) := rx_fok_c (u := (j, us)) h1 h2 h
section RXG
variable {p : Program} {l : Launch} {e : Env} {s : State} {m : MethodId} {below : List Frame} {meth : Method} {c : Code} {b : Nat} {xs : Nat → Int32} {X : rx_X} {D : va_G}
theorem rx_case0 (C0 : rx_lawC p s m meth c b 6 xs X D) (h0 : 2147483648 ≤ rx_b (rx_U X 0 [(0, 63)]) ∧ rx_b (rx_U X 0 [(0, 63)]) ≤ 2147483648) : rx_LW p l e s m below meth c b X D 18 rx_L0 [] rx_w0 221 26609 := by
  exact rx_lawEF C0 (Or.inr rfl) (rx_fok_d h0.1 h0.2 rx_fok_n) rx_r0_0
theorem rx_case1 (C0 : rx_lawC p s m meth c b 6 xs X D) (h0 : 2147483649 ≤ rx_b (rx_U X 0 [(0, 63)]) ∧ rx_b (rx_U X 0 [(0, 63)]) ≤ 2147483649) : rx_LW p l e s m below meth c b X D 18 rx_L0 [] rx_w0 221 26609 := by
  have l0 := rx_b_lt (rx_U X 1 [])
  by_cases q0 : rx_b (rx_U X 1 []) < 2147483648
  · exact rx_lawEF C0 (Or.inr rfl) (rx_fok_d h0.1 h0.2 (rx_fok_d (by omega) (by omega) rx_fok_n)) rx_r1_0
  · by_cases q1 : rx_b (rx_U X 1 []) < 2147483649
    · exact rx_lawEF C0 (Or.inr rfl) (rx_fok_d h0.1 h0.2 (rx_fok_d (by omega) (by omega) rx_fok_n)) rx_r1_1
    · exact rx_lawEF C0 (Or.inr rfl) (rx_fok_d h0.1 h0.2 (rx_fok_d (by omega) (by omega) rx_fok_n)) rx_r1_2
theorem rx_case2 (C0 : rx_lawC p s m meth c b 6 xs X D) (h0 : 2147483650 ≤ rx_b (rx_U X 0 [(0, 63)]) ∧ rx_b (rx_U X 0 [(0, 63)]) ≤ 2147483650) : rx_LW p l e s m below meth c b X D 18 rx_L0 [] rx_w0 221 26609 := by
  exact rx_lawEF C0 (Or.inr rfl) (rx_fok_d h0.1 h0.2 rx_fok_n) rx_r2_0
theorem rx_case3 (C0 : rx_lawC p s m meth c b 6 xs X D) (h0 : 2147483651 ≤ rx_b (rx_U X 0 [(0, 63)]) ∧ rx_b (rx_U X 0 [(0, 63)]) ≤ 2147483651) : rx_LW p l e s m below meth c b X D 18 rx_L0 [] rx_w0 221 26609 := by
  have l0 := rx_b_lt (rx_U X 1 [])
  by_cases q0 : rx_b (rx_U X 1 []) < 2147483648
  · exact rx_lawEF C0 (Or.inr rfl) (rx_fok_d h0.1 h0.2 (rx_fok_d (by omega) (by omega) rx_fok_n)) rx_r3_0
  · by_cases q1 : rx_b (rx_U X 1 []) < 2147483649
    · exact rx_lawEF C0 (Or.inr rfl) (rx_fok_d h0.1 h0.2 (rx_fok_d (by omega) (by omega) rx_fok_n)) rx_r3_1
    · by_cases q2 : rx_b (rx_U X 1 []) < 2147483650
      · exact rx_lawEF C0 (Or.inr rfl) (rx_fok_d h0.1 h0.2 (rx_fok_d (by omega) (by omega) rx_fok_n)) rx_r3_2
      · exact rx_lawEF C0 (Or.inr rfl) (rx_fok_d h0.1 h0.2 (rx_fok_d (by omega) (by omega) rx_fok_n)) rx_r3_3
theorem rx_case4 (C0 : rx_lawC p s m meth c b 6 xs X D) (h0 : 2147483652 ≤ rx_b (rx_U X 0 [(0, 63)]) ∧ rx_b (rx_U X 0 [(0, 63)]) ≤ 2147483652) : rx_LW p l e s m below meth c b X D 18 rx_L0 [] rx_w0 221 26609 := by
  have l0 := rx_b_lt (rx_U X 1 [])
  by_cases q0 : rx_b (rx_U X 1 []) < 2147483648
  · exact rx_lawEF C0 (Or.inr rfl) (rx_fok_d h0.1 h0.2 (rx_fok_d (by omega) (by omega) rx_fok_n)) rx_r4_0
  · by_cases q1 : rx_b (rx_U X 1 []) < 2147483649
    · exact rx_lawEF C0 (Or.inr rfl) (rx_fok_d h0.1 h0.2 (rx_fok_d (by omega) (by omega) rx_fok_n)) rx_r4_1
    · by_cases q2 : rx_b (rx_U X 1 []) < 2147483650
      · exact rx_lawEF C0 (Or.inr rfl) (rx_fok_d h0.1 h0.2 (rx_fok_d (by omega) (by omega) rx_fok_n)) rx_r4_2
      · by_cases q3 : rx_b (rx_U X 1 []) < 2147483651
        · exact rx_lawEF C0 (Or.inr rfl) (rx_fok_d h0.1 h0.2 (rx_fok_d (by omega) (by omega) rx_fok_n)) rx_r4_3
        · by_cases q4 : rx_b (rx_U X 1 []) < 2147483652
          · exact rx_lawEF C0 (Or.inr rfl) (rx_fok_d h0.1 h0.2 (rx_fok_d (by omega) (by omega) rx_fok_n)) rx_r4_4
          · by_cases q5 : rx_b (rx_U X 1 []) < 2147483653
            · exact rx_lawEF C0 (Or.inr rfl) (rx_fok_d h0.1 h0.2 (rx_fok_d (by omega) (by omega) rx_fok_n)) rx_r4_5
            · by_cases q6 : rx_b (rx_U X 1 []) < 2147483654
              · exact rx_lawEF C0 (Or.inr rfl) (rx_fok_d h0.1 h0.2 (rx_fok_d (by omega) (by omega) rx_fok_n)) rx_r4_6
              · by_cases q7 : rx_b (rx_U X 1 []) < 2147483655
                · exact rx_lawEF C0 (Or.inr rfl) (rx_fok_d h0.1 h0.2 (rx_fok_d (by omega) (by omega) rx_fok_n)) rx_r4_7
                · by_cases q8 : rx_b (rx_U X 1 []) < 2147483656
                  · exact rx_lawEF C0 (Or.inr rfl) (rx_fok_d h0.1 h0.2 (rx_fok_d (by omega) (by omega) rx_fok_n)) rx_r4_8
                  · by_cases q9 : rx_b (rx_U X 1 []) < 2147483657
                    · exact rx_lawEF C0 (Or.inr rfl) (rx_fok_d h0.1 h0.2 (rx_fok_d (by omega) (by omega) rx_fok_n)) rx_r4_9
                    · by_cases q10 : rx_b (rx_U X 1 []) < 2147483658
                      · exact rx_lawEF C0 (Or.inr rfl) (rx_fok_d h0.1 h0.2 (rx_fok_d (by omega) (by omega) rx_fok_n)) rx_r4_10
                      · exact rx_lawEF C0 (Or.inr rfl) (rx_fok_d h0.1 h0.2 (rx_fok_d (by omega) (by omega) rx_fok_n)) rx_r4_11
theorem rx_case5 (C0 : rx_lawC p s m meth c b 6 xs X D) (h0 : 2147483653 ≤ rx_b (rx_U X 0 [(0, 63)]) ∧ rx_b (rx_U X 0 [(0, 63)]) ≤ 2147483653) : rx_LW p l e s m below meth c b X D 18 rx_L0 [] rx_w0 221 26609 := by
  have l0 := rx_b_lt (rx_U X 1 [])
  have l1 := rx_b_lt (rx_U X 2 [])
  have l2 := rx_b_lt (rx_U X 3 [])
  by_cases q0 : rx_b (rx_U X 3 []) < 2147483648
  · by_cases q1 : rx_b (rx_U X 1 []) < 2147483648
    · exact rx_lawEF C0 (Or.inr rfl) (rx_fok_d h0.1 h0.2 (rx_fok_d (by omega) (by omega) (rx_fok_d (by omega) (by omega) rx_fok_n))) rx_r5_0
    · by_cases q2 : rx_b (rx_U X 1 []) < 2147483650
      · by_cases q3 : rx_b (rx_U X 1 []) < 2147483649
        · by_cases q4 : rx_b (rx_U X 2 []) < 2147483648
          · exact rx_lawEF C0 (Or.inr rfl) (rx_fok_d h0.1 h0.2 (rx_fok_d (by omega) (by omega) (rx_fok_d (by omega) (by omega) (rx_fok_d (by omega) (by omega) rx_fok_n)))) rx_r5_1
          · exact rx_lawEF C0 (Or.inr rfl) (rx_fok_d h0.1 h0.2 (rx_fok_d (by omega) (by omega) (rx_fok_d (by omega) (by omega) (rx_fok_d (by omega) (by omega) rx_fok_n)))) rx_r5_2
        · by_cases q4 : rx_b (rx_U X 2 []) < 2147483648
          · exact rx_lawEF C0 (Or.inr rfl) (rx_fok_d h0.1 h0.2 (rx_fok_d (by omega) (by omega) (rx_fok_d (by omega) (by omega) (rx_fok_d (by omega) (by omega) rx_fok_n)))) rx_r5_3
          · exact rx_lawEF C0 (Or.inr rfl) (rx_fok_d h0.1 h0.2 (rx_fok_d (by omega) (by omega) (rx_fok_d (by omega) (by omega) (rx_fok_d (by omega) (by omega) rx_fok_n)))) rx_r5_4
      · exact rx_lawEF C0 (Or.inr rfl) (rx_fok_d h0.1 h0.2 (rx_fok_d (by omega) (by omega) (rx_fok_d (by omega) (by omega) rx_fok_n))) rx_r5_5
  · by_cases q1 : rx_b (rx_U X 3 []) < 2147483654
    · by_cases q2 : rx_b (rx_U X 1 []) < 2147483648
      · exact rx_lawEF C0 (Or.inr rfl) (rx_fok_d h0.1 h0.2 (rx_fok_d (by omega) (by omega) (rx_fok_d (by omega) (by omega) rx_fok_n))) rx_r5_6
      · by_cases q3 : rx_b (rx_U X 1 []) < 2147483649
        · by_cases q4 : rx_b (rx_U X 2 []) < 2147483648
          · exact rx_lawEF C0 (Or.inr rfl) (rx_fok_d h0.1 h0.2 (rx_fok_d (by omega) (by omega) (rx_fok_d (by omega) (by omega) (rx_fok_d (by omega) (by omega) rx_fok_n)))) rx_r5_7
          · exact rx_lawEF C0 (Or.inr rfl) (rx_fok_d h0.1 h0.2 (rx_fok_d (by omega) (by omega) (rx_fok_d (by omega) (by omega) (rx_fok_d (by omega) (by omega) rx_fok_n)))) rx_r5_8
        · by_cases q4 : rx_b (rx_U X 1 []) < 2147483650
          · by_cases q5 : rx_b (rx_U X 2 []) < 2147483648
            · exact rx_lawEF C0 (Or.inr rfl) (rx_fok_d h0.1 h0.2 (rx_fok_d (by omega) (by omega) (rx_fok_d (by omega) (by omega) (rx_fok_d (by omega) (by omega) rx_fok_n)))) rx_r5_9
            · exact rx_lawEF C0 (Or.inr rfl) (rx_fok_d h0.1 h0.2 (rx_fok_d (by omega) (by omega) (rx_fok_d (by omega) (by omega) (rx_fok_d (by omega) (by omega) rx_fok_n)))) rx_r5_10
          · exact rx_lawEF C0 (Or.inr rfl) (rx_fok_d h0.1 h0.2 (rx_fok_d (by omega) (by omega) (rx_fok_d (by omega) (by omega) rx_fok_n))) rx_r5_11
    · by_cases q2 : rx_b (rx_U X 1 []) < 2147483648
      · exact rx_lawEF C0 (Or.inr rfl) (rx_fok_d h0.1 h0.2 (rx_fok_d (by omega) (by omega) (rx_fok_d (by omega) (by omega) rx_fok_n))) rx_r5_12
      · by_cases q3 : rx_b (rx_U X 1 []) < 2147483650
        · by_cases q4 : rx_b (rx_U X 1 []) < 2147483649
          · by_cases q5 : rx_b (rx_U X 2 []) < 2147483648
            · exact rx_lawEF C0 (Or.inr rfl) (rx_fok_d h0.1 h0.2 (rx_fok_d (by omega) (by omega) (rx_fok_d (by omega) (by omega) (rx_fok_d (by omega) (by omega) rx_fok_n)))) rx_r5_13
            · exact rx_lawEF C0 (Or.inr rfl) (rx_fok_d h0.1 h0.2 (rx_fok_d (by omega) (by omega) (rx_fok_d (by omega) (by omega) (rx_fok_d (by omega) (by omega) rx_fok_n)))) rx_r5_14
          · by_cases q5 : rx_b (rx_U X 2 []) < 2147483648
            · exact rx_lawEF C0 (Or.inr rfl) (rx_fok_d h0.1 h0.2 (rx_fok_d (by omega) (by omega) (rx_fok_d (by omega) (by omega) (rx_fok_d (by omega) (by omega) rx_fok_n)))) rx_r5_15
            · exact rx_lawEF C0 (Or.inr rfl) (rx_fok_d h0.1 h0.2 (rx_fok_d (by omega) (by omega) (rx_fok_d (by omega) (by omega) (rx_fok_d (by omega) (by omega) rx_fok_n)))) rx_r5_16
        · exact rx_lawEF C0 (Or.inr rfl) (rx_fok_d h0.1 h0.2 (rx_fok_d (by omega) (by omega) (rx_fok_d (by omega) (by omega) rx_fok_n))) rx_r5_17
theorem rx_case6 (C0 : rx_lawC p s m meth c b 6 xs X D) (h0 : 2147483654 ≤ rx_b (rx_U X 0 [(0, 63)]) ∧ rx_b (rx_U X 0 [(0, 63)]) ≤ 2147483654) : rx_LW p l e s m below meth c b X D 18 rx_L0 [] rx_w0 221 26609 := by
  have l0 := rx_b_lt (rx_U X 1 [])
  by_cases q0 : rx_b (rx_U X 1 []) < 2147483648
  · exact rx_lawEF C0 (Or.inr rfl) (rx_fok_d h0.1 h0.2 (rx_fok_d (by omega) (by omega) rx_fok_n)) rx_r6_0
  · exact rx_lawEF C0 (Or.inr rfl) (rx_fok_d h0.1 h0.2 (rx_fok_d (by omega) (by omega) rx_fok_n)) rx_r6_1
theorem rx_case7 (C0 : rx_lawC p s m meth c b 6 xs X D) (h0 : 2147483655 ≤ rx_b (rx_U X 0 [(0, 63)]) ∧ rx_b (rx_U X 0 [(0, 63)]) ≤ 2147483655) : rx_LW p l e s m below meth c b X D 18 rx_L0 [] rx_w0 221 26609 := by
  have l0 := rx_b_lt (rx_U X 1 [])
  by_cases q0 : rx_b (rx_U X 1 []) < 2147483648
  · exact rx_lawEF C0 (Or.inr rfl) (rx_fok_d h0.1 h0.2 (rx_fok_d (by omega) (by omega) rx_fok_n)) rx_r7_0
  · exact rx_lawEF C0 (Or.inr rfl) (rx_fok_d h0.1 h0.2 (rx_fok_d (by omega) (by omega) rx_fok_n)) rx_r7_1
theorem rx_case8 (C0 : rx_lawC p s m meth c b 6 xs X D) (h0 : 2147483656 ≤ rx_b (rx_U X 0 [(0, 63)]) ∧ rx_b (rx_U X 0 [(0, 63)]) ≤ 2147483656) : rx_LW p l e s m below meth c b X D 18 rx_L0 [] rx_w0 221 26609 := by
  have l0 := rx_b_lt (rx_U X 1 [])
  by_cases q0 : rx_b (rx_U X 1 []) < 2147483648
  · exact rx_lawEF C0 (Or.inr rfl) (rx_fok_d h0.1 h0.2 (rx_fok_d (by omega) (by omega) rx_fok_n)) rx_r8_0
  · exact rx_lawEF C0 (Or.inr rfl) (rx_fok_d h0.1 h0.2 (rx_fok_d (by omega) (by omega) rx_fok_n)) rx_r8_1
theorem rx_case9 (C0 : rx_lawC p s m meth c b 6 xs X D) (h0 : 2147483657 ≤ rx_b (rx_U X 0 [(0, 63)]) ∧ rx_b (rx_U X 0 [(0, 63)]) ≤ 2147483657) : rx_LW p l e s m below meth c b X D 18 rx_L0 [] rx_w0 221 26609 := by
  have l0 := rx_b_lt (rx_U X 1 [])
  by_cases q0 : rx_b (rx_U X 1 []) < 2147483648
  · exact rx_lawEF C0 (Or.inr rfl) (rx_fok_d h0.1 h0.2 (rx_fok_d (by omega) (by omega) rx_fok_n)) rx_r9_0
  · exact rx_lawEF C0 (Or.inr rfl) (rx_fok_d h0.1 h0.2 (rx_fok_d (by omega) (by omega) rx_fok_n)) rx_r9_1
theorem rx_case10 (C0 : rx_lawC p s m meth c b 6 xs X D) (h0 : 2147483658 ≤ rx_b (rx_U X 0 [(0, 63)]) ∧ rx_b (rx_U X 0 [(0, 63)]) ≤ 2147483658) : rx_LW p l e s m below meth c b X D 18 rx_L0 [] rx_w0 221 26609 := by
  have l0 := rx_b_lt (rx_U X 1 [])
  by_cases q0 : rx_b (rx_U X 1 []) < 2147483648
  · exact rx_lawEF C0 (Or.inr rfl) (rx_fok_d h0.1 h0.2 (rx_fok_d (by omega) (by omega) rx_fok_n)) rx_r10_0
  · by_cases q1 : rx_b (rx_U X 1 []) < 2147483649
    · exact rx_lawEF C0 (Or.inr rfl) (rx_fok_d h0.1 h0.2 (rx_fok_d (by omega) (by omega) rx_fok_n)) rx_r10_1
    · by_cases q2 : rx_b (rx_U X 1 []) < 2147483650
      · exact rx_lawEF C0 (Or.inr rfl) (rx_fok_d h0.1 h0.2 (rx_fok_d (by omega) (by omega) rx_fok_n)) rx_r10_2
      · by_cases q3 : rx_b (rx_U X 1 []) < 2147483651
        · exact rx_lawEF C0 (Or.inr rfl) (rx_fok_d h0.1 h0.2 (rx_fok_d (by omega) (by omega) rx_fok_n)) rx_r10_3
        · by_cases q4 : rx_b (rx_U X 1 []) < 2147483652
          · exact rx_lawEF C0 (Or.inr rfl) (rx_fok_d h0.1 h0.2 (rx_fok_d (by omega) (by omega) rx_fok_n)) rx_r10_4
          · exact rx_lawEF C0 (Or.inr rfl) (rx_fok_d h0.1 h0.2 (rx_fok_d (by omega) (by omega) rx_fok_n)) rx_r10_5
theorem rx_case11 (C0 : rx_lawC p s m meth c b 6 xs X D) (h0 : 2147483659 ≤ rx_b (rx_U X 0 [(0, 63)]) ∧ rx_b (rx_U X 0 [(0, 63)]) ≤ 2147483659) : rx_LW p l e s m below meth c b X D 18 rx_L0 [] rx_w0 221 26609 := by
  have l0 := rx_b_lt (rx_U X 1 [])
  have l1 := rx_b_lt (rx_U X 2 [])
  by_cases q0 : rx_b (rx_U X 1 []) < 2147483648
  · by_cases q1 : rx_b (rx_U X 2 []) < 2147483648
    · exact rx_lawEF C0 (Or.inr rfl) (rx_fok_d h0.1 h0.2 (rx_fok_d (by omega) (by omega) (rx_fok_d (by omega) (by omega) rx_fok_n))) rx_r11_0
    · by_cases q2 : rx_b (rx_U X 2 []) < 2147483651
      · exact rx_lawEF C0 (Or.inr rfl) (rx_fok_d h0.1 h0.2 (rx_fok_d (by omega) (by omega) (rx_fok_d (by omega) (by omega) rx_fok_n))) rx_r11_1
      · exact rx_lawEF C0 (Or.inr rfl) (rx_fok_d h0.1 h0.2 (rx_fok_d (by omega) (by omega) (rx_fok_d (by omega) (by omega) rx_fok_n))) rx_r11_2
  · by_cases q1 : rx_b (rx_U X 2 []) < 2147483648
    · exact rx_lawEF C0 (Or.inr rfl) (rx_fok_d h0.1 h0.2 (rx_fok_d (by omega) (by omega) (rx_fok_d (by omega) (by omega) rx_fok_n))) rx_r11_3
    · by_cases q2 : rx_b (rx_U X 2 []) < 2147483651
      · exact rx_lawEF C0 (Or.inr rfl) (rx_fok_d h0.1 h0.2 (rx_fok_d (by omega) (by omega) (rx_fok_d (by omega) (by omega) rx_fok_n))) rx_r11_4
      · exact rx_lawEF C0 (Or.inr rfl) (rx_fok_d h0.1 h0.2 (rx_fok_d (by omega) (by omega) (rx_fok_d (by omega) (by omega) rx_fok_n))) rx_r11_5
theorem rx_case12 (C0 : rx_lawC p s m meth c b 6 xs X D) (h0 : 2147483660 ≤ rx_b (rx_U X 0 [(0, 63)]) ∧ rx_b (rx_U X 0 [(0, 63)]) ≤ 2147483660) : rx_LW p l e s m below meth c b X D 18 rx_L0 [] rx_w0 221 26609 := by
  exact rx_lawEF C0 (Or.inr rfl) (rx_fok_d h0.1 h0.2 rx_fok_n) rx_r12_0
theorem rx_case13 (C0 : rx_lawC p s m meth c b 6 xs X D) (h0 : 2147483661 ≤ rx_b (rx_U X 0 [(0, 63)]) ∧ rx_b (rx_U X 0 [(0, 63)]) ≤ 2147483661) : rx_LW p l e s m below meth c b X D 18 rx_L0 [] rx_w0 221 26609 := by
  have l0 := rx_b_lt (rx_U X 1 [])
  by_cases q0 : rx_b (rx_U X 1 []) < 2147483648
  · exact rx_lawEF C0 (Or.inr rfl) (rx_fok_d h0.1 h0.2 (rx_fok_d (by omega) (by omega) rx_fok_n)) rx_r13_0
  · by_cases q1 : rx_b (rx_U X 1 []) < 2147483709
    · exact rx_lawEF C0 (Or.inr rfl) (rx_fok_d h0.1 h0.2 (rx_fok_d (by omega) (by omega) rx_fok_n)) rx_r13_1
    · exact rx_lawEF C0 (Or.inr rfl) (rx_fok_d h0.1 h0.2 (rx_fok_d (by omega) (by omega) rx_fok_n)) rx_r13_2
theorem rx_case14 (C0 : rx_lawC p s m meth c b 6 xs X D) (h0 : 2147483662 ≤ rx_b (rx_U X 0 [(0, 63)]) ∧ rx_b (rx_U X 0 [(0, 63)]) ≤ 2147483662) : rx_LW p l e s m below meth c b X D 18 rx_L0 [] rx_w0 221 26609 := by
  have l0 := rx_b_lt (rx_U X 1 [])
  by_cases q0 : rx_b (rx_U X 1 []) < 2147483648
  · exact rx_lawEF C0 (Or.inr rfl) (rx_fok_d h0.1 h0.2 (rx_fok_d (by omega) (by omega) rx_fok_n)) rx_r14_0
  · exact rx_lawEF C0 (Or.inr rfl) (rx_fok_d h0.1 h0.2 (rx_fok_d (by omega) (by omega) rx_fok_n)) rx_r14_1
theorem rx_case15 (C0 : rx_lawC p s m meth c b 6 xs X D) (h0 : 2147483663 ≤ rx_b (rx_U X 0 [(0, 63)]) ∧ rx_b (rx_U X 0 [(0, 63)]) ≤ 2147483663) : rx_LW p l e s m below meth c b X D 18 rx_L0 [] rx_w0 221 26609 := by
  have l0 := rx_b_lt (rx_U X 1 [])
  by_cases q0 : rx_b (rx_U X 1 []) < 2147483649
  · exact rx_lawEF C0 (Or.inr rfl) (rx_fok_d h0.1 h0.2 (rx_fok_d (by omega) (by omega) rx_fok_n)) rx_r15_0
  · by_cases q1 : rx_b (rx_U X 1 []) < 2147483652
    · exact rx_lawEF C0 (Or.inr rfl) (rx_fok_d h0.1 h0.2 (rx_fok_d (by omega) (by omega) rx_fok_n)) rx_r15_1
    · exact rx_lawEF C0 (Or.inr rfl) (rx_fok_d h0.1 h0.2 (rx_fok_d (by omega) (by omega) rx_fok_n)) rx_r15_2
theorem rx_case17 (C0 : rx_lawC p s m meth c b 6 xs X D) (h0 : 2147483665 ≤ rx_b (rx_U X 0 [(0, 63)]) ∧ rx_b (rx_U X 0 [(0, 63)]) ≤ 2147483665) : rx_LW p l e s m below meth c b X D 18 rx_L0 [] rx_w0 221 26609 := by
  have l0 := rx_b_lt (rx_U X 1 [])
  by_cases q0 : rx_b (rx_U X 1 []) < 2147483648
  · exact rx_lawEF C0 (Or.inr rfl) (rx_fok_d h0.1 h0.2 (rx_fok_d (by omega) (by omega) rx_fok_n)) rx_r17_0
  · exact rx_lawEF C0 (Or.inr rfl) (rx_fok_d h0.1 h0.2 (rx_fok_d (by omega) (by omega) rx_fok_n)) rx_r17_1
theorem rx_case18 (C0 : rx_lawC p s m meth c b 6 xs X D) (h0 : 2147483666 ≤ rx_b (rx_U X 0 [(0, 63)]) ∧ rx_b (rx_U X 0 [(0, 63)]) ≤ 2147483666) : rx_LW p l e s m below meth c b X D 18 rx_L0 [] rx_w0 221 26609 := by
  exact rx_lawEF C0 (Or.inr rfl) (rx_fok_d h0.1 h0.2 rx_fok_n) rx_r18_0
theorem rx_case19 (C0 : rx_lawC p s m meth c b 6 xs X D) (h0 : 2147483667 ≤ rx_b (rx_U X 0 [(0, 63)]) ∧ rx_b (rx_U X 0 [(0, 63)]) ≤ 2147483667) : rx_LW p l e s m below meth c b X D 18 rx_L0 [] rx_w0 221 26609 := by
  exact rx_lawEF C0 (Or.inr rfl) (rx_fok_d h0.1 h0.2 rx_fok_n) rx_r19_0
theorem rx_case20 (C0 : rx_lawC p s m meth c b 6 xs X D) (h0 : 2147483668 ≤ rx_b (rx_U X 0 [(0, 63)]) ∧ rx_b (rx_U X 0 [(0, 63)]) ≤ 2147483668) : rx_LW p l e s m below meth c b X D 18 rx_L0 [] rx_w0 221 26609 := by
  have l0 := rx_b_lt (rx_U X 1 [])
  by_cases q0 : rx_b (rx_U X 1 []) < 2147483649
  · exact rx_lawEF C0 (Or.inr rfl) (rx_fok_d h0.1 h0.2 (rx_fok_d (by omega) (by omega) rx_fok_n)) rx_r20_0
  · by_cases q1 : rx_b (rx_U X 1 []) < 2147483669
    · by_cases q2 : rx_b (rx_U X 1 []) < 2147483650
      · exact rx_lawEF C0 (Or.inr rfl) (rx_fok_d h0.1 h0.2 (rx_fok_d (by omega) (by omega) rx_fok_n)) rx_r20_1
      · by_cases q3 : rx_b (rx_U X 1 []) < 2147483651
        · exact rx_lawEF C0 (Or.inr rfl) (rx_fok_d h0.1 h0.2 (rx_fok_d (by omega) (by omega) rx_fok_n)) rx_r20_2
        · by_cases q4 : rx_b (rx_U X 1 []) < 2147483652
          · exact rx_lawEF C0 (Or.inr rfl) (rx_fok_d h0.1 h0.2 (rx_fok_d (by omega) (by omega) rx_fok_n)) rx_r20_3
          · by_cases q5 : rx_b (rx_U X 1 []) < 2147483653
            · exact rx_lawEF C0 (Or.inr rfl) (rx_fok_d h0.1 h0.2 (rx_fok_d (by omega) (by omega) rx_fok_n)) rx_r20_4
            · by_cases q6 : rx_b (rx_U X 1 []) < 2147483654
              · exact rx_lawEF C0 (Or.inr rfl) (rx_fok_d h0.1 h0.2 (rx_fok_d (by omega) (by omega) rx_fok_n)) rx_r20_5
              · by_cases q7 : rx_b (rx_U X 1 []) < 2147483655
                · exact rx_lawEF C0 (Or.inr rfl) (rx_fok_d h0.1 h0.2 (rx_fok_d (by omega) (by omega) rx_fok_n)) rx_r20_6
                · by_cases q8 : rx_b (rx_U X 1 []) < 2147483656
                  · exact rx_lawEF C0 (Or.inr rfl) (rx_fok_d h0.1 h0.2 (rx_fok_d (by omega) (by omega) rx_fok_n)) rx_r20_7
                  · by_cases q9 : rx_b (rx_U X 1 []) < 2147483657
                    · exact rx_lawEF C0 (Or.inr rfl) (rx_fok_d h0.1 h0.2 (rx_fok_d (by omega) (by omega) rx_fok_n)) rx_r20_8
                    · by_cases q10 : rx_b (rx_U X 1 []) < 2147483658
                      · exact rx_lawEF C0 (Or.inr rfl) (rx_fok_d h0.1 h0.2 (rx_fok_d (by omega) (by omega) rx_fok_n)) rx_r20_9
                      · by_cases q11 : rx_b (rx_U X 1 []) < 2147483659
                        · exact rx_lawEF C0 (Or.inr rfl) (rx_fok_d h0.1 h0.2 (rx_fok_d (by omega) (by omega) rx_fok_n)) rx_r20_10
                        · by_cases q12 : rx_b (rx_U X 1 []) < 2147483660
                          · exact rx_lawEF C0 (Or.inr rfl) (rx_fok_d h0.1 h0.2 (rx_fok_d (by omega) (by omega) rx_fok_n)) rx_r20_11
                          · by_cases q13 : rx_b (rx_U X 1 []) < 2147483661
                            · exact rx_lawEF C0 (Or.inr rfl) (rx_fok_d h0.1 h0.2 (rx_fok_d (by omega) (by omega) rx_fok_n)) rx_r20_12
                            · by_cases q14 : rx_b (rx_U X 1 []) < 2147483662
                              · exact rx_lawEF C0 (Or.inr rfl) (rx_fok_d h0.1 h0.2 (rx_fok_d (by omega) (by omega) rx_fok_n)) rx_r20_13
                              · by_cases q15 : rx_b (rx_U X 1 []) < 2147483663
                                · exact rx_lawEF C0 (Or.inr rfl) (rx_fok_d h0.1 h0.2 (rx_fok_d (by omega) (by omega) rx_fok_n)) rx_r20_14
                                · by_cases q16 : rx_b (rx_U X 1 []) < 2147483664
                                  · exact rx_lawEF C0 (Or.inr rfl) (rx_fok_d h0.1 h0.2 (rx_fok_d (by omega) (by omega) rx_fok_n)) rx_r20_15
                                  · by_cases q17 : rx_b (rx_U X 1 []) < 2147483665
                                    · exact rx_lawEF C0 (Or.inr rfl) (rx_fok_d h0.1 h0.2 (rx_fok_d (by omega) (by omega) rx_fok_n)) rx_r20_16
                                    · by_cases q18 : rx_b (rx_U X 1 []) < 2147483666
                                      · exact rx_lawEF C0 (Or.inr rfl) (rx_fok_d h0.1 h0.2 (rx_fok_d (by omega) (by omega) rx_fok_n)) rx_r20_17
                                      · by_cases q19 : rx_b (rx_U X 1 []) < 2147483667
                                        · exact rx_lawEF C0 (Or.inr rfl) (rx_fok_d h0.1 h0.2 (rx_fok_d (by omega) (by omega) rx_fok_n)) rx_r20_18
                                        · by_cases q20 : rx_b (rx_U X 1 []) < 2147483668
                                          · exact rx_lawEF C0 (Or.inr rfl) (rx_fok_d h0.1 h0.2 (rx_fok_d (by omega) (by omega) rx_fok_n)) rx_r20_19
                                          · exact rx_lawEF C0 (Or.inr rfl) (rx_fok_d h0.1 h0.2 (rx_fok_d (by omega) (by omega) rx_fok_n)) rx_r20_20
    · exact rx_lawEF C0 (Or.inr rfl) (rx_fok_d h0.1 h0.2 (rx_fok_d (by omega) (by omega) rx_fok_n)) rx_r20_21
theorem rx_case21 (C0 : rx_lawC p s m meth c b 6 xs X D) (h0 : 2147483669 ≤ rx_b (rx_U X 0 [(0, 63)]) ∧ rx_b (rx_U X 0 [(0, 63)]) ≤ 2147483669) : rx_LW p l e s m below meth c b X D 18 rx_L0 [] rx_w0 221 26609 := by
  have l0 := rx_b_lt (rx_U X 1 [])
  have l1 := rx_b_lt (rx_U X 2 [])
  by_cases q0 : rx_b (rx_U X 1 []) < 2147483649
  · exact rx_lawEF C0 (Or.inr rfl) (rx_fok_d h0.1 h0.2 (rx_fok_d (by omega) (by omega) rx_fok_n)) rx_r21_0
  · by_cases q1 : rx_b (rx_U X 1 []) < 2147483669
    · by_cases q2 : rx_b (rx_U X 2 []) < 2147483648
      · by_cases q3 : rx_b (rx_U X 1 []) < 2147483650
        · exact rx_lawEF C0 (Or.inr rfl) (rx_fok_d h0.1 h0.2 (rx_fok_d (by omega) (by omega) (rx_fok_d (by omega) (by omega) rx_fok_n))) rx_r21_1
        · by_cases q4 : rx_b (rx_U X 1 []) < 2147483651
          · exact rx_lawEF C0 (Or.inr rfl) (rx_fok_d h0.1 h0.2 (rx_fok_d (by omega) (by omega) (rx_fok_d (by omega) (by omega) rx_fok_n))) rx_r21_2
          · by_cases q5 : rx_b (rx_U X 1 []) < 2147483652
            · exact rx_lawEF C0 (Or.inr rfl) (rx_fok_d h0.1 h0.2 (rx_fok_d (by omega) (by omega) (rx_fok_d (by omega) (by omega) rx_fok_n))) rx_r21_3
            · by_cases q6 : rx_b (rx_U X 1 []) < 2147483653
              · exact rx_lawEF C0 (Or.inr rfl) (rx_fok_d h0.1 h0.2 (rx_fok_d (by omega) (by omega) (rx_fok_d (by omega) (by omega) rx_fok_n))) rx_r21_4
              · by_cases q7 : rx_b (rx_U X 1 []) < 2147483654
                · exact rx_lawEF C0 (Or.inr rfl) (rx_fok_d h0.1 h0.2 (rx_fok_d (by omega) (by omega) (rx_fok_d (by omega) (by omega) rx_fok_n))) rx_r21_5
                · by_cases q8 : rx_b (rx_U X 1 []) < 2147483655
                  · exact rx_lawEF C0 (Or.inr rfl) (rx_fok_d h0.1 h0.2 (rx_fok_d (by omega) (by omega) (rx_fok_d (by omega) (by omega) rx_fok_n))) rx_r21_6
                  · by_cases q9 : rx_b (rx_U X 1 []) < 2147483656
                    · exact rx_lawEF C0 (Or.inr rfl) (rx_fok_d h0.1 h0.2 (rx_fok_d (by omega) (by omega) (rx_fok_d (by omega) (by omega) rx_fok_n))) rx_r21_7
                    · by_cases q10 : rx_b (rx_U X 1 []) < 2147483657
                      · exact rx_lawEF C0 (Or.inr rfl) (rx_fok_d h0.1 h0.2 (rx_fok_d (by omega) (by omega) (rx_fok_d (by omega) (by omega) rx_fok_n))) rx_r21_8
                      · by_cases q11 : rx_b (rx_U X 1 []) < 2147483658
                        · exact rx_lawEF C0 (Or.inr rfl) (rx_fok_d h0.1 h0.2 (rx_fok_d (by omega) (by omega) (rx_fok_d (by omega) (by omega) rx_fok_n))) rx_r21_9
                        · by_cases q12 : rx_b (rx_U X 1 []) < 2147483659
                          · exact rx_lawEF C0 (Or.inr rfl) (rx_fok_d h0.1 h0.2 (rx_fok_d (by omega) (by omega) (rx_fok_d (by omega) (by omega) rx_fok_n))) rx_r21_10
                          · by_cases q13 : rx_b (rx_U X 1 []) < 2147483660
                            · exact rx_lawEF C0 (Or.inr rfl) (rx_fok_d h0.1 h0.2 (rx_fok_d (by omega) (by omega) (rx_fok_d (by omega) (by omega) rx_fok_n))) rx_r21_11
                            · by_cases q14 : rx_b (rx_U X 1 []) < 2147483661
                              · exact rx_lawEF C0 (Or.inr rfl) (rx_fok_d h0.1 h0.2 (rx_fok_d (by omega) (by omega) (rx_fok_d (by omega) (by omega) rx_fok_n))) rx_r21_12
                              · by_cases q15 : rx_b (rx_U X 1 []) < 2147483662
                                · exact rx_lawEF C0 (Or.inr rfl) (rx_fok_d h0.1 h0.2 (rx_fok_d (by omega) (by omega) (rx_fok_d (by omega) (by omega) rx_fok_n))) rx_r21_13
                                · by_cases q16 : rx_b (rx_U X 1 []) < 2147483663
                                  · exact rx_lawEF C0 (Or.inr rfl) (rx_fok_d h0.1 h0.2 (rx_fok_d (by omega) (by omega) (rx_fok_d (by omega) (by omega) rx_fok_n))) rx_r21_14
                                  · by_cases q17 : rx_b (rx_U X 1 []) < 2147483664
                                    · exact rx_lawEF C0 (Or.inr rfl) (rx_fok_d h0.1 h0.2 (rx_fok_d (by omega) (by omega) (rx_fok_d (by omega) (by omega) rx_fok_n))) rx_r21_15
                                    · by_cases q18 : rx_b (rx_U X 1 []) < 2147483665
                                      · exact rx_lawEF C0 (Or.inr rfl) (rx_fok_d h0.1 h0.2 (rx_fok_d (by omega) (by omega) (rx_fok_d (by omega) (by omega) rx_fok_n))) rx_r21_16
                                      · by_cases q19 : rx_b (rx_U X 1 []) < 2147483666
                                        · exact rx_lawEF C0 (Or.inr rfl) (rx_fok_d h0.1 h0.2 (rx_fok_d (by omega) (by omega) (rx_fok_d (by omega) (by omega) rx_fok_n))) rx_r21_17
                                        · by_cases q20 : rx_b (rx_U X 1 []) < 2147483667
                                          · exact rx_lawEF C0 (Or.inr rfl) (rx_fok_d h0.1 h0.2 (rx_fok_d (by omega) (by omega) (rx_fok_d (by omega) (by omega) rx_fok_n))) rx_r21_18
                                          · by_cases q21 : rx_b (rx_U X 1 []) < 2147483668
                                            · exact rx_lawEF C0 (Or.inr rfl) (rx_fok_d h0.1 h0.2 (rx_fok_d (by omega) (by omega) (rx_fok_d (by omega) (by omega) rx_fok_n))) rx_r21_19
                                            · exact rx_lawEF C0 (Or.inr rfl) (rx_fok_d h0.1 h0.2 (rx_fok_d (by omega) (by omega) (rx_fok_d (by omega) (by omega) rx_fok_n))) rx_r21_20
      · by_cases q3 : rx_b (rx_U X 1 []) < 2147483650
        · by_cases q4 : rx_b (rx_U X 2 []) < 2147483649
          · exact rx_lawEF C0 (Or.inr rfl) (rx_fok_d h0.1 h0.2 (rx_fok_d (by omega) (by omega) (rx_fok_d (by omega) (by omega) rx_fok_n))) rx_r21_21
          · exact rx_lawEF C0 (Or.inr rfl) (rx_fok_d h0.1 h0.2 (rx_fok_d (by omega) (by omega) (rx_fok_d (by omega) (by omega) rx_fok_n))) rx_r21_22
        · by_cases q4 : rx_b (rx_U X 1 []) < 2147483651
          · by_cases q5 : rx_b (rx_U X 2 []) < 2147483650
            · exact rx_lawEF C0 (Or.inr rfl) (rx_fok_d h0.1 h0.2 (rx_fok_d (by omega) (by omega) (rx_fok_d (by omega) (by omega) rx_fok_n))) rx_r21_23
            · exact rx_lawEF C0 (Or.inr rfl) (rx_fok_d h0.1 h0.2 (rx_fok_d (by omega) (by omega) (rx_fok_d (by omega) (by omega) rx_fok_n))) rx_r21_24
          · by_cases q5 : rx_b (rx_U X 1 []) < 2147483652
            · by_cases q6 : rx_b (rx_U X 2 []) < 2147483651
              · exact rx_lawEF C0 (Or.inr rfl) (rx_fok_d h0.1 h0.2 (rx_fok_d (by omega) (by omega) (rx_fok_d (by omega) (by omega) rx_fok_n))) rx_r21_25
              · exact rx_lawEF C0 (Or.inr rfl) (rx_fok_d h0.1 h0.2 (rx_fok_d (by omega) (by omega) (rx_fok_d (by omega) (by omega) rx_fok_n))) rx_r21_26
            · by_cases q6 : rx_b (rx_U X 1 []) < 2147483653
              · by_cases q7 : rx_b (rx_U X 2 []) < 2147483652
                · exact rx_lawEF C0 (Or.inr rfl) (rx_fok_d h0.1 h0.2 (rx_fok_d (by omega) (by omega) (rx_fok_d (by omega) (by omega) rx_fok_n))) rx_r21_27
                · exact rx_lawEF C0 (Or.inr rfl) (rx_fok_d h0.1 h0.2 (rx_fok_d (by omega) (by omega) (rx_fok_d (by omega) (by omega) rx_fok_n))) rx_r21_28
              · by_cases q7 : rx_b (rx_U X 1 []) < 2147483654
                · by_cases q8 : rx_b (rx_U X 2 []) < 2147483653
                  · exact rx_lawEF C0 (Or.inr rfl) (rx_fok_d h0.1 h0.2 (rx_fok_d (by omega) (by omega) (rx_fok_d (by omega) (by omega) rx_fok_n))) rx_r21_29
                  · exact rx_lawEF C0 (Or.inr rfl) (rx_fok_d h0.1 h0.2 (rx_fok_d (by omega) (by omega) (rx_fok_d (by omega) (by omega) rx_fok_n))) rx_r21_30
                · by_cases q8 : rx_b (rx_U X 1 []) < 2147483655
                  · by_cases q9 : rx_b (rx_U X 2 []) < 2147483654
                    · exact rx_lawEF C0 (Or.inr rfl) (rx_fok_d h0.1 h0.2 (rx_fok_d (by omega) (by omega) (rx_fok_d (by omega) (by omega) rx_fok_n))) rx_r21_31
                    · exact rx_lawEF C0 (Or.inr rfl) (rx_fok_d h0.1 h0.2 (rx_fok_d (by omega) (by omega) (rx_fok_d (by omega) (by omega) rx_fok_n))) rx_r21_32
                  · by_cases q9 : rx_b (rx_U X 1 []) < 2147483656
                    · by_cases q10 : rx_b (rx_U X 2 []) < 2147483655
                      · exact rx_lawEF C0 (Or.inr rfl) (rx_fok_d h0.1 h0.2 (rx_fok_d (by omega) (by omega) (rx_fok_d (by omega) (by omega) rx_fok_n))) rx_r21_33
                      · exact rx_lawEF C0 (Or.inr rfl) (rx_fok_d h0.1 h0.2 (rx_fok_d (by omega) (by omega) (rx_fok_d (by omega) (by omega) rx_fok_n))) rx_r21_34
                    · by_cases q10 : rx_b (rx_U X 1 []) < 2147483657
                      · by_cases q11 : rx_b (rx_U X 2 []) < 2147483656
                        · exact rx_lawEF C0 (Or.inr rfl) (rx_fok_d h0.1 h0.2 (rx_fok_d (by omega) (by omega) (rx_fok_d (by omega) (by omega) rx_fok_n))) rx_r21_35
                        · exact rx_lawEF C0 (Or.inr rfl) (rx_fok_d h0.1 h0.2 (rx_fok_d (by omega) (by omega) (rx_fok_d (by omega) (by omega) rx_fok_n))) rx_r21_36
                      · by_cases q11 : rx_b (rx_U X 1 []) < 2147483658
                        · by_cases q12 : rx_b (rx_U X 2 []) < 2147483657
                          · exact rx_lawEF C0 (Or.inr rfl) (rx_fok_d h0.1 h0.2 (rx_fok_d (by omega) (by omega) (rx_fok_d (by omega) (by omega) rx_fok_n))) rx_r21_37
                          · exact rx_lawEF C0 (Or.inr rfl) (rx_fok_d h0.1 h0.2 (rx_fok_d (by omega) (by omega) (rx_fok_d (by omega) (by omega) rx_fok_n))) rx_r21_38
                        · by_cases q12 : rx_b (rx_U X 1 []) < 2147483659
                          · by_cases q13 : rx_b (rx_U X 2 []) < 2147483658
                            · exact rx_lawEF C0 (Or.inr rfl) (rx_fok_d h0.1 h0.2 (rx_fok_d (by omega) (by omega) (rx_fok_d (by omega) (by omega) rx_fok_n))) rx_r21_39
                            · exact rx_lawEF C0 (Or.inr rfl) (rx_fok_d h0.1 h0.2 (rx_fok_d (by omega) (by omega) (rx_fok_d (by omega) (by omega) rx_fok_n))) rx_r21_40
                          · by_cases q13 : rx_b (rx_U X 1 []) < 2147483660
                            · by_cases q14 : rx_b (rx_U X 2 []) < 2147483659
                              · exact rx_lawEF C0 (Or.inr rfl) (rx_fok_d h0.1 h0.2 (rx_fok_d (by omega) (by omega) (rx_fok_d (by omega) (by omega) rx_fok_n))) rx_r21_41
                              · exact rx_lawEF C0 (Or.inr rfl) (rx_fok_d h0.1 h0.2 (rx_fok_d (by omega) (by omega) (rx_fok_d (by omega) (by omega) rx_fok_n))) rx_r21_42
                            · by_cases q14 : rx_b (rx_U X 1 []) < 2147483661
                              · by_cases q15 : rx_b (rx_U X 2 []) < 2147483660
                                · exact rx_lawEF C0 (Or.inr rfl) (rx_fok_d h0.1 h0.2 (rx_fok_d (by omega) (by omega) (rx_fok_d (by omega) (by omega) rx_fok_n))) rx_r21_43
                                · exact rx_lawEF C0 (Or.inr rfl) (rx_fok_d h0.1 h0.2 (rx_fok_d (by omega) (by omega) (rx_fok_d (by omega) (by omega) rx_fok_n))) rx_r21_44
                              · by_cases q15 : rx_b (rx_U X 1 []) < 2147483662
                                · by_cases q16 : rx_b (rx_U X 2 []) < 2147483661
                                  · exact rx_lawEF C0 (Or.inr rfl) (rx_fok_d h0.1 h0.2 (rx_fok_d (by omega) (by omega) (rx_fok_d (by omega) (by omega) rx_fok_n))) rx_r21_45
                                  · exact rx_lawEF C0 (Or.inr rfl) (rx_fok_d h0.1 h0.2 (rx_fok_d (by omega) (by omega) (rx_fok_d (by omega) (by omega) rx_fok_n))) rx_r21_46
                                · by_cases q16 : rx_b (rx_U X 1 []) < 2147483663
                                  · by_cases q17 : rx_b (rx_U X 2 []) < 2147483662
                                    · exact rx_lawEF C0 (Or.inr rfl) (rx_fok_d h0.1 h0.2 (rx_fok_d (by omega) (by omega) (rx_fok_d (by omega) (by omega) rx_fok_n))) rx_r21_47
                                    · exact rx_lawEF C0 (Or.inr rfl) (rx_fok_d h0.1 h0.2 (rx_fok_d (by omega) (by omega) (rx_fok_d (by omega) (by omega) rx_fok_n))) rx_r21_48
                                  · by_cases q17 : rx_b (rx_U X 1 []) < 2147483664
                                    · by_cases q18 : rx_b (rx_U X 2 []) < 2147483663
                                      · exact rx_lawEF C0 (Or.inr rfl) (rx_fok_d h0.1 h0.2 (rx_fok_d (by omega) (by omega) (rx_fok_d (by omega) (by omega) rx_fok_n))) rx_r21_49
                                      · exact rx_lawEF C0 (Or.inr rfl) (rx_fok_d h0.1 h0.2 (rx_fok_d (by omega) (by omega) (rx_fok_d (by omega) (by omega) rx_fok_n))) rx_r21_50
                                    · by_cases q18 : rx_b (rx_U X 1 []) < 2147483665
                                      · by_cases q19 : rx_b (rx_U X 2 []) < 2147483664
                                        · exact rx_lawEF C0 (Or.inr rfl) (rx_fok_d h0.1 h0.2 (rx_fok_d (by omega) (by omega) (rx_fok_d (by omega) (by omega) rx_fok_n))) rx_r21_51
                                        · exact rx_lawEF C0 (Or.inr rfl) (rx_fok_d h0.1 h0.2 (rx_fok_d (by omega) (by omega) (rx_fok_d (by omega) (by omega) rx_fok_n))) rx_r21_52
                                      · by_cases q19 : rx_b (rx_U X 1 []) < 2147483666
                                        · by_cases q20 : rx_b (rx_U X 2 []) < 2147483665
                                          · exact rx_lawEF C0 (Or.inr rfl) (rx_fok_d h0.1 h0.2 (rx_fok_d (by omega) (by omega) (rx_fok_d (by omega) (by omega) rx_fok_n))) rx_r21_53
                                          · exact rx_lawEF C0 (Or.inr rfl) (rx_fok_d h0.1 h0.2 (rx_fok_d (by omega) (by omega) (rx_fok_d (by omega) (by omega) rx_fok_n))) rx_r21_54
                                        · by_cases q20 : rx_b (rx_U X 1 []) < 2147483667
                                          · by_cases q21 : rx_b (rx_U X 2 []) < 2147483666
                                            · exact rx_lawEF C0 (Or.inr rfl) (rx_fok_d h0.1 h0.2 (rx_fok_d (by omega) (by omega) (rx_fok_d (by omega) (by omega) rx_fok_n))) rx_r21_55
                                            · exact rx_lawEF C0 (Or.inr rfl) (rx_fok_d h0.1 h0.2 (rx_fok_d (by omega) (by omega) (rx_fok_d (by omega) (by omega) rx_fok_n))) rx_r21_56
                                          · by_cases q21 : rx_b (rx_U X 1 []) < 2147483668
                                            · by_cases q22 : rx_b (rx_U X 2 []) < 2147483667
                                              · exact rx_lawEF C0 (Or.inr rfl) (rx_fok_d h0.1 h0.2 (rx_fok_d (by omega) (by omega) (rx_fok_d (by omega) (by omega) rx_fok_n))) rx_r21_57
                                              · exact rx_lawEF C0 (Or.inr rfl) (rx_fok_d h0.1 h0.2 (rx_fok_d (by omega) (by omega) (rx_fok_d (by omega) (by omega) rx_fok_n))) rx_r21_58
                                            · by_cases q22 : rx_b (rx_U X 2 []) < 2147483668
                                              · exact rx_lawEF C0 (Or.inr rfl) (rx_fok_d h0.1 h0.2 (rx_fok_d (by omega) (by omega) (rx_fok_d (by omega) (by omega) rx_fok_n))) rx_r21_59
                                              · exact rx_lawEF C0 (Or.inr rfl) (rx_fok_d h0.1 h0.2 (rx_fok_d (by omega) (by omega) (rx_fok_d (by omega) (by omega) rx_fok_n))) rx_r21_60
    · exact rx_lawEF C0 (Or.inr rfl) (rx_fok_d h0.1 h0.2 (rx_fok_d (by omega) (by omega) rx_fok_n)) rx_r21_61
theorem rx_case22 (C0 : rx_lawC p s m meth c b 6 xs X D) (h0 : 2147483670 ≤ rx_b (rx_U X 0 [(0, 63)]) ∧ rx_b (rx_U X 0 [(0, 63)]) ≤ 2147483670) : rx_LW p l e s m below meth c b X D 18 rx_L0 [] rx_w0 221 26609 := by
  have l0 := rx_b_lt (rx_U X 1 [])
  have l1 := rx_b_lt (rx_U X 2 [])
  by_cases q0 : rx_b (rx_U X 1 []) < 2147483649
  · exact rx_lawEF C0 (Or.inr rfl) (rx_fok_d h0.1 h0.2 (rx_fok_d (by omega) (by omega) rx_fok_n)) rx_r22_0
  · by_cases q1 : rx_b (rx_U X 1 []) < 2147483669
    · by_cases q2 : rx_b (rx_U X 2 []) < 2147483648
      · exact rx_lawEF C0 (Or.inr rfl) (rx_fok_d h0.1 h0.2 (rx_fok_d (by omega) (by omega) (rx_fok_d (by omega) (by omega) rx_fok_n))) rx_r22_1
      · by_cases q3 : rx_b (rx_U X 2 []) < 2147483650
        · by_cases q4 : rx_b (rx_U X 1 []) < 2147483650
          · exact rx_lawEF C0 (Or.inr rfl) (rx_fok_d h0.1 h0.2 (rx_fok_d (by omega) (by omega) (rx_fok_d (by omega) (by omega) rx_fok_n))) rx_r22_2
          · by_cases q5 : rx_b (rx_U X 1 []) < 2147483651
            · exact rx_lawEF C0 (Or.inr rfl) (rx_fok_d h0.1 h0.2 (rx_fok_d (by omega) (by omega) (rx_fok_d (by omega) (by omega) rx_fok_n))) rx_r22_3
            · by_cases q6 : rx_b (rx_U X 1 []) < 2147483652
              · exact rx_lawEF C0 (Or.inr rfl) (rx_fok_d h0.1 h0.2 (rx_fok_d (by omega) (by omega) (rx_fok_d (by omega) (by omega) rx_fok_n))) rx_r22_4
              · by_cases q7 : rx_b (rx_U X 1 []) < 2147483653
                · exact rx_lawEF C0 (Or.inr rfl) (rx_fok_d h0.1 h0.2 (rx_fok_d (by omega) (by omega) (rx_fok_d (by omega) (by omega) rx_fok_n))) rx_r22_5
                · by_cases q8 : rx_b (rx_U X 1 []) < 2147483654
                  · exact rx_lawEF C0 (Or.inr rfl) (rx_fok_d h0.1 h0.2 (rx_fok_d (by omega) (by omega) (rx_fok_d (by omega) (by omega) rx_fok_n))) rx_r22_6
                  · by_cases q9 : rx_b (rx_U X 1 []) < 2147483655
                    · exact rx_lawEF C0 (Or.inr rfl) (rx_fok_d h0.1 h0.2 (rx_fok_d (by omega) (by omega) (rx_fok_d (by omega) (by omega) rx_fok_n))) rx_r22_7
                    · by_cases q10 : rx_b (rx_U X 1 []) < 2147483656
                      · exact rx_lawEF C0 (Or.inr rfl) (rx_fok_d h0.1 h0.2 (rx_fok_d (by omega) (by omega) (rx_fok_d (by omega) (by omega) rx_fok_n))) rx_r22_8
                      · by_cases q11 : rx_b (rx_U X 1 []) < 2147483657
                        · exact rx_lawEF C0 (Or.inr rfl) (rx_fok_d h0.1 h0.2 (rx_fok_d (by omega) (by omega) (rx_fok_d (by omega) (by omega) rx_fok_n))) rx_r22_9
                        · by_cases q12 : rx_b (rx_U X 1 []) < 2147483658
                          · exact rx_lawEF C0 (Or.inr rfl) (rx_fok_d h0.1 h0.2 (rx_fok_d (by omega) (by omega) (rx_fok_d (by omega) (by omega) rx_fok_n))) rx_r22_10
                          · by_cases q13 : rx_b (rx_U X 1 []) < 2147483659
                            · exact rx_lawEF C0 (Or.inr rfl) (rx_fok_d h0.1 h0.2 (rx_fok_d (by omega) (by omega) (rx_fok_d (by omega) (by omega) rx_fok_n))) rx_r22_11
                            · by_cases q14 : rx_b (rx_U X 1 []) < 2147483660
                              · exact rx_lawEF C0 (Or.inr rfl) (rx_fok_d h0.1 h0.2 (rx_fok_d (by omega) (by omega) (rx_fok_d (by omega) (by omega) rx_fok_n))) rx_r22_12
                              · by_cases q15 : rx_b (rx_U X 1 []) < 2147483661
                                · exact rx_lawEF C0 (Or.inr rfl) (rx_fok_d h0.1 h0.2 (rx_fok_d (by omega) (by omega) (rx_fok_d (by omega) (by omega) rx_fok_n))) rx_r22_13
                                · by_cases q16 : rx_b (rx_U X 1 []) < 2147483662
                                  · exact rx_lawEF C0 (Or.inr rfl) (rx_fok_d h0.1 h0.2 (rx_fok_d (by omega) (by omega) (rx_fok_d (by omega) (by omega) rx_fok_n))) rx_r22_14
                                  · by_cases q17 : rx_b (rx_U X 1 []) < 2147483663
                                    · exact rx_lawEF C0 (Or.inr rfl) (rx_fok_d h0.1 h0.2 (rx_fok_d (by omega) (by omega) (rx_fok_d (by omega) (by omega) rx_fok_n))) rx_r22_15
                                    · by_cases q18 : rx_b (rx_U X 1 []) < 2147483664
                                      · exact rx_lawEF C0 (Or.inr rfl) (rx_fok_d h0.1 h0.2 (rx_fok_d (by omega) (by omega) (rx_fok_d (by omega) (by omega) rx_fok_n))) rx_r22_16
                                      · by_cases q19 : rx_b (rx_U X 1 []) < 2147483665
                                        · exact rx_lawEF C0 (Or.inr rfl) (rx_fok_d h0.1 h0.2 (rx_fok_d (by omega) (by omega) (rx_fok_d (by omega) (by omega) rx_fok_n))) rx_r22_17
                                        · by_cases q20 : rx_b (rx_U X 1 []) < 2147483666
                                          · exact rx_lawEF C0 (Or.inr rfl) (rx_fok_d h0.1 h0.2 (rx_fok_d (by omega) (by omega) (rx_fok_d (by omega) (by omega) rx_fok_n))) rx_r22_18
                                          · by_cases q21 : rx_b (rx_U X 1 []) < 2147483667
                                            · exact rx_lawEF C0 (Or.inr rfl) (rx_fok_d h0.1 h0.2 (rx_fok_d (by omega) (by omega) (rx_fok_d (by omega) (by omega) rx_fok_n))) rx_r22_19
                                            · by_cases q22 : rx_b (rx_U X 1 []) < 2147483668
                                              · exact rx_lawEF C0 (Or.inr rfl) (rx_fok_d h0.1 h0.2 (rx_fok_d (by omega) (by omega) (rx_fok_d (by omega) (by omega) rx_fok_n))) rx_r22_20
                                              · exact rx_lawEF C0 (Or.inr rfl) (rx_fok_d h0.1 h0.2 (rx_fok_d (by omega) (by omega) (rx_fok_d (by omega) (by omega) rx_fok_n))) rx_r22_21
        · exact rx_lawEF C0 (Or.inr rfl) (rx_fok_d h0.1 h0.2 (rx_fok_d (by omega) (by omega) (rx_fok_d (by omega) (by omega) rx_fok_n))) rx_r22_22
    · exact rx_lawEF C0 (Or.inr rfl) (rx_fok_d h0.1 h0.2 (rx_fok_d (by omega) (by omega) rx_fok_n)) rx_r22_23
theorem rx_case25 (C0 : rx_lawC p s m meth c b 6 xs X D) (h0 : 2147483673 ≤ rx_b (rx_U X 0 [(0, 63)]) ∧ rx_b (rx_U X 0 [(0, 63)]) ≤ 2147483673) : rx_LW p l e s m below meth c b X D 18 rx_L0 [] rx_w0 221 26609 := by
  have l0 := rx_b_lt (rx_U X 1 [])
  by_cases q0 : rx_b (rx_U X 1 []) < 2147483648
  · exact rx_lawEF C0 (Or.inr rfl) (rx_fok_d h0.1 h0.2 (rx_fok_d (by omega) (by omega) rx_fok_n)) rx_r25_0
  · exact rx_lawEF C0 (Or.inr rfl) (rx_fok_d h0.1 h0.2 (rx_fok_d (by omega) (by omega) rx_fok_n)) rx_r25_1
theorem rx_case26 (C0 : rx_lawC p s m meth c b 6 xs X D) (h0 : 2147483674 ≤ rx_b (rx_U X 0 [(0, 63)]) ∧ rx_b (rx_U X 0 [(0, 63)]) ≤ 2147483674) : rx_LW p l e s m below meth c b X D 18 rx_L0 [] rx_w0 221 26609 := by
  have l0 := rx_b_lt (rx_U X 1 [])
  by_cases q0 : rx_b (rx_U X 1 []) < 2147483648
  · exact rx_lawEF C0 (Or.inr rfl) (rx_fok_d h0.1 h0.2 (rx_fok_d (by omega) (by omega) rx_fok_n)) rx_r26_0
  · exact rx_lawEF C0 (Or.inr rfl) (rx_fok_d h0.1 h0.2 (rx_fok_d (by omega) (by omega) rx_fok_n)) rx_r26_1
theorem rx_case27 (C0 : rx_lawC p s m meth c b 6 xs X D) (h0 : 2147483675 ≤ rx_b (rx_U X 0 [(0, 63)]) ∧ rx_b (rx_U X 0 [(0, 63)]) ≤ 2147483675) : rx_LW p l e s m below meth c b X D 18 rx_L0 [] rx_w0 221 26609 := by
  have l0 := rx_b_lt (rx_U X 1 [])
  by_cases q0 : rx_b (rx_U X 1 []) < 2147483648
  · exact rx_lawEF C0 (Or.inr rfl) (rx_fok_d h0.1 h0.2 (rx_fok_d (by omega) (by omega) rx_fok_n)) rx_r27_0
  · exact rx_lawEF C0 (Or.inr rfl) (rx_fok_d h0.1 h0.2 (rx_fok_d (by omega) (by omega) rx_fok_n)) rx_r27_1
theorem rx_case28 (C0 : rx_lawC p s m meth c b 6 xs X D) (h0 : 2147483676 ≤ rx_b (rx_U X 0 [(0, 63)]) ∧ rx_b (rx_U X 0 [(0, 63)]) ≤ 2147483676) : rx_LW p l e s m below meth c b X D 18 rx_L0 [] rx_w0 221 26609 := by
  exact rx_lawEF C0 (Or.inr rfl) (rx_fok_d h0.1 h0.2 rx_fok_n) rx_r28_0
theorem rx_case29 (C0 : rx_lawC p s m meth c b 6 xs X D) (h0 : 2147483677 ≤ rx_b (rx_U X 0 [(0, 63)]) ∧ rx_b (rx_U X 0 [(0, 63)]) ≤ 2147483677) : rx_LW p l e s m below meth c b X D 18 rx_L0 [] rx_w0 221 26609 := by
  exact rx_lawEF C0 (Or.inr rfl) (rx_fok_d h0.1 h0.2 rx_fok_n) rx_r29_0
theorem rx_case30 (C0 : rx_lawC p s m meth c b 6 xs X D) (h0 : 2147483678 ≤ rx_b (rx_U X 0 [(0, 63)]) ∧ rx_b (rx_U X 0 [(0, 63)]) ≤ 2147483678) : rx_LW p l e s m below meth c b X D 18 rx_L0 [] rx_w0 221 26609 := by
  have l0 := rx_b_lt (rx_U X 1 [])
  by_cases q0 : rx_b (rx_U X 1 []) < 2147483648
  · exact rx_lawEF C0 (Or.inr rfl) (rx_fok_d h0.1 h0.2 (rx_fok_d (by omega) (by omega) rx_fok_n)) rx_r30_0
  · exact rx_lawEF C0 (Or.inr rfl) (rx_fok_d h0.1 h0.2 (rx_fok_d (by omega) (by omega) rx_fok_n)) rx_r30_1
theorem rx_case31 (C0 : rx_lawC p s m meth c b 6 xs X D) (h0 : 2147483679 ≤ rx_b (rx_U X 0 [(0, 63)]) ∧ rx_b (rx_U X 0 [(0, 63)]) ≤ 2147483679) : rx_LW p l e s m below meth c b X D 18 rx_L0 [] rx_w0 221 26609 := by
  have l0 := rx_b_lt (rx_U X 1 [])
  by_cases q0 : rx_b (rx_U X 1 []) < 2147483648
  · exact rx_lawEF C0 (Or.inr rfl) (rx_fok_d h0.1 h0.2 (rx_fok_d (by omega) (by omega) rx_fok_n)) rx_r31_0
  · exact rx_lawEF C0 (Or.inr rfl) (rx_fok_d h0.1 h0.2 (rx_fok_d (by omega) (by omega) rx_fok_n)) rx_r31_1
theorem rx_case32 (C0 : rx_lawC p s m meth c b 6 xs X D) (h0 : 2147483680 ≤ rx_b (rx_U X 0 [(0, 63)]) ∧ rx_b (rx_U X 0 [(0, 63)]) ≤ 2147483680) : rx_LW p l e s m below meth c b X D 18 rx_L0 [] rx_w0 221 26609 := by
  exact rx_lawEF C0 (Or.inr rfl) (rx_fok_d h0.1 h0.2 rx_fok_n) rx_r32_0
theorem rx_case33 (C0 : rx_lawC p s m meth c b 6 xs X D) (h0 : 2147483681 ≤ rx_b (rx_U X 0 [(0, 63)]) ∧ rx_b (rx_U X 0 [(0, 63)]) ≤ 2147483681) : rx_LW p l e s m below meth c b X D 18 rx_L0 [] rx_w0 221 26609 := by
  have l0 := rx_b_lt (rx_U X 1 [])
  by_cases q0 : rx_b (rx_U X 1 []) < 2147483648
  · exact rx_lawEF C0 (Or.inr rfl) (rx_fok_d h0.1 h0.2 (rx_fok_d (by omega) (by omega) rx_fok_n)) rx_r33_0
  · exact rx_lawEF C0 (Or.inr rfl) (rx_fok_d h0.1 h0.2 (rx_fok_d (by omega) (by omega) rx_fok_n)) rx_r33_1
theorem rx_case34 (C0 : rx_lawC p s m meth c b 6 xs X D) (h0 : 2147483682 ≤ rx_b (rx_U X 0 [(0, 63)]) ∧ rx_b (rx_U X 0 [(0, 63)]) ≤ 2147483682) : rx_LW p l e s m below meth c b X D 18 rx_L0 [] rx_w0 221 26609 := by
  exact rx_lawEF C0 (Or.inr rfl) (rx_fok_d h0.1 h0.2 rx_fok_n) rx_r34_0
theorem rx_case35 (C0 : rx_lawC p s m meth c b 6 xs X D) (h0 : 2147483683 ≤ rx_b (rx_U X 0 [(0, 63)]) ∧ rx_b (rx_U X 0 [(0, 63)]) ≤ 2147483683) : rx_LW p l e s m below meth c b X D 18 rx_L0 [] rx_w0 221 26609 := by
  have l0 := rx_b_lt (rx_U X 1 [])
  by_cases q0 : rx_b (rx_U X 1 []) < 2147483648
  · exact rx_lawEF C0 (Or.inr rfl) (rx_fok_d h0.1 h0.2 (rx_fok_d (by omega) (by omega) rx_fok_n)) rx_r35_0
  · by_cases q1 : rx_b (rx_U X 1 []) < 2147483654
    · by_cases q2 : rx_b (rx_U X 1 []) < 2147483649
      · exact rx_lawEF C0 (Or.inr rfl) (rx_fok_d h0.1 h0.2 (rx_fok_d (by omega) (by omega) rx_fok_n)) rx_r35_1
      · by_cases q3 : rx_b (rx_U X 1 []) < 2147483650
        · exact rx_lawEF C0 (Or.inr rfl) (rx_fok_d h0.1 h0.2 (rx_fok_d (by omega) (by omega) rx_fok_n)) rx_r35_2
        · by_cases q4 : rx_b (rx_U X 1 []) < 2147483651
          · exact rx_lawEF C0 (Or.inr rfl) (rx_fok_d h0.1 h0.2 (rx_fok_d (by omega) (by omega) rx_fok_n)) rx_r35_3
          · by_cases q5 : rx_b (rx_U X 1 []) < 2147483652
            · exact rx_lawEF C0 (Or.inr rfl) (rx_fok_d h0.1 h0.2 (rx_fok_d (by omega) (by omega) rx_fok_n)) rx_r35_4
            · by_cases q6 : rx_b (rx_U X 1 []) < 2147483653
              · exact rx_lawEF C0 (Or.inr rfl) (rx_fok_d h0.1 h0.2 (rx_fok_d (by omega) (by omega) rx_fok_n)) rx_r35_5
              · exact rx_lawEF C0 (Or.inr rfl) (rx_fok_d h0.1 h0.2 (rx_fok_d (by omega) (by omega) rx_fok_n)) rx_r35_6
    · exact rx_lawEF C0 (Or.inr rfl) (rx_fok_d h0.1 h0.2 (rx_fok_d (by omega) (by omega) rx_fok_n)) rx_r35_7
theorem rx_case36 (C0 : rx_lawC p s m meth c b 6 xs X D) (h0 : 2147483684 ≤ rx_b (rx_U X 0 [(0, 63)]) ∧ rx_b (rx_U X 0 [(0, 63)]) ≤ 2147483711) : rx_LW p l e s m below meth c b X D 18 rx_L0 [] rx_w0 221 26609 := by
  exact rx_lawEF C0 (Or.inr rfl) (rx_fok_d h0.1 h0.2 rx_fok_n) rx_r36_0
end RXG
