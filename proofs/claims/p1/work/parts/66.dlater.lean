/-! printed by wip/p1/heavy.py: the chain of later -/
section RXV
variable {p : Program} {l : Launch} {e : Env} {s : State} {m : MethodId} {args : Array Value} {below : List Frame} {meth : Method} {c : Code} {X : rx_X} {D : va_G}
theorem rx_kV39 (Cm : rx_mC p s m args c meth X D rx_yV rx_xV.2.1) (hq : rx_fok X [((2, []), 2147483648, 2147483648)] ∨ rx_fok X [((2, []), 2147483649, 2147483649)]) (h1 : 2147483687 ≤ rx_b (rx_U X 1 [])) (h2 : rx_b (rx_U X 1 []) ≤ 2147483687) : rx_MW p l e s m args below meth c X D rx_yV rx_xV (.int (nI 0)) 30 rx_LV39 [] rx_wV39 0 0 := rx_mXF rx_oV Cm (rx_fok_d (by omega) (by omega) rx_fok_n) hq rfl rx_eV39
theorem rx_kV38 (Cm : rx_mC p s m args c meth X D rx_yV rx_xV.2.1) (hq : rx_fok X [((2, []), 2147483648, 2147483648)] ∨ rx_fok X [((2, []), 2147483649, 2147483649)]) (h1 : 2147483686 ≤ rx_b (rx_U X 1 [])) (h2 : rx_b (rx_U X 1 []) ≤ 2147483687) : rx_MW p l e s m args below meth c X D rx_yV rx_xV (.int (nI 0)) 30 rx_LV38 [] rx_wV38 0 0 := by
  by_cases q : rx_b (rx_U X 1 []) < 2147483687
  · exact rx_mXF rx_oV Cm (rx_fok_d (by omega) (by omega) rx_fok_n) hq rfl rx_eV38
  · exact rx_mSF rx_oV Cm (rx_fok_d (by omega) (by omega) rx_fok_n) rx_tV38 (rx_mSF rx_oV Cm rx_fok_n rx_rV38 (rx_kV39 Cm hq (by omega) (by omega)))
theorem rx_kV37 (Cm : rx_mC p s m args c meth X D rx_yV rx_xV.2.1) (hq : rx_fok X [((2, []), 2147483648, 2147483648)] ∨ rx_fok X [((2, []), 2147483649, 2147483649)]) (h1 : 2147483685 ≤ rx_b (rx_U X 1 [])) (h2 : rx_b (rx_U X 1 []) ≤ 2147483687) : rx_MW p l e s m args below meth c X D rx_yV rx_xV (.int (nI 0)) 30 rx_LV37 [] rx_wV37 0 0 := by
  by_cases q : rx_b (rx_U X 1 []) < 2147483686
  · exact rx_mXF rx_oV Cm (rx_fok_d (by omega) (by omega) rx_fok_n) hq rfl rx_eV37
  · exact rx_mSF rx_oV Cm (rx_fok_d (by omega) (by omega) rx_fok_n) rx_tV37 (rx_mSF rx_oV Cm rx_fok_n rx_rV37 (rx_kV38 Cm hq (by omega) (by omega)))
theorem rx_kV36 (Cm : rx_mC p s m args c meth X D rx_yV rx_xV.2.1) (hq : rx_fok X [((2, []), 2147483648, 2147483648)] ∨ rx_fok X [((2, []), 2147483649, 2147483649)]) (h1 : 2147483684 ≤ rx_b (rx_U X 1 [])) (h2 : rx_b (rx_U X 1 []) ≤ 2147483687) : rx_MW p l e s m args below meth c X D rx_yV rx_xV (.int (nI 0)) 30 rx_LV36 [] rx_wV36 0 0 := by
  by_cases q : rx_b (rx_U X 1 []) < 2147483685
  · exact rx_mXF rx_oV Cm (rx_fok_d (by omega) (by omega) rx_fok_n) hq rfl rx_eV36
  · exact rx_mSF rx_oV Cm (rx_fok_d (by omega) (by omega) rx_fok_n) rx_tV36 (rx_mSF rx_oV Cm rx_fok_n rx_rV36 (rx_kV37 Cm hq (by omega) (by omega)))
theorem rx_kV35 (Cm : rx_mC p s m args c meth X D rx_yV rx_xV.2.1) (hq : rx_fok X [((2, []), 2147483648, 2147483648)] ∨ rx_fok X [((2, []), 2147483649, 2147483649)]) (h1 : 2147483683 ≤ rx_b (rx_U X 1 [])) (h2 : rx_b (rx_U X 1 []) ≤ 2147483687) : rx_MW p l e s m args below meth c X D rx_yV rx_xV (.int (nI 0)) 30 rx_LV35 [] rx_wV35 0 0 := by
  by_cases q : rx_b (rx_U X 1 []) < 2147483684
  · exact rx_mXF rx_oV Cm (rx_fok_d (by omega) (by omega) rx_fok_n) hq rfl rx_eV35
  · exact rx_mSF rx_oV Cm (rx_fok_d (by omega) (by omega) rx_fok_n) rx_tV35 (rx_mSF rx_oV Cm rx_fok_n rx_rV35 (rx_kV36 Cm hq (by omega) (by omega)))
theorem rx_kV34 (Cm : rx_mC p s m args c meth X D rx_yV rx_xV.2.1) (hq : rx_fok X [((2, []), 2147483648, 2147483648)] ∨ rx_fok X [((2, []), 2147483649, 2147483649)]) (h1 : 2147483682 ≤ rx_b (rx_U X 1 [])) (h2 : rx_b (rx_U X 1 []) ≤ 2147483687) : rx_MW p l e s m args below meth c X D rx_yV rx_xV (.int (nI 0)) 30 rx_LV34 [] rx_wV34 0 0 := by
  by_cases q : rx_b (rx_U X 1 []) < 2147483683
  · exact rx_mXF rx_oV Cm (rx_fok_d (by omega) (by omega) rx_fok_n) hq rfl rx_eV34
  · exact rx_mSF rx_oV Cm (rx_fok_d (by omega) (by omega) rx_fok_n) rx_tV34 (rx_mSF rx_oV Cm rx_fok_n rx_rV34 (rx_kV35 Cm hq (by omega) (by omega)))
theorem rx_kV33 (Cm : rx_mC p s m args c meth X D rx_yV rx_xV.2.1) (hq : rx_fok X [((2, []), 2147483648, 2147483648)] ∨ rx_fok X [((2, []), 2147483649, 2147483649)]) (h1 : 2147483681 ≤ rx_b (rx_U X 1 [])) (h2 : rx_b (rx_U X 1 []) ≤ 2147483687) : rx_MW p l e s m args below meth c X D rx_yV rx_xV (.int (nI 0)) 30 rx_LV33 [] rx_wV33 0 0 := by
  by_cases q : rx_b (rx_U X 1 []) < 2147483682
  · exact rx_mXF rx_oV Cm (rx_fok_d (by omega) (by omega) rx_fok_n) hq rfl rx_eV33
  · exact rx_mSF rx_oV Cm (rx_fok_d (by omega) (by omega) rx_fok_n) rx_tV33 (rx_mSF rx_oV Cm rx_fok_n rx_rV33 (rx_kV34 Cm hq (by omega) (by omega)))
theorem rx_kV32 (Cm : rx_mC p s m args c meth X D rx_yV rx_xV.2.1) (hq : rx_fok X [((2, []), 2147483648, 2147483648)] ∨ rx_fok X [((2, []), 2147483649, 2147483649)]) (h1 : 2147483680 ≤ rx_b (rx_U X 1 [])) (h2 : rx_b (rx_U X 1 []) ≤ 2147483687) : rx_MW p l e s m args below meth c X D rx_yV rx_xV (.int (nI 0)) 30 rx_LV32 [] rx_wV32 0 0 := by
  by_cases q : rx_b (rx_U X 1 []) < 2147483681
  · exact rx_mXF rx_oV Cm (rx_fok_d (by omega) (by omega) rx_fok_n) hq rfl rx_eV32
  · exact rx_mSF rx_oV Cm (rx_fok_d (by omega) (by omega) rx_fok_n) rx_tV32 (rx_mSF rx_oV Cm rx_fok_n rx_rV32 (rx_kV33 Cm hq (by omega) (by omega)))
theorem rx_kV31 (Cm : rx_mC p s m args c meth X D rx_yV rx_xV.2.1) (hq : rx_fok X [((2, []), 2147483648, 2147483648)] ∨ rx_fok X [((2, []), 2147483649, 2147483649)]) (h1 : 2147483679 ≤ rx_b (rx_U X 1 [])) (h2 : rx_b (rx_U X 1 []) ≤ 2147483687) : rx_MW p l e s m args below meth c X D rx_yV rx_xV (.int (nI 0)) 30 rx_LV31 [] rx_wV31 0 0 := by
  by_cases q : rx_b (rx_U X 1 []) < 2147483680
  · exact rx_mXF rx_oV Cm (rx_fok_d (by omega) (by omega) rx_fok_n) hq rfl rx_eV31
  · exact rx_mSF rx_oV Cm (rx_fok_d (by omega) (by omega) rx_fok_n) rx_tV31 (rx_mSF rx_oV Cm rx_fok_n rx_rV31 (rx_kV32 Cm hq (by omega) (by omega)))
theorem rx_kV30 (Cm : rx_mC p s m args c meth X D rx_yV rx_xV.2.1) (hq : rx_fok X [((2, []), 2147483648, 2147483648)] ∨ rx_fok X [((2, []), 2147483649, 2147483649)]) (h1 : 2147483678 ≤ rx_b (rx_U X 1 [])) (h2 : rx_b (rx_U X 1 []) ≤ 2147483687) : rx_MW p l e s m args below meth c X D rx_yV rx_xV (.int (nI 0)) 30 rx_LV30 [] rx_wV30 0 0 := by
  by_cases q : rx_b (rx_U X 1 []) < 2147483679
  · exact rx_mXF rx_oV Cm (rx_fok_d (by omega) (by omega) rx_fok_n) hq rfl rx_eV30
  · exact rx_mSF rx_oV Cm (rx_fok_d (by omega) (by omega) rx_fok_n) rx_tV30 (rx_mSF rx_oV Cm rx_fok_n rx_rV30 (rx_kV31 Cm hq (by omega) (by omega)))
theorem rx_kV29 (Cm : rx_mC p s m args c meth X D rx_yV rx_xV.2.1) (hq : rx_fok X [((2, []), 2147483648, 2147483648)] ∨ rx_fok X [((2, []), 2147483649, 2147483649)]) (h1 : 2147483677 ≤ rx_b (rx_U X 1 [])) (h2 : rx_b (rx_U X 1 []) ≤ 2147483687) : rx_MW p l e s m args below meth c X D rx_yV rx_xV (.int (nI 0)) 30 rx_LV29 [] rx_wV29 0 0 := by
  by_cases q : rx_b (rx_U X 1 []) < 2147483678
  · exact rx_mXF rx_oV Cm (rx_fok_d (by omega) (by omega) rx_fok_n) hq rfl rx_eV29
  · exact rx_mSF rx_oV Cm (rx_fok_d (by omega) (by omega) rx_fok_n) rx_tV29 (rx_mSF rx_oV Cm rx_fok_n rx_rV29 (rx_kV30 Cm hq (by omega) (by omega)))
theorem rx_kV28 (Cm : rx_mC p s m args c meth X D rx_yV rx_xV.2.1) (hq : rx_fok X [((2, []), 2147483648, 2147483648)] ∨ rx_fok X [((2, []), 2147483649, 2147483649)]) (h1 : 2147483676 ≤ rx_b (rx_U X 1 [])) (h2 : rx_b (rx_U X 1 []) ≤ 2147483687) : rx_MW p l e s m args below meth c X D rx_yV rx_xV (.int (nI 0)) 30 rx_LV28 [] rx_wV28 0 0 := by
  by_cases q : rx_b (rx_U X 1 []) < 2147483677
  · exact rx_mXF rx_oV Cm (rx_fok_d (by omega) (by omega) rx_fok_n) hq rfl rx_eV28
  · exact rx_mSF rx_oV Cm (rx_fok_d (by omega) (by omega) rx_fok_n) rx_tV28 (rx_mSF rx_oV Cm rx_fok_n rx_rV28 (rx_kV29 Cm hq (by omega) (by omega)))
theorem rx_kV27 (Cm : rx_mC p s m args c meth X D rx_yV rx_xV.2.1) (hq : rx_fok X [((2, []), 2147483648, 2147483648)] ∨ rx_fok X [((2, []), 2147483649, 2147483649)]) (h1 : 2147483675 ≤ rx_b (rx_U X 1 [])) (h2 : rx_b (rx_U X 1 []) ≤ 2147483687) : rx_MW p l e s m args below meth c X D rx_yV rx_xV (.int (nI 0)) 30 rx_LV27 [] rx_wV27 0 0 := by
  by_cases q : rx_b (rx_U X 1 []) < 2147483676
  · exact rx_mXF rx_oV Cm (rx_fok_d (by omega) (by omega) rx_fok_n) hq rfl rx_eV27
  · exact rx_mSF rx_oV Cm (rx_fok_d (by omega) (by omega) rx_fok_n) rx_tV27 (rx_mSF rx_oV Cm rx_fok_n rx_rV27 (rx_kV28 Cm hq (by omega) (by omega)))
theorem rx_kV26 (Cm : rx_mC p s m args c meth X D rx_yV rx_xV.2.1) (hq : rx_fok X [((2, []), 2147483648, 2147483648)] ∨ rx_fok X [((2, []), 2147483649, 2147483649)]) (h1 : 2147483674 ≤ rx_b (rx_U X 1 [])) (h2 : rx_b (rx_U X 1 []) ≤ 2147483687) : rx_MW p l e s m args below meth c X D rx_yV rx_xV (.int (nI 0)) 30 rx_LV26 [] rx_wV26 0 0 := by
  by_cases q : rx_b (rx_U X 1 []) < 2147483675
  · exact rx_mXF rx_oV Cm (rx_fok_d (by omega) (by omega) rx_fok_n) hq rfl rx_eV26
  · exact rx_mSF rx_oV Cm (rx_fok_d (by omega) (by omega) rx_fok_n) rx_tV26 (rx_mSF rx_oV Cm rx_fok_n rx_rV26 (rx_kV27 Cm hq (by omega) (by omega)))
theorem rx_kV25 (Cm : rx_mC p s m args c meth X D rx_yV rx_xV.2.1) (hq : rx_fok X [((2, []), 2147483648, 2147483648)] ∨ rx_fok X [((2, []), 2147483649, 2147483649)]) (h1 : 2147483673 ≤ rx_b (rx_U X 1 [])) (h2 : rx_b (rx_U X 1 []) ≤ 2147483687) : rx_MW p l e s m args below meth c X D rx_yV rx_xV (.int (nI 0)) 30 rx_LV25 [] rx_wV25 0 0 := by
  by_cases q : rx_b (rx_U X 1 []) < 2147483674
  · exact rx_mXF rx_oV Cm (rx_fok_d (by omega) (by omega) rx_fok_n) hq rfl rx_eV25
  · exact rx_mSF rx_oV Cm (rx_fok_d (by omega) (by omega) rx_fok_n) rx_tV25 (rx_mSF rx_oV Cm rx_fok_n rx_rV25 (rx_kV26 Cm hq (by omega) (by omega)))
theorem rx_kV24 (Cm : rx_mC p s m args c meth X D rx_yV rx_xV.2.1) (hq : rx_fok X [((2, []), 2147483648, 2147483648)] ∨ rx_fok X [((2, []), 2147483649, 2147483649)]) (h1 : 2147483672 ≤ rx_b (rx_U X 1 [])) (h2 : rx_b (rx_U X 1 []) ≤ 2147483687) : rx_MW p l e s m args below meth c X D rx_yV rx_xV (.int (nI 0)) 30 rx_LV24 [] rx_wV24 0 0 := by
  by_cases q : rx_b (rx_U X 1 []) < 2147483673
  · exact rx_mXF rx_oV Cm (rx_fok_d (by omega) (by omega) rx_fok_n) hq rfl rx_eV24
  · exact rx_mSF rx_oV Cm (rx_fok_d (by omega) (by omega) rx_fok_n) rx_tV24 (rx_mSF rx_oV Cm rx_fok_n rx_rV24 (rx_kV25 Cm hq (by omega) (by omega)))
theorem rx_kV23 (Cm : rx_mC p s m args c meth X D rx_yV rx_xV.2.1) (hq : rx_fok X [((2, []), 2147483648, 2147483648)] ∨ rx_fok X [((2, []), 2147483649, 2147483649)]) (h1 : 2147483671 ≤ rx_b (rx_U X 1 [])) (h2 : rx_b (rx_U X 1 []) ≤ 2147483687) : rx_MW p l e s m args below meth c X D rx_yV rx_xV (.int (nI 0)) 30 rx_LV23 [] rx_wV23 0 0 := by
  by_cases q : rx_b (rx_U X 1 []) < 2147483672
  · exact rx_mXF rx_oV Cm (rx_fok_d (by omega) (by omega) rx_fok_n) hq rfl rx_eV23
  · exact rx_mSF rx_oV Cm (rx_fok_d (by omega) (by omega) rx_fok_n) rx_tV23 (rx_mSF rx_oV Cm rx_fok_n rx_rV23 (rx_kV24 Cm hq (by omega) (by omega)))
theorem rx_kV22 (Cm : rx_mC p s m args c meth X D rx_yV rx_xV.2.1) (hq : rx_fok X [((2, []), 2147483648, 2147483648)] ∨ rx_fok X [((2, []), 2147483649, 2147483649)]) (h1 : 2147483670 ≤ rx_b (rx_U X 1 [])) (h2 : rx_b (rx_U X 1 []) ≤ 2147483687) : rx_MW p l e s m args below meth c X D rx_yV rx_xV (.int (nI 0)) 30 rx_LV22 [] rx_wV22 0 0 := by
  by_cases q : rx_b (rx_U X 1 []) < 2147483671
  · exact rx_mXF rx_oV Cm (rx_fok_d (by omega) (by omega) rx_fok_n) hq rfl rx_eV22
  · exact rx_mSF rx_oV Cm (rx_fok_d (by omega) (by omega) rx_fok_n) rx_tV22 (rx_mSF rx_oV Cm rx_fok_n rx_rV22 (rx_kV23 Cm hq (by omega) (by omega)))
theorem rx_kV21 (Cm : rx_mC p s m args c meth X D rx_yV rx_xV.2.1) (hq : rx_fok X [((2, []), 2147483648, 2147483648)] ∨ rx_fok X [((2, []), 2147483649, 2147483649)]) (h1 : 2147483669 ≤ rx_b (rx_U X 1 [])) (h2 : rx_b (rx_U X 1 []) ≤ 2147483687) : rx_MW p l e s m args below meth c X D rx_yV rx_xV (.int (nI 0)) 30 rx_LV21 [] rx_wV21 0 0 := by
  by_cases q : rx_b (rx_U X 1 []) < 2147483670
  · exact rx_mXF rx_oV Cm (rx_fok_d (by omega) (by omega) rx_fok_n) hq rfl rx_eV21
  · exact rx_mSF rx_oV Cm (rx_fok_d (by omega) (by omega) rx_fok_n) rx_tV21 (rx_mSF rx_oV Cm rx_fok_n rx_rV21 (rx_kV22 Cm hq (by omega) (by omega)))
theorem rx_kV20 (Cm : rx_mC p s m args c meth X D rx_yV rx_xV.2.1) (hq : rx_fok X [((2, []), 2147483648, 2147483648)] ∨ rx_fok X [((2, []), 2147483649, 2147483649)]) (h1 : 2147483668 ≤ rx_b (rx_U X 1 [])) (h2 : rx_b (rx_U X 1 []) ≤ 2147483687) : rx_MW p l e s m args below meth c X D rx_yV rx_xV (.int (nI 0)) 30 rx_LV20 [] rx_wV20 0 0 := by
  by_cases q : rx_b (rx_U X 1 []) < 2147483669
  · exact rx_mXF rx_oV Cm (rx_fok_d (by omega) (by omega) rx_fok_n) hq rfl rx_eV20
  · exact rx_mSF rx_oV Cm (rx_fok_d (by omega) (by omega) rx_fok_n) rx_tV20 (rx_mSF rx_oV Cm rx_fok_n rx_rV20 (rx_kV21 Cm hq (by omega) (by omega)))
theorem rx_kV19 (Cm : rx_mC p s m args c meth X D rx_yV rx_xV.2.1) (hq : rx_fok X [((2, []), 2147483648, 2147483648)] ∨ rx_fok X [((2, []), 2147483649, 2147483649)]) (h1 : 2147483667 ≤ rx_b (rx_U X 1 [])) (h2 : rx_b (rx_U X 1 []) ≤ 2147483687) : rx_MW p l e s m args below meth c X D rx_yV rx_xV (.int (nI 0)) 30 rx_LV19 [] rx_wV19 0 0 := by
  by_cases q : rx_b (rx_U X 1 []) < 2147483668
  · exact rx_mXF rx_oV Cm (rx_fok_d (by omega) (by omega) rx_fok_n) hq rfl rx_eV19
  · exact rx_mSF rx_oV Cm (rx_fok_d (by omega) (by omega) rx_fok_n) rx_tV19 (rx_mSF rx_oV Cm rx_fok_n rx_rV19 (rx_kV20 Cm hq (by omega) (by omega)))
theorem rx_kV18 (Cm : rx_mC p s m args c meth X D rx_yV rx_xV.2.1) (hq : rx_fok X [((2, []), 2147483648, 2147483648)] ∨ rx_fok X [((2, []), 2147483649, 2147483649)]) (h1 : 2147483666 ≤ rx_b (rx_U X 1 [])) (h2 : rx_b (rx_U X 1 []) ≤ 2147483687) : rx_MW p l e s m args below meth c X D rx_yV rx_xV (.int (nI 0)) 30 rx_LV18 [] rx_wV18 0 0 := by
  by_cases q : rx_b (rx_U X 1 []) < 2147483667
  · exact rx_mXF rx_oV Cm (rx_fok_d (by omega) (by omega) rx_fok_n) hq rfl rx_eV18
  · exact rx_mSF rx_oV Cm (rx_fok_d (by omega) (by omega) rx_fok_n) rx_tV18 (rx_mSF rx_oV Cm rx_fok_n rx_rV18 (rx_kV19 Cm hq (by omega) (by omega)))
theorem rx_kV17 (Cm : rx_mC p s m args c meth X D rx_yV rx_xV.2.1) (hq : rx_fok X [((2, []), 2147483648, 2147483648)] ∨ rx_fok X [((2, []), 2147483649, 2147483649)]) (h1 : 2147483665 ≤ rx_b (rx_U X 1 [])) (h2 : rx_b (rx_U X 1 []) ≤ 2147483687) : rx_MW p l e s m args below meth c X D rx_yV rx_xV (.int (nI 0)) 30 rx_LV17 [] rx_wV17 0 0 := by
  by_cases q : rx_b (rx_U X 1 []) < 2147483666
  · exact rx_mXF rx_oV Cm (rx_fok_d (by omega) (by omega) rx_fok_n) hq rfl rx_eV17
  · exact rx_mSF rx_oV Cm (rx_fok_d (by omega) (by omega) rx_fok_n) rx_tV17 (rx_mSF rx_oV Cm rx_fok_n rx_rV17 (rx_kV18 Cm hq (by omega) (by omega)))
theorem rx_kV16 (Cm : rx_mC p s m args c meth X D rx_yV rx_xV.2.1) (hq : rx_fok X [((2, []), 2147483648, 2147483648)] ∨ rx_fok X [((2, []), 2147483649, 2147483649)]) (h1 : 2147483664 ≤ rx_b (rx_U X 1 [])) (h2 : rx_b (rx_U X 1 []) ≤ 2147483687) : rx_MW p l e s m args below meth c X D rx_yV rx_xV (.int (nI 0)) 30 rx_LV16 [] rx_wV16 0 0 := by
  by_cases q : rx_b (rx_U X 1 []) < 2147483665
  · exact rx_mXF rx_oV Cm (rx_fok_d (by omega) (by omega) rx_fok_n) hq rfl rx_eV16
  · exact rx_mSF rx_oV Cm (rx_fok_d (by omega) (by omega) rx_fok_n) rx_tV16 (rx_mSF rx_oV Cm rx_fok_n rx_rV16 (rx_kV17 Cm hq (by omega) (by omega)))
theorem rx_kV15 (Cm : rx_mC p s m args c meth X D rx_yV rx_xV.2.1) (hq : rx_fok X [((2, []), 2147483648, 2147483648)] ∨ rx_fok X [((2, []), 2147483649, 2147483649)]) (h1 : 2147483663 ≤ rx_b (rx_U X 1 [])) (h2 : rx_b (rx_U X 1 []) ≤ 2147483687) : rx_MW p l e s m args below meth c X D rx_yV rx_xV (.int (nI 0)) 30 rx_LV15 [] rx_wV15 0 0 := by
  by_cases q : rx_b (rx_U X 1 []) < 2147483664
  · exact rx_mXF rx_oV Cm (rx_fok_d (by omega) (by omega) rx_fok_n) hq rfl rx_eV15
  · exact rx_mSF rx_oV Cm (rx_fok_d (by omega) (by omega) rx_fok_n) rx_tV15 (rx_mSF rx_oV Cm rx_fok_n rx_rV15 (rx_kV16 Cm hq (by omega) (by omega)))
theorem rx_kV14 (Cm : rx_mC p s m args c meth X D rx_yV rx_xV.2.1) (hq : rx_fok X [((2, []), 2147483648, 2147483648)] ∨ rx_fok X [((2, []), 2147483649, 2147483649)]) (h1 : 2147483662 ≤ rx_b (rx_U X 1 [])) (h2 : rx_b (rx_U X 1 []) ≤ 2147483687) : rx_MW p l e s m args below meth c X D rx_yV rx_xV (.int (nI 0)) 30 rx_LV14 [] rx_wV14 0 0 := by
  by_cases q : rx_b (rx_U X 1 []) < 2147483663
  · exact rx_mXF rx_oV Cm (rx_fok_d (by omega) (by omega) rx_fok_n) hq rfl rx_eV14
  · exact rx_mSF rx_oV Cm (rx_fok_d (by omega) (by omega) rx_fok_n) rx_tV14 (rx_mSF rx_oV Cm rx_fok_n rx_rV14 (rx_kV15 Cm hq (by omega) (by omega)))
theorem rx_kV13 (Cm : rx_mC p s m args c meth X D rx_yV rx_xV.2.1) (hq : rx_fok X [((2, []), 2147483648, 2147483648)] ∨ rx_fok X [((2, []), 2147483649, 2147483649)]) (h1 : 2147483661 ≤ rx_b (rx_U X 1 [])) (h2 : rx_b (rx_U X 1 []) ≤ 2147483687) : rx_MW p l e s m args below meth c X D rx_yV rx_xV (.int (nI 0)) 30 rx_LV13 [] rx_wV13 0 0 := by
  by_cases q : rx_b (rx_U X 1 []) < 2147483662
  · exact rx_mXF rx_oV Cm (rx_fok_d (by omega) (by omega) rx_fok_n) hq rfl rx_eV13
  · exact rx_mSF rx_oV Cm (rx_fok_d (by omega) (by omega) rx_fok_n) rx_tV13 (rx_mSF rx_oV Cm rx_fok_n rx_rV13 (rx_kV14 Cm hq (by omega) (by omega)))
theorem rx_kV12 (Cm : rx_mC p s m args c meth X D rx_yV rx_xV.2.1) (hq : rx_fok X [((2, []), 2147483648, 2147483648)] ∨ rx_fok X [((2, []), 2147483649, 2147483649)]) (h1 : 2147483660 ≤ rx_b (rx_U X 1 [])) (h2 : rx_b (rx_U X 1 []) ≤ 2147483687) : rx_MW p l e s m args below meth c X D rx_yV rx_xV (.int (nI 0)) 30 rx_LV12 [] rx_wV12 0 0 := by
  by_cases q : rx_b (rx_U X 1 []) < 2147483661
  · exact rx_mXF rx_oV Cm (rx_fok_d (by omega) (by omega) rx_fok_n) hq rfl rx_eV12
  · exact rx_mSF rx_oV Cm (rx_fok_d (by omega) (by omega) rx_fok_n) rx_tV12 (rx_mSF rx_oV Cm rx_fok_n rx_rV12 (rx_kV13 Cm hq (by omega) (by omega)))
theorem rx_kV11 (Cm : rx_mC p s m args c meth X D rx_yV rx_xV.2.1) (hq : rx_fok X [((2, []), 2147483648, 2147483648)] ∨ rx_fok X [((2, []), 2147483649, 2147483649)]) (h1 : 2147483659 ≤ rx_b (rx_U X 1 [])) (h2 : rx_b (rx_U X 1 []) ≤ 2147483687) : rx_MW p l e s m args below meth c X D rx_yV rx_xV (.int (nI 0)) 30 rx_LV11 [] rx_wV11 0 0 := by
  by_cases q : rx_b (rx_U X 1 []) < 2147483660
  · exact rx_mXF rx_oV Cm (rx_fok_d (by omega) (by omega) rx_fok_n) hq rfl rx_eV11
  · exact rx_mSF rx_oV Cm (rx_fok_d (by omega) (by omega) rx_fok_n) rx_tV11 (rx_mSF rx_oV Cm rx_fok_n rx_rV11 (rx_kV12 Cm hq (by omega) (by omega)))
theorem rx_kV10 (Cm : rx_mC p s m args c meth X D rx_yV rx_xV.2.1) (hq : rx_fok X [((2, []), 2147483648, 2147483648)] ∨ rx_fok X [((2, []), 2147483649, 2147483649)]) (h1 : 2147483658 ≤ rx_b (rx_U X 1 [])) (h2 : rx_b (rx_U X 1 []) ≤ 2147483687) : rx_MW p l e s m args below meth c X D rx_yV rx_xV (.int (nI 0)) 30 rx_LV10 [] rx_wV10 0 0 := by
  by_cases q : rx_b (rx_U X 1 []) < 2147483659
  · exact rx_mXF rx_oV Cm (rx_fok_d (by omega) (by omega) rx_fok_n) hq rfl rx_eV10
  · exact rx_mSF rx_oV Cm (rx_fok_d (by omega) (by omega) rx_fok_n) rx_tV10 (rx_mSF rx_oV Cm rx_fok_n rx_rV10 (rx_kV11 Cm hq (by omega) (by omega)))
theorem rx_kV9 (Cm : rx_mC p s m args c meth X D rx_yV rx_xV.2.1) (hq : rx_fok X [((2, []), 2147483648, 2147483648)] ∨ rx_fok X [((2, []), 2147483649, 2147483649)]) (h1 : 2147483657 ≤ rx_b (rx_U X 1 [])) (h2 : rx_b (rx_U X 1 []) ≤ 2147483687) : rx_MW p l e s m args below meth c X D rx_yV rx_xV (.int (nI 0)) 30 rx_LV9 [] rx_wV9 0 0 := by
  by_cases q : rx_b (rx_U X 1 []) < 2147483658
  · exact rx_mXF rx_oV Cm (rx_fok_d (by omega) (by omega) rx_fok_n) hq rfl rx_eV9
  · exact rx_mSF rx_oV Cm (rx_fok_d (by omega) (by omega) rx_fok_n) rx_tV9 (rx_mSF rx_oV Cm rx_fok_n rx_rV9 (rx_kV10 Cm hq (by omega) (by omega)))
theorem rx_kV8 (Cm : rx_mC p s m args c meth X D rx_yV rx_xV.2.1) (hq : rx_fok X [((2, []), 2147483648, 2147483648)] ∨ rx_fok X [((2, []), 2147483649, 2147483649)]) (h1 : 2147483656 ≤ rx_b (rx_U X 1 [])) (h2 : rx_b (rx_U X 1 []) ≤ 2147483687) : rx_MW p l e s m args below meth c X D rx_yV rx_xV (.int (nI 0)) 30 rx_LV8 [] rx_wV8 0 0 := by
  by_cases q : rx_b (rx_U X 1 []) < 2147483657
  · exact rx_mXF rx_oV Cm (rx_fok_d (by omega) (by omega) rx_fok_n) hq rfl rx_eV8
  · exact rx_mSF rx_oV Cm (rx_fok_d (by omega) (by omega) rx_fok_n) rx_tV8 (rx_mSF rx_oV Cm rx_fok_n rx_rV8 (rx_kV9 Cm hq (by omega) (by omega)))
theorem rx_kV7 (Cm : rx_mC p s m args c meth X D rx_yV rx_xV.2.1) (hq : rx_fok X [((2, []), 2147483648, 2147483648)] ∨ rx_fok X [((2, []), 2147483649, 2147483649)]) (h1 : 2147483655 ≤ rx_b (rx_U X 1 [])) (h2 : rx_b (rx_U X 1 []) ≤ 2147483687) : rx_MW p l e s m args below meth c X D rx_yV rx_xV (.int (nI 0)) 30 rx_LV7 [] rx_wV7 0 0 := by
  by_cases q : rx_b (rx_U X 1 []) < 2147483656
  · exact rx_mXF rx_oV Cm (rx_fok_d (by omega) (by omega) rx_fok_n) hq rfl rx_eV7
  · exact rx_mSF rx_oV Cm (rx_fok_d (by omega) (by omega) rx_fok_n) rx_tV7 (rx_mSF rx_oV Cm rx_fok_n rx_rV7 (rx_kV8 Cm hq (by omega) (by omega)))
theorem rx_kV6 (Cm : rx_mC p s m args c meth X D rx_yV rx_xV.2.1) (hq : rx_fok X [((2, []), 2147483648, 2147483648)] ∨ rx_fok X [((2, []), 2147483649, 2147483649)]) (h1 : 2147483654 ≤ rx_b (rx_U X 1 [])) (h2 : rx_b (rx_U X 1 []) ≤ 2147483687) : rx_MW p l e s m args below meth c X D rx_yV rx_xV (.int (nI 0)) 30 rx_LV6 [] rx_wV6 0 0 := by
  by_cases q : rx_b (rx_U X 1 []) < 2147483655
  · exact rx_mXF rx_oV Cm (rx_fok_d (by omega) (by omega) rx_fok_n) hq rfl rx_eV6
  · exact rx_mSF rx_oV Cm (rx_fok_d (by omega) (by omega) rx_fok_n) rx_tV6 (rx_mSF rx_oV Cm rx_fok_n rx_rV6 (rx_kV7 Cm hq (by omega) (by omega)))
theorem rx_kV5 (Cm : rx_mC p s m args c meth X D rx_yV rx_xV.2.1) (hq : rx_fok X [((2, []), 2147483648, 2147483648)] ∨ rx_fok X [((2, []), 2147483649, 2147483649)]) (h1 : 2147483653 ≤ rx_b (rx_U X 1 [])) (h2 : rx_b (rx_U X 1 []) ≤ 2147483687) : rx_MW p l e s m args below meth c X D rx_yV rx_xV (.int (nI 0)) 30 rx_LV5 [] rx_wV5 0 0 := by
  by_cases q : rx_b (rx_U X 1 []) < 2147483654
  · exact rx_mXF rx_oV Cm (rx_fok_d (by omega) (by omega) rx_fok_n) hq rfl rx_eV5
  · exact rx_mSF rx_oV Cm (rx_fok_d (by omega) (by omega) rx_fok_n) rx_tV5 (rx_mSF rx_oV Cm rx_fok_n rx_rV5 (rx_kV6 Cm hq (by omega) (by omega)))
theorem rx_kV4 (Cm : rx_mC p s m args c meth X D rx_yV rx_xV.2.1) (hq : rx_fok X [((2, []), 2147483648, 2147483648)] ∨ rx_fok X [((2, []), 2147483649, 2147483649)]) (h1 : 2147483652 ≤ rx_b (rx_U X 1 [])) (h2 : rx_b (rx_U X 1 []) ≤ 2147483687) : rx_MW p l e s m args below meth c X D rx_yV rx_xV (.int (nI 0)) 30 rx_LV4 [] rx_wV4 0 0 := by
  by_cases q : rx_b (rx_U X 1 []) < 2147483653
  · exact rx_mXF rx_oV Cm (rx_fok_d (by omega) (by omega) rx_fok_n) hq rfl rx_eV4
  · exact rx_mSF rx_oV Cm (rx_fok_d (by omega) (by omega) rx_fok_n) rx_tV4 (rx_mSF rx_oV Cm rx_fok_n rx_rV4 (rx_kV5 Cm hq (by omega) (by omega)))
theorem rx_kV3 (Cm : rx_mC p s m args c meth X D rx_yV rx_xV.2.1) (hq : rx_fok X [((2, []), 2147483648, 2147483648)] ∨ rx_fok X [((2, []), 2147483649, 2147483649)]) (h1 : 2147483651 ≤ rx_b (rx_U X 1 [])) (h2 : rx_b (rx_U X 1 []) ≤ 2147483687) : rx_MW p l e s m args below meth c X D rx_yV rx_xV (.int (nI 0)) 30 rx_LV3 [] rx_wV3 0 0 := by
  by_cases q : rx_b (rx_U X 1 []) < 2147483652
  · exact rx_mXF rx_oV Cm (rx_fok_d (by omega) (by omega) rx_fok_n) hq rfl rx_eV3
  · exact rx_mSF rx_oV Cm (rx_fok_d (by omega) (by omega) rx_fok_n) rx_tV3 (rx_mSF rx_oV Cm rx_fok_n rx_rV3 (rx_kV4 Cm hq (by omega) (by omega)))
theorem rx_kV2 (Cm : rx_mC p s m args c meth X D rx_yV rx_xV.2.1) (hq : rx_fok X [((2, []), 2147483648, 2147483648)] ∨ rx_fok X [((2, []), 2147483649, 2147483649)]) (h1 : 2147483650 ≤ rx_b (rx_U X 1 [])) (h2 : rx_b (rx_U X 1 []) ≤ 2147483687) : rx_MW p l e s m args below meth c X D rx_yV rx_xV (.int (nI 0)) 30 rx_LV2 [] rx_wV2 0 0 := by
  by_cases q : rx_b (rx_U X 1 []) < 2147483651
  · exact rx_mXF rx_oV Cm (rx_fok_d (by omega) (by omega) rx_fok_n) hq rfl rx_eV2
  · exact rx_mSF rx_oV Cm (rx_fok_d (by omega) (by omega) rx_fok_n) rx_tV2 (rx_mSF rx_oV Cm rx_fok_n rx_rV2 (rx_kV3 Cm hq (by omega) (by omega)))
theorem rx_kV1 (Cm : rx_mC p s m args c meth X D rx_yV rx_xV.2.1) (hq : rx_fok X [((2, []), 2147483648, 2147483648)] ∨ rx_fok X [((2, []), 2147483649, 2147483649)]) (h1 : 2147483649 ≤ rx_b (rx_U X 1 [])) (h2 : rx_b (rx_U X 1 []) ≤ 2147483687) : rx_MW p l e s m args below meth c X D rx_yV rx_xV (.int (nI 0)) 30 rx_LV1 [] rx_wV1 0 0 := by
  by_cases q : rx_b (rx_U X 1 []) < 2147483650
  · exact rx_mXF rx_oV Cm (rx_fok_d (by omega) (by omega) rx_fok_n) hq rfl rx_eV1
  · exact rx_mSF rx_oV Cm (rx_fok_d (by omega) (by omega) rx_fok_n) rx_tV1 (rx_mSF rx_oV Cm rx_fok_n rx_rV1 (rx_kV2 Cm hq (by omega) (by omega)))
theorem rx_kV0 (Cm : rx_mC p s m args c meth X D rx_yV rx_xV.2.1) (hq : rx_fok X [((2, []), 2147483648, 2147483648)] ∨ rx_fok X [((2, []), 2147483649, 2147483649)]) (h1 : 2147483648 ≤ rx_b (rx_U X 1 [])) (h2 : rx_b (rx_U X 1 []) ≤ 2147483687) : rx_MW p l e s m args below meth c X D rx_yV rx_xV (.int (nI 0)) 30 rx_LV0 [] rx_wV0 0 0 := by
  by_cases q : rx_b (rx_U X 1 []) < 2147483649
  · exact rx_mXF rx_oV Cm (rx_fok_d (by omega) (by omega) rx_fok_n) hq rfl rx_eV0
  · exact rx_mSF rx_oV Cm (rx_fok_d (by omega) (by omega) rx_fok_n) rx_tV0 (rx_mSF rx_oV Cm rx_fok_n rx_rV0 (rx_kV1 Cm hq (by omega) (by omega)))
end RXV
set_option maxRecDepth 1000000 in
theorem rx_zV : rx_isE (rx_loop (rx_G1 [] 7) rx_mL 4 600000 7302250 (rx_cap rx_tb) (rx_ex (rx_G1 [] 7) rx_tb 100 0) 99999999 100 (rx_find rx_mL (675 + 3)) rx_L0 [.inl (.inl 0), .inl (.inl 0)] [] 221 26609) = true := by decide +kernel
section RXcV
variable {p : Program} {l : Launch} {e : Env} {s : State} {m : MethodId} {below : List Frame} {meth : Method} {c : Code} {b : Nat} {xs : Nat → Int32} {X : rx_X} {D : va_G}
theorem rx_oneV (C0 : rx_lawC p s m meth c b 6 xs X D) {k q : Nat} {F : rx_F} (hF : rx_fok X F) (hk : 0 ≤ k ∧ k ≤ 39) (hn : rx_b (rx_U X 1 []) = k + 2147483648) (hq : q ≤ 1) (hm : rx_b (rx_U X 2 []) = q + 2147483648) (h : rx_isM (rx_lawRF F 7 675 (rx_find rx_mL 18) rx_L0 [] rx_w0 221 26609) 675 rx_L0 [.inl (.inl q), .inl (.inl k), .inr (.inr (.inl (some 170))), .inl (.inl 0)] 221 26609 = true) (hent : rx_is (rx_mRF rx_xV [] 30 0 (rx_args [.inr (.inr (.inl (some 0))), .inl (.inl k), .inl (.inl q)] 0) [] rx_wm) 30 (rx_KV k q) [] rx_wV0 0 0 = true) : rx_LW p l e s m below meth c b X D 18 rx_L0 [] rx_w0 221 26609 := by
  refine rx_hv C0 (Y := rx_yV) (x := rx_xV) (as' := [.inl (.inl k), .inl (.inl q)]) (idx := 86) (n := 2) rx_oV rfl rfl hF (by rw [← rx_lawRF_eq]; exact h) (by decide +kernel) (by decide) (by decide) (by decide) ⟨_, _, rfl⟩ (rx_wd_ok (p := 275) (by decide +kernel)) (rx_wd_ok (p := 2190) (by decide +kernel)) (rx_wd_ok (p := 2191) (by decide +kernel)) (rx_wd_ok (p := 2189) (by decide +kernel)) (by decide +kernel) rfl (by show (3 : Nat) ≤ 4; decide) (fun p e s m args below meth c Cm => ?_) rx_zV
  have hn' : rx_b (rx_U (rx_Xu X 170) 1 []) = k + 2147483648 := by rw [rx_U_up]; exact hn
  have hm' : rx_b (rx_U (rx_Xu X 170) 2 []) = q + 2147483648 := by rw [rx_U_up]; exact hm
  refine rx_mSF rx_oV Cm rx_fok_n hent (rx_mL' (L' := rx_LV0) ?_ (rx_kV0 Cm ?_ (by omega) (by omega)))
  · unfold rx_LV0 rx_KV rx_Lm
    simp only [List.map_cons, List.map_nil, rx_nK (by omega) hn', rx_nK (by omega) hm']
  · rcases (show q = 0 ∨ q = 1 by omega) with z | z
    · exact Or.inl (rx_fok_d (by show _ ≤ rx_b (rx_U (rx_Xu X 170) 2 []); omega) (by show rx_b (rx_U (rx_Xu X 170) 2 []) ≤ _; omega) rx_fok_n)
    · exact Or.inr (rx_fok_d (by show _ ≤ rx_b (rx_U (rx_Xu X 170) 2 []); omega) (by show rx_b (rx_U (rx_Xu X 170) 2 []) ≤ _; omega) rx_fok_n)
set_option maxRecDepth 1000000 in
theorem rx_r16_0 : rx_isE (rx_lawRF [((0, [(0, 63)]), 2147483664, 2147483664), ((1, []), 0, 2147483647)] 7 99999999 (rx_find rx_mL 18) rx_L0 [] rx_w0 221 26609) = true := by decide +kernel
set_option maxRecDepth 1000000 in
theorem rx_r16_1 : rx_isE (rx_lawRF [((0, [(0, 63)]), 2147483664, 2147483664), ((1, []), 2147483648, 2147483648), ((2, []), 0, 2147483647)] 7 99999999 (rx_find rx_mL 18) rx_L0 [] rx_w0 221 26609) = true := by decide +kernel
set_option maxRecDepth 1000000 in
theorem rx_r16_2 : rx_isE (rx_lawRF [((0, [(0, 63)]), 2147483664, 2147483664), ((1, []), 2147483649, 2147483649), ((2, []), 0, 2147483647)] 7 99999999 (rx_find rx_mL 18) rx_L0 [] rx_w0 221 26609) = true := by decide +kernel
set_option maxRecDepth 1000000 in
theorem rx_r16_3 : rx_isE (rx_lawRF [((0, [(0, 63)]), 2147483664, 2147483664), ((1, []), 2147483650, 2147483650), ((2, []), 0, 2147483647)] 7 99999999 (rx_find rx_mL 18) rx_L0 [] rx_w0 221 26609) = true := by decide +kernel
set_option maxRecDepth 1000000 in
theorem rx_r16_4 : rx_isE (rx_lawRF [((0, [(0, 63)]), 2147483664, 2147483664), ((1, []), 2147483651, 2147483651), ((2, []), 0, 2147483647)] 7 99999999 (rx_find rx_mL 18) rx_L0 [] rx_w0 221 26609) = true := by decide +kernel
set_option maxRecDepth 1000000 in
theorem rx_r16_5 : rx_isE (rx_lawRF [((0, [(0, 63)]), 2147483664, 2147483664), ((1, []), 2147483652, 2147483652), ((2, []), 0, 2147483647)] 7 99999999 (rx_find rx_mL 18) rx_L0 [] rx_w0 221 26609) = true := by decide +kernel
set_option maxRecDepth 1000000 in
theorem rx_r16_6 : rx_isE (rx_lawRF [((0, [(0, 63)]), 2147483664, 2147483664), ((1, []), 2147483653, 2147483653), ((2, []), 0, 2147483647)] 7 99999999 (rx_find rx_mL 18) rx_L0 [] rx_w0 221 26609) = true := by decide +kernel
set_option maxRecDepth 1000000 in
theorem rx_r16_7 : rx_isE (rx_lawRF [((0, [(0, 63)]), 2147483664, 2147483664), ((1, []), 2147483654, 2147483654), ((2, []), 0, 2147483647)] 7 99999999 (rx_find rx_mL 18) rx_L0 [] rx_w0 221 26609) = true := by decide +kernel
set_option maxRecDepth 1000000 in
theorem rx_r16_8 : rx_isE (rx_lawRF [((0, [(0, 63)]), 2147483664, 2147483664), ((1, []), 2147483655, 2147483655), ((2, []), 0, 2147483647)] 7 99999999 (rx_find rx_mL 18) rx_L0 [] rx_w0 221 26609) = true := by decide +kernel
set_option maxRecDepth 1000000 in
theorem rx_r16_9 : rx_isE (rx_lawRF [((0, [(0, 63)]), 2147483664, 2147483664), ((1, []), 2147483656, 2147483656), ((2, []), 0, 2147483647)] 7 99999999 (rx_find rx_mL 18) rx_L0 [] rx_w0 221 26609) = true := by decide +kernel
set_option maxRecDepth 1000000 in
theorem rx_r16_10 : rx_isE (rx_lawRF [((0, [(0, 63)]), 2147483664, 2147483664), ((1, []), 2147483657, 2147483657), ((2, []), 0, 2147483647)] 7 99999999 (rx_find rx_mL 18) rx_L0 [] rx_w0 221 26609) = true := by decide +kernel
set_option maxRecDepth 1000000 in
theorem rx_r16_11 : rx_isE (rx_lawRF [((0, [(0, 63)]), 2147483664, 2147483664), ((1, []), 2147483658, 2147483658), ((2, []), 0, 2147483647)] 7 99999999 (rx_find rx_mL 18) rx_L0 [] rx_w0 221 26609) = true := by decide +kernel
set_option maxRecDepth 1000000 in
theorem rx_r16_12 : rx_isE (rx_lawRF [((0, [(0, 63)]), 2147483664, 2147483664), ((1, []), 2147483659, 2147483659), ((2, []), 0, 2147483647)] 7 99999999 (rx_find rx_mL 18) rx_L0 [] rx_w0 221 26609) = true := by decide +kernel
set_option maxRecDepth 1000000 in
theorem rx_r16_13 : rx_isE (rx_lawRF [((0, [(0, 63)]), 2147483664, 2147483664), ((1, []), 2147483660, 2147483660), ((2, []), 0, 2147483647)] 7 99999999 (rx_find rx_mL 18) rx_L0 [] rx_w0 221 26609) = true := by decide +kernel
set_option maxRecDepth 1000000 in
theorem rx_r16_14 : rx_isE (rx_lawRF [((0, [(0, 63)]), 2147483664, 2147483664), ((1, []), 2147483661, 2147483661), ((2, []), 0, 2147483647)] 7 99999999 (rx_find rx_mL 18) rx_L0 [] rx_w0 221 26609) = true := by decide +kernel
set_option maxRecDepth 1000000 in
theorem rx_r16_15 : rx_isE (rx_lawRF [((0, [(0, 63)]), 2147483664, 2147483664), ((1, []), 2147483662, 2147483662), ((2, []), 0, 2147483647)] 7 99999999 (rx_find rx_mL 18) rx_L0 [] rx_w0 221 26609) = true := by decide +kernel
set_option maxRecDepth 1000000 in
theorem rx_r16_16 : rx_isE (rx_lawRF [((0, [(0, 63)]), 2147483664, 2147483664), ((1, []), 2147483663, 2147483663), ((2, []), 0, 2147483647)] 7 99999999 (rx_find rx_mL 18) rx_L0 [] rx_w0 221 26609) = true := by decide +kernel
set_option maxRecDepth 1000000 in
theorem rx_r16_17 : rx_isE (rx_lawRF [((0, [(0, 63)]), 2147483664, 2147483664), ((1, []), 2147483664, 2147483664), ((2, []), 0, 2147483647)] 7 99999999 (rx_find rx_mL 18) rx_L0 [] rx_w0 221 26609) = true := by decide +kernel
set_option maxRecDepth 1000000 in
theorem rx_r16_18 : rx_isE (rx_lawRF [((0, [(0, 63)]), 2147483664, 2147483664), ((1, []), 2147483665, 2147483665), ((2, []), 0, 2147483647)] 7 99999999 (rx_find rx_mL 18) rx_L0 [] rx_w0 221 26609) = true := by decide +kernel
set_option maxRecDepth 1000000 in
theorem rx_r16_19 : rx_isE (rx_lawRF [((0, [(0, 63)]), 2147483664, 2147483664), ((1, []), 2147483666, 2147483666), ((2, []), 0, 2147483647)] 7 99999999 (rx_find rx_mL 18) rx_L0 [] rx_w0 221 26609) = true := by decide +kernel
set_option maxRecDepth 1000000 in
theorem rx_r16_20 : rx_isE (rx_lawRF [((0, [(0, 63)]), 2147483664, 2147483664), ((1, []), 2147483667, 2147483667), ((2, []), 0, 2147483647)] 7 99999999 (rx_find rx_mL 18) rx_L0 [] rx_w0 221 26609) = true := by decide +kernel
set_option maxRecDepth 1000000 in
theorem rx_r16_21 : rx_isE (rx_lawRF [((0, [(0, 63)]), 2147483664, 2147483664), ((1, []), 2147483668, 2147483668), ((2, []), 0, 2147483647)] 7 99999999 (rx_find rx_mL 18) rx_L0 [] rx_w0 221 26609) = true := by decide +kernel
set_option maxRecDepth 1000000 in
theorem rx_r16_22 : rx_isE (rx_lawRF [((0, [(0, 63)]), 2147483664, 2147483664), ((1, []), 2147483669, 2147483669), ((2, []), 0, 2147483647)] 7 99999999 (rx_find rx_mL 18) rx_L0 [] rx_w0 221 26609) = true := by decide +kernel
set_option maxRecDepth 1000000 in
theorem rx_r16_23 : rx_isE (rx_lawRF [((0, [(0, 63)]), 2147483664, 2147483664), ((1, []), 2147483670, 2147483670), ((2, []), 0, 2147483647)] 7 99999999 (rx_find rx_mL 18) rx_L0 [] rx_w0 221 26609) = true := by decide +kernel
set_option maxRecDepth 1000000 in
theorem rx_r16_24 : rx_isE (rx_lawRF [((0, [(0, 63)]), 2147483664, 2147483664), ((1, []), 2147483671, 2147483671), ((2, []), 0, 2147483647)] 7 99999999 (rx_find rx_mL 18) rx_L0 [] rx_w0 221 26609) = true := by decide +kernel
set_option maxRecDepth 1000000 in
theorem rx_r16_25 : rx_isE (rx_lawRF [((0, [(0, 63)]), 2147483664, 2147483664), ((1, []), 2147483672, 2147483672), ((2, []), 0, 2147483647)] 7 99999999 (rx_find rx_mL 18) rx_L0 [] rx_w0 221 26609) = true := by decide +kernel
set_option maxRecDepth 1000000 in
theorem rx_r16_26 : rx_isE (rx_lawRF [((0, [(0, 63)]), 2147483664, 2147483664), ((1, []), 2147483673, 2147483673), ((2, []), 0, 2147483647)] 7 99999999 (rx_find rx_mL 18) rx_L0 [] rx_w0 221 26609) = true := by decide +kernel
set_option maxRecDepth 1000000 in
theorem rx_r16_27 : rx_isE (rx_lawRF [((0, [(0, 63)]), 2147483664, 2147483664), ((1, []), 2147483674, 2147483674), ((2, []), 0, 2147483647)] 7 99999999 (rx_find rx_mL 18) rx_L0 [] rx_w0 221 26609) = true := by decide +kernel
set_option maxRecDepth 1000000 in
theorem rx_r16_28 : rx_isE (rx_lawRF [((0, [(0, 63)]), 2147483664, 2147483664), ((1, []), 2147483675, 2147483675), ((2, []), 0, 2147483647)] 7 99999999 (rx_find rx_mL 18) rx_L0 [] rx_w0 221 26609) = true := by decide +kernel
set_option maxRecDepth 1000000 in
theorem rx_r16_29 : rx_isE (rx_lawRF [((0, [(0, 63)]), 2147483664, 2147483664), ((1, []), 2147483676, 2147483676), ((2, []), 0, 2147483647)] 7 99999999 (rx_find rx_mL 18) rx_L0 [] rx_w0 221 26609) = true := by decide +kernel
set_option maxRecDepth 1000000 in
theorem rx_r16_30 : rx_isE (rx_lawRF [((0, [(0, 63)]), 2147483664, 2147483664), ((1, []), 2147483677, 2147483677), ((2, []), 0, 2147483647)] 7 99999999 (rx_find rx_mL 18) rx_L0 [] rx_w0 221 26609) = true := by decide +kernel
set_option maxRecDepth 1000000 in
theorem rx_r16_31 : rx_isE (rx_lawRF [((0, [(0, 63)]), 2147483664, 2147483664), ((1, []), 2147483678, 2147483678), ((2, []), 0, 2147483647)] 7 99999999 (rx_find rx_mL 18) rx_L0 [] rx_w0 221 26609) = true := by decide +kernel
set_option maxRecDepth 1000000 in
theorem rx_r16_32 : rx_isE (rx_lawRF [((0, [(0, 63)]), 2147483664, 2147483664), ((1, []), 2147483679, 2147483679), ((2, []), 0, 2147483647)] 7 99999999 (rx_find rx_mL 18) rx_L0 [] rx_w0 221 26609) = true := by decide +kernel
set_option maxRecDepth 1000000 in
theorem rx_r16_33 : rx_isE (rx_lawRF [((0, [(0, 63)]), 2147483664, 2147483664), ((1, []), 2147483680, 2147483680), ((2, []), 0, 2147483647)] 7 99999999 (rx_find rx_mL 18) rx_L0 [] rx_w0 221 26609) = true := by decide +kernel
set_option maxRecDepth 1000000 in
theorem rx_r16_34 : rx_isE (rx_lawRF [((0, [(0, 63)]), 2147483664, 2147483664), ((1, []), 2147483681, 2147483681), ((2, []), 0, 2147483647)] 7 99999999 (rx_find rx_mL 18) rx_L0 [] rx_w0 221 26609) = true := by decide +kernel
set_option maxRecDepth 1000000 in
theorem rx_r16_35 : rx_isE (rx_lawRF [((0, [(0, 63)]), 2147483664, 2147483664), ((1, []), 2147483682, 2147483682), ((2, []), 0, 2147483647)] 7 99999999 (rx_find rx_mL 18) rx_L0 [] rx_w0 221 26609) = true := by decide +kernel
set_option maxRecDepth 1000000 in
theorem rx_r16_36 : rx_isE (rx_lawRF [((0, [(0, 63)]), 2147483664, 2147483664), ((1, []), 2147483683, 2147483683), ((2, []), 0, 2147483647)] 7 99999999 (rx_find rx_mL 18) rx_L0 [] rx_w0 221 26609) = true := by decide +kernel
set_option maxRecDepth 1000000 in
theorem rx_r16_37 : rx_isE (rx_lawRF [((0, [(0, 63)]), 2147483664, 2147483664), ((1, []), 2147483684, 2147483684), ((2, []), 0, 2147483647)] 7 99999999 (rx_find rx_mL 18) rx_L0 [] rx_w0 221 26609) = true := by decide +kernel
set_option maxRecDepth 1000000 in
theorem rx_r16_38 : rx_isE (rx_lawRF [((0, [(0, 63)]), 2147483664, 2147483664), ((1, []), 2147483685, 2147483685), ((2, []), 0, 2147483647)] 7 99999999 (rx_find rx_mL 18) rx_L0 [] rx_w0 221 26609) = true := by decide +kernel
set_option maxRecDepth 1000000 in
theorem rx_r16_39 : rx_isE (rx_lawRF [((0, [(0, 63)]), 2147483664, 2147483664), ((1, []), 2147483686, 2147483686), ((2, []), 0, 2147483647)] 7 99999999 (rx_find rx_mL 18) rx_L0 [] rx_w0 221 26609) = true := by decide +kernel
set_option maxRecDepth 1000000 in
theorem rx_r16_40 : rx_isE (rx_lawRF [((0, [(0, 63)]), 2147483664, 2147483664), ((1, []), 2147483687, 2147483687), ((2, []), 0, 2147483647)] 7 99999999 (rx_find rx_mL 18) rx_L0 [] rx_w0 221 26609) = true := by decide +kernel
set_option maxRecDepth 1000000 in
theorem rx_r16_41 : rx_isE (rx_lawRF [((0, [(0, 63)]), 2147483664, 2147483664), ((1, []), 2147483648, 2147483648), ((2, []), 2147483650, 4294967295)] 7 99999999 (rx_find rx_mL 18) rx_L0 [] rx_w0 221 26609) = true := by decide +kernel
set_option maxRecDepth 1000000 in
theorem rx_r16_42 : rx_isE (rx_lawRF [((0, [(0, 63)]), 2147483664, 2147483664), ((1, []), 2147483649, 2147483649), ((2, []), 2147483650, 4294967295)] 7 99999999 (rx_find rx_mL 18) rx_L0 [] rx_w0 221 26609) = true := by decide +kernel
set_option maxRecDepth 1000000 in
theorem rx_r16_43 : rx_isE (rx_lawRF [((0, [(0, 63)]), 2147483664, 2147483664), ((1, []), 2147483650, 2147483650), ((2, []), 2147483650, 4294967295)] 7 99999999 (rx_find rx_mL 18) rx_L0 [] rx_w0 221 26609) = true := by decide +kernel
set_option maxRecDepth 1000000 in
theorem rx_r16_44 : rx_isE (rx_lawRF [((0, [(0, 63)]), 2147483664, 2147483664), ((1, []), 2147483651, 2147483651), ((2, []), 2147483650, 4294967295)] 7 99999999 (rx_find rx_mL 18) rx_L0 [] rx_w0 221 26609) = true := by decide +kernel
set_option maxRecDepth 1000000 in
theorem rx_r16_45 : rx_isE (rx_lawRF [((0, [(0, 63)]), 2147483664, 2147483664), ((1, []), 2147483652, 2147483652), ((2, []), 2147483650, 4294967295)] 7 99999999 (rx_find rx_mL 18) rx_L0 [] rx_w0 221 26609) = true := by decide +kernel
set_option maxRecDepth 1000000 in
theorem rx_r16_46 : rx_isE (rx_lawRF [((0, [(0, 63)]), 2147483664, 2147483664), ((1, []), 2147483653, 2147483653), ((2, []), 2147483650, 4294967295)] 7 99999999 (rx_find rx_mL 18) rx_L0 [] rx_w0 221 26609) = true := by decide +kernel
set_option maxRecDepth 1000000 in
theorem rx_r16_47 : rx_isE (rx_lawRF [((0, [(0, 63)]), 2147483664, 2147483664), ((1, []), 2147483654, 2147483654), ((2, []), 2147483650, 4294967295)] 7 99999999 (rx_find rx_mL 18) rx_L0 [] rx_w0 221 26609) = true := by decide +kernel
set_option maxRecDepth 1000000 in
theorem rx_r16_48 : rx_isE (rx_lawRF [((0, [(0, 63)]), 2147483664, 2147483664), ((1, []), 2147483655, 2147483655), ((2, []), 2147483650, 4294967295)] 7 99999999 (rx_find rx_mL 18) rx_L0 [] rx_w0 221 26609) = true := by decide +kernel
set_option maxRecDepth 1000000 in
theorem rx_r16_49 : rx_isE (rx_lawRF [((0, [(0, 63)]), 2147483664, 2147483664), ((1, []), 2147483656, 2147483656), ((2, []), 2147483650, 4294967295)] 7 99999999 (rx_find rx_mL 18) rx_L0 [] rx_w0 221 26609) = true := by decide +kernel
set_option maxRecDepth 1000000 in
theorem rx_r16_50 : rx_isE (rx_lawRF [((0, [(0, 63)]), 2147483664, 2147483664), ((1, []), 2147483657, 2147483657), ((2, []), 2147483650, 4294967295)] 7 99999999 (rx_find rx_mL 18) rx_L0 [] rx_w0 221 26609) = true := by decide +kernel
set_option maxRecDepth 1000000 in
theorem rx_r16_51 : rx_isE (rx_lawRF [((0, [(0, 63)]), 2147483664, 2147483664), ((1, []), 2147483658, 2147483658), ((2, []), 2147483650, 4294967295)] 7 99999999 (rx_find rx_mL 18) rx_L0 [] rx_w0 221 26609) = true := by decide +kernel
set_option maxRecDepth 1000000 in
theorem rx_r16_52 : rx_isE (rx_lawRF [((0, [(0, 63)]), 2147483664, 2147483664), ((1, []), 2147483659, 2147483659), ((2, []), 2147483650, 4294967295)] 7 99999999 (rx_find rx_mL 18) rx_L0 [] rx_w0 221 26609) = true := by decide +kernel
set_option maxRecDepth 1000000 in
theorem rx_r16_53 : rx_isE (rx_lawRF [((0, [(0, 63)]), 2147483664, 2147483664), ((1, []), 2147483660, 2147483660), ((2, []), 2147483650, 4294967295)] 7 99999999 (rx_find rx_mL 18) rx_L0 [] rx_w0 221 26609) = true := by decide +kernel
set_option maxRecDepth 1000000 in
theorem rx_r16_54 : rx_isE (rx_lawRF [((0, [(0, 63)]), 2147483664, 2147483664), ((1, []), 2147483661, 2147483661), ((2, []), 2147483650, 4294967295)] 7 99999999 (rx_find rx_mL 18) rx_L0 [] rx_w0 221 26609) = true := by decide +kernel
set_option maxRecDepth 1000000 in
theorem rx_r16_55 : rx_isE (rx_lawRF [((0, [(0, 63)]), 2147483664, 2147483664), ((1, []), 2147483662, 2147483662), ((2, []), 2147483650, 4294967295)] 7 99999999 (rx_find rx_mL 18) rx_L0 [] rx_w0 221 26609) = true := by decide +kernel
set_option maxRecDepth 1000000 in
theorem rx_r16_56 : rx_isE (rx_lawRF [((0, [(0, 63)]), 2147483664, 2147483664), ((1, []), 2147483663, 2147483663), ((2, []), 2147483650, 4294967295)] 7 99999999 (rx_find rx_mL 18) rx_L0 [] rx_w0 221 26609) = true := by decide +kernel
set_option maxRecDepth 1000000 in
theorem rx_r16_57 : rx_isE (rx_lawRF [((0, [(0, 63)]), 2147483664, 2147483664), ((1, []), 2147483664, 2147483664), ((2, []), 2147483650, 4294967295)] 7 99999999 (rx_find rx_mL 18) rx_L0 [] rx_w0 221 26609) = true := by decide +kernel
set_option maxRecDepth 1000000 in
theorem rx_r16_58 : rx_isE (rx_lawRF [((0, [(0, 63)]), 2147483664, 2147483664), ((1, []), 2147483665, 2147483665), ((2, []), 2147483650, 4294967295)] 7 99999999 (rx_find rx_mL 18) rx_L0 [] rx_w0 221 26609) = true := by decide +kernel
set_option maxRecDepth 1000000 in
theorem rx_r16_59 : rx_isE (rx_lawRF [((0, [(0, 63)]), 2147483664, 2147483664), ((1, []), 2147483666, 2147483666), ((2, []), 2147483650, 4294967295)] 7 99999999 (rx_find rx_mL 18) rx_L0 [] rx_w0 221 26609) = true := by decide +kernel
set_option maxRecDepth 1000000 in
theorem rx_r16_60 : rx_isE (rx_lawRF [((0, [(0, 63)]), 2147483664, 2147483664), ((1, []), 2147483667, 2147483667), ((2, []), 2147483650, 4294967295)] 7 99999999 (rx_find rx_mL 18) rx_L0 [] rx_w0 221 26609) = true := by decide +kernel
set_option maxRecDepth 1000000 in
theorem rx_r16_61 : rx_isE (rx_lawRF [((0, [(0, 63)]), 2147483664, 2147483664), ((1, []), 2147483668, 2147483668), ((2, []), 2147483650, 4294967295)] 7 99999999 (rx_find rx_mL 18) rx_L0 [] rx_w0 221 26609) = true := by decide +kernel
set_option maxRecDepth 1000000 in
theorem rx_r16_62 : rx_isE (rx_lawRF [((0, [(0, 63)]), 2147483664, 2147483664), ((1, []), 2147483669, 2147483669), ((2, []), 2147483650, 4294967295)] 7 99999999 (rx_find rx_mL 18) rx_L0 [] rx_w0 221 26609) = true := by decide +kernel
set_option maxRecDepth 1000000 in
theorem rx_r16_63 : rx_isE (rx_lawRF [((0, [(0, 63)]), 2147483664, 2147483664), ((1, []), 2147483670, 2147483670), ((2, []), 2147483650, 4294967295)] 7 99999999 (rx_find rx_mL 18) rx_L0 [] rx_w0 221 26609) = true := by decide +kernel
set_option maxRecDepth 1000000 in
theorem rx_r16_64 : rx_isE (rx_lawRF [((0, [(0, 63)]), 2147483664, 2147483664), ((1, []), 2147483671, 2147483671), ((2, []), 2147483650, 4294967295)] 7 99999999 (rx_find rx_mL 18) rx_L0 [] rx_w0 221 26609) = true := by decide +kernel
set_option maxRecDepth 1000000 in
theorem rx_r16_65 : rx_isE (rx_lawRF [((0, [(0, 63)]), 2147483664, 2147483664), ((1, []), 2147483672, 2147483672), ((2, []), 2147483650, 4294967295)] 7 99999999 (rx_find rx_mL 18) rx_L0 [] rx_w0 221 26609) = true := by decide +kernel
set_option maxRecDepth 1000000 in
theorem rx_r16_66 : rx_isE (rx_lawRF [((0, [(0, 63)]), 2147483664, 2147483664), ((1, []), 2147483673, 2147483673), ((2, []), 2147483650, 4294967295)] 7 99999999 (rx_find rx_mL 18) rx_L0 [] rx_w0 221 26609) = true := by decide +kernel
set_option maxRecDepth 1000000 in
theorem rx_r16_67 : rx_isE (rx_lawRF [((0, [(0, 63)]), 2147483664, 2147483664), ((1, []), 2147483674, 2147483674), ((2, []), 2147483650, 4294967295)] 7 99999999 (rx_find rx_mL 18) rx_L0 [] rx_w0 221 26609) = true := by decide +kernel
set_option maxRecDepth 1000000 in
theorem rx_r16_68 : rx_isE (rx_lawRF [((0, [(0, 63)]), 2147483664, 2147483664), ((1, []), 2147483675, 2147483675), ((2, []), 2147483650, 4294967295)] 7 99999999 (rx_find rx_mL 18) rx_L0 [] rx_w0 221 26609) = true := by decide +kernel
set_option maxRecDepth 1000000 in
theorem rx_r16_69 : rx_isE (rx_lawRF [((0, [(0, 63)]), 2147483664, 2147483664), ((1, []), 2147483676, 2147483676), ((2, []), 2147483650, 4294967295)] 7 99999999 (rx_find rx_mL 18) rx_L0 [] rx_w0 221 26609) = true := by decide +kernel
set_option maxRecDepth 1000000 in
theorem rx_r16_70 : rx_isE (rx_lawRF [((0, [(0, 63)]), 2147483664, 2147483664), ((1, []), 2147483677, 2147483677), ((2, []), 2147483650, 4294967295)] 7 99999999 (rx_find rx_mL 18) rx_L0 [] rx_w0 221 26609) = true := by decide +kernel
set_option maxRecDepth 1000000 in
theorem rx_r16_71 : rx_isE (rx_lawRF [((0, [(0, 63)]), 2147483664, 2147483664), ((1, []), 2147483678, 2147483678), ((2, []), 2147483650, 4294967295)] 7 99999999 (rx_find rx_mL 18) rx_L0 [] rx_w0 221 26609) = true := by decide +kernel
set_option maxRecDepth 1000000 in
theorem rx_r16_72 : rx_isE (rx_lawRF [((0, [(0, 63)]), 2147483664, 2147483664), ((1, []), 2147483679, 2147483679), ((2, []), 2147483650, 4294967295)] 7 99999999 (rx_find rx_mL 18) rx_L0 [] rx_w0 221 26609) = true := by decide +kernel
set_option maxRecDepth 1000000 in
theorem rx_r16_73 : rx_isE (rx_lawRF [((0, [(0, 63)]), 2147483664, 2147483664), ((1, []), 2147483680, 2147483680), ((2, []), 2147483650, 4294967295)] 7 99999999 (rx_find rx_mL 18) rx_L0 [] rx_w0 221 26609) = true := by decide +kernel
set_option maxRecDepth 1000000 in
theorem rx_r16_74 : rx_isE (rx_lawRF [((0, [(0, 63)]), 2147483664, 2147483664), ((1, []), 2147483681, 2147483681), ((2, []), 2147483650, 4294967295)] 7 99999999 (rx_find rx_mL 18) rx_L0 [] rx_w0 221 26609) = true := by decide +kernel
set_option maxRecDepth 1000000 in
theorem rx_r16_75 : rx_isE (rx_lawRF [((0, [(0, 63)]), 2147483664, 2147483664), ((1, []), 2147483682, 2147483682), ((2, []), 2147483650, 4294967295)] 7 99999999 (rx_find rx_mL 18) rx_L0 [] rx_w0 221 26609) = true := by decide +kernel
set_option maxRecDepth 1000000 in
theorem rx_r16_76 : rx_isE (rx_lawRF [((0, [(0, 63)]), 2147483664, 2147483664), ((1, []), 2147483683, 2147483683), ((2, []), 2147483650, 4294967295)] 7 99999999 (rx_find rx_mL 18) rx_L0 [] rx_w0 221 26609) = true := by decide +kernel
set_option maxRecDepth 1000000 in
theorem rx_r16_77 : rx_isE (rx_lawRF [((0, [(0, 63)]), 2147483664, 2147483664), ((1, []), 2147483684, 2147483684), ((2, []), 2147483650, 4294967295)] 7 99999999 (rx_find rx_mL 18) rx_L0 [] rx_w0 221 26609) = true := by decide +kernel
set_option maxRecDepth 1000000 in
theorem rx_r16_78 : rx_isE (rx_lawRF [((0, [(0, 63)]), 2147483664, 2147483664), ((1, []), 2147483685, 2147483685), ((2, []), 2147483650, 4294967295)] 7 99999999 (rx_find rx_mL 18) rx_L0 [] rx_w0 221 26609) = true := by decide +kernel
set_option maxRecDepth 1000000 in
theorem rx_r16_79 : rx_isE (rx_lawRF [((0, [(0, 63)]), 2147483664, 2147483664), ((1, []), 2147483686, 2147483686), ((2, []), 2147483650, 4294967295)] 7 99999999 (rx_find rx_mL 18) rx_L0 [] rx_w0 221 26609) = true := by decide +kernel
set_option maxRecDepth 1000000 in
theorem rx_r16_80 : rx_isE (rx_lawRF [((0, [(0, 63)]), 2147483664, 2147483664), ((1, []), 2147483687, 2147483687), ((2, []), 2147483650, 4294967295)] 7 99999999 (rx_find rx_mL 18) rx_L0 [] rx_w0 221 26609) = true := by decide +kernel
set_option maxRecDepth 1000000 in
theorem rx_r16_81 : rx_isE (rx_lawRF [((0, [(0, 63)]), 2147483664, 2147483664), ((1, []), 2147483688, 4294967295)] 7 99999999 (rx_find rx_mL 18) rx_L0 [] rx_w0 221 26609) = true := by decide +kernel
theorem rx_case16 (C0 : rx_lawC p s m meth c b 6 xs X D) (h0 : 2147483664 ≤ rx_b (rx_U X 0 [(0, 63)]) ∧ rx_b (rx_U X 0 [(0, 63)]) ≤ 2147483664) : rx_LW p l e s m below meth c b X D 18 rx_L0 [] rx_w0 221 26609 := by
  have l0 := rx_b_lt (rx_U X 1 [])
  have l1 := rx_b_lt (rx_U X 2 [])
  by_cases q0 : rx_b (rx_U X 1 []) < 2147483648
  · exact rx_lawEF C0 (Or.inr rfl) (rx_fok_d h0.1 h0.2 (rx_fok_d (by omega) (by omega) rx_fok_n)) rx_r16_0
  · by_cases q1 : rx_b (rx_U X 1 []) < 2147483688
    · by_cases q2 : rx_b (rx_U X 2 []) < 2147483648
      · by_cases q3 : rx_b (rx_U X 1 []) < 2147483649
        · exact rx_lawEF C0 (Or.inr rfl) (rx_fok_d h0.1 h0.2 (rx_fok_d (by omega) (by omega) (rx_fok_d (by omega) (by omega) rx_fok_n))) rx_r16_1
        · by_cases q4 : rx_b (rx_U X 1 []) < 2147483650
          · exact rx_lawEF C0 (Or.inr rfl) (rx_fok_d h0.1 h0.2 (rx_fok_d (by omega) (by omega) (rx_fok_d (by omega) (by omega) rx_fok_n))) rx_r16_2
          · by_cases q5 : rx_b (rx_U X 1 []) < 2147483651
            · exact rx_lawEF C0 (Or.inr rfl) (rx_fok_d h0.1 h0.2 (rx_fok_d (by omega) (by omega) (rx_fok_d (by omega) (by omega) rx_fok_n))) rx_r16_3
            · by_cases q6 : rx_b (rx_U X 1 []) < 2147483652
              · exact rx_lawEF C0 (Or.inr rfl) (rx_fok_d h0.1 h0.2 (rx_fok_d (by omega) (by omega) (rx_fok_d (by omega) (by omega) rx_fok_n))) rx_r16_4
              · by_cases q7 : rx_b (rx_U X 1 []) < 2147483653
                · exact rx_lawEF C0 (Or.inr rfl) (rx_fok_d h0.1 h0.2 (rx_fok_d (by omega) (by omega) (rx_fok_d (by omega) (by omega) rx_fok_n))) rx_r16_5
                · by_cases q8 : rx_b (rx_U X 1 []) < 2147483654
                  · exact rx_lawEF C0 (Or.inr rfl) (rx_fok_d h0.1 h0.2 (rx_fok_d (by omega) (by omega) (rx_fok_d (by omega) (by omega) rx_fok_n))) rx_r16_6
                  · by_cases q9 : rx_b (rx_U X 1 []) < 2147483655
                    · exact rx_lawEF C0 (Or.inr rfl) (rx_fok_d h0.1 h0.2 (rx_fok_d (by omega) (by omega) (rx_fok_d (by omega) (by omega) rx_fok_n))) rx_r16_7
                    · by_cases q10 : rx_b (rx_U X 1 []) < 2147483656
                      · exact rx_lawEF C0 (Or.inr rfl) (rx_fok_d h0.1 h0.2 (rx_fok_d (by omega) (by omega) (rx_fok_d (by omega) (by omega) rx_fok_n))) rx_r16_8
                      · by_cases q11 : rx_b (rx_U X 1 []) < 2147483657
                        · exact rx_lawEF C0 (Or.inr rfl) (rx_fok_d h0.1 h0.2 (rx_fok_d (by omega) (by omega) (rx_fok_d (by omega) (by omega) rx_fok_n))) rx_r16_9
                        · by_cases q12 : rx_b (rx_U X 1 []) < 2147483658
                          · exact rx_lawEF C0 (Or.inr rfl) (rx_fok_d h0.1 h0.2 (rx_fok_d (by omega) (by omega) (rx_fok_d (by omega) (by omega) rx_fok_n))) rx_r16_10
                          · by_cases q13 : rx_b (rx_U X 1 []) < 2147483659
                            · exact rx_lawEF C0 (Or.inr rfl) (rx_fok_d h0.1 h0.2 (rx_fok_d (by omega) (by omega) (rx_fok_d (by omega) (by omega) rx_fok_n))) rx_r16_11
                            · by_cases q14 : rx_b (rx_U X 1 []) < 2147483660
                              · exact rx_lawEF C0 (Or.inr rfl) (rx_fok_d h0.1 h0.2 (rx_fok_d (by omega) (by omega) (rx_fok_d (by omega) (by omega) rx_fok_n))) rx_r16_12
                              · by_cases q15 : rx_b (rx_U X 1 []) < 2147483661
                                · exact rx_lawEF C0 (Or.inr rfl) (rx_fok_d h0.1 h0.2 (rx_fok_d (by omega) (by omega) (rx_fok_d (by omega) (by omega) rx_fok_n))) rx_r16_13
                                · by_cases q16 : rx_b (rx_U X 1 []) < 2147483662
                                  · exact rx_lawEF C0 (Or.inr rfl) (rx_fok_d h0.1 h0.2 (rx_fok_d (by omega) (by omega) (rx_fok_d (by omega) (by omega) rx_fok_n))) rx_r16_14
                                  · by_cases q17 : rx_b (rx_U X 1 []) < 2147483663
                                    · exact rx_lawEF C0 (Or.inr rfl) (rx_fok_d h0.1 h0.2 (rx_fok_d (by omega) (by omega) (rx_fok_d (by omega) (by omega) rx_fok_n))) rx_r16_15
                                    · by_cases q18 : rx_b (rx_U X 1 []) < 2147483664
                                      · exact rx_lawEF C0 (Or.inr rfl) (rx_fok_d h0.1 h0.2 (rx_fok_d (by omega) (by omega) (rx_fok_d (by omega) (by omega) rx_fok_n))) rx_r16_16
                                      · by_cases q19 : rx_b (rx_U X 1 []) < 2147483665
                                        · exact rx_lawEF C0 (Or.inr rfl) (rx_fok_d h0.1 h0.2 (rx_fok_d (by omega) (by omega) (rx_fok_d (by omega) (by omega) rx_fok_n))) rx_r16_17
                                        · by_cases q20 : rx_b (rx_U X 1 []) < 2147483666
                                          · exact rx_lawEF C0 (Or.inr rfl) (rx_fok_d h0.1 h0.2 (rx_fok_d (by omega) (by omega) (rx_fok_d (by omega) (by omega) rx_fok_n))) rx_r16_18
                                          · by_cases q21 : rx_b (rx_U X 1 []) < 2147483667
                                            · exact rx_lawEF C0 (Or.inr rfl) (rx_fok_d h0.1 h0.2 (rx_fok_d (by omega) (by omega) (rx_fok_d (by omega) (by omega) rx_fok_n))) rx_r16_19
                                            · by_cases q22 : rx_b (rx_U X 1 []) < 2147483668
                                              · exact rx_lawEF C0 (Or.inr rfl) (rx_fok_d h0.1 h0.2 (rx_fok_d (by omega) (by omega) (rx_fok_d (by omega) (by omega) rx_fok_n))) rx_r16_20
                                              · by_cases q23 : rx_b (rx_U X 1 []) < 2147483669
                                                · exact rx_lawEF C0 (Or.inr rfl) (rx_fok_d h0.1 h0.2 (rx_fok_d (by omega) (by omega) (rx_fok_d (by omega) (by omega) rx_fok_n))) rx_r16_21
                                                · by_cases q24 : rx_b (rx_U X 1 []) < 2147483670
                                                  · exact rx_lawEF C0 (Or.inr rfl) (rx_fok_d h0.1 h0.2 (rx_fok_d (by omega) (by omega) (rx_fok_d (by omega) (by omega) rx_fok_n))) rx_r16_22
                                                  · by_cases q25 : rx_b (rx_U X 1 []) < 2147483671
                                                    · exact rx_lawEF C0 (Or.inr rfl) (rx_fok_d h0.1 h0.2 (rx_fok_d (by omega) (by omega) (rx_fok_d (by omega) (by omega) rx_fok_n))) rx_r16_23
                                                    · by_cases q26 : rx_b (rx_U X 1 []) < 2147483672
                                                      · exact rx_lawEF C0 (Or.inr rfl) (rx_fok_d h0.1 h0.2 (rx_fok_d (by omega) (by omega) (rx_fok_d (by omega) (by omega) rx_fok_n))) rx_r16_24
                                                      · by_cases q27 : rx_b (rx_U X 1 []) < 2147483673
                                                        · exact rx_lawEF C0 (Or.inr rfl) (rx_fok_d h0.1 h0.2 (rx_fok_d (by omega) (by omega) (rx_fok_d (by omega) (by omega) rx_fok_n))) rx_r16_25
                                                        · by_cases q28 : rx_b (rx_U X 1 []) < 2147483674
                                                          · exact rx_lawEF C0 (Or.inr rfl) (rx_fok_d h0.1 h0.2 (rx_fok_d (by omega) (by omega) (rx_fok_d (by omega) (by omega) rx_fok_n))) rx_r16_26
                                                          · by_cases q29 : rx_b (rx_U X 1 []) < 2147483675
                                                            · exact rx_lawEF C0 (Or.inr rfl) (rx_fok_d h0.1 h0.2 (rx_fok_d (by omega) (by omega) (rx_fok_d (by omega) (by omega) rx_fok_n))) rx_r16_27
                                                            · by_cases q30 : rx_b (rx_U X 1 []) < 2147483676
                                                              · exact rx_lawEF C0 (Or.inr rfl) (rx_fok_d h0.1 h0.2 (rx_fok_d (by omega) (by omega) (rx_fok_d (by omega) (by omega) rx_fok_n))) rx_r16_28
                                                              · by_cases q31 : rx_b (rx_U X 1 []) < 2147483677
                                                                · exact rx_lawEF C0 (Or.inr rfl) (rx_fok_d h0.1 h0.2 (rx_fok_d (by omega) (by omega) (rx_fok_d (by omega) (by omega) rx_fok_n))) rx_r16_29
                                                                · by_cases q32 : rx_b (rx_U X 1 []) < 2147483678
                                                                  · exact rx_lawEF C0 (Or.inr rfl) (rx_fok_d h0.1 h0.2 (rx_fok_d (by omega) (by omega) (rx_fok_d (by omega) (by omega) rx_fok_n))) rx_r16_30
                                                                  · by_cases q33 : rx_b (rx_U X 1 []) < 2147483679
                                                                    · exact rx_lawEF C0 (Or.inr rfl) (rx_fok_d h0.1 h0.2 (rx_fok_d (by omega) (by omega) (rx_fok_d (by omega) (by omega) rx_fok_n))) rx_r16_31
                                                                    · by_cases q34 : rx_b (rx_U X 1 []) < 2147483680
                                                                      · exact rx_lawEF C0 (Or.inr rfl) (rx_fok_d h0.1 h0.2 (rx_fok_d (by omega) (by omega) (rx_fok_d (by omega) (by omega) rx_fok_n))) rx_r16_32
                                                                      · by_cases q35 : rx_b (rx_U X 1 []) < 2147483681
                                                                        · exact rx_lawEF C0 (Or.inr rfl) (rx_fok_d h0.1 h0.2 (rx_fok_d (by omega) (by omega) (rx_fok_d (by omega) (by omega) rx_fok_n))) rx_r16_33
                                                                        · by_cases q36 : rx_b (rx_U X 1 []) < 2147483682
                                                                          · exact rx_lawEF C0 (Or.inr rfl) (rx_fok_d h0.1 h0.2 (rx_fok_d (by omega) (by omega) (rx_fok_d (by omega) (by omega) rx_fok_n))) rx_r16_34
                                                                          · by_cases q37 : rx_b (rx_U X 1 []) < 2147483683
                                                                            · exact rx_lawEF C0 (Or.inr rfl) (rx_fok_d h0.1 h0.2 (rx_fok_d (by omega) (by omega) (rx_fok_d (by omega) (by omega) rx_fok_n))) rx_r16_35
                                                                            · by_cases q38 : rx_b (rx_U X 1 []) < 2147483684
                                                                              · exact rx_lawEF C0 (Or.inr rfl) (rx_fok_d h0.1 h0.2 (rx_fok_d (by omega) (by omega) (rx_fok_d (by omega) (by omega) rx_fok_n))) rx_r16_36
                                                                              · by_cases q39 : rx_b (rx_U X 1 []) < 2147483685
                                                                                · exact rx_lawEF C0 (Or.inr rfl) (rx_fok_d h0.1 h0.2 (rx_fok_d (by omega) (by omega) (rx_fok_d (by omega) (by omega) rx_fok_n))) rx_r16_37
                                                                                · by_cases q40 : rx_b (rx_U X 1 []) < 2147483686
                                                                                  · exact rx_lawEF C0 (Or.inr rfl) (rx_fok_d h0.1 h0.2 (rx_fok_d (by omega) (by omega) (rx_fok_d (by omega) (by omega) rx_fok_n))) rx_r16_38
                                                                                  · by_cases q41 : rx_b (rx_U X 1 []) < 2147483687
                                                                                    · exact rx_lawEF C0 (Or.inr rfl) (rx_fok_d h0.1 h0.2 (rx_fok_d (by omega) (by omega) (rx_fok_d (by omega) (by omega) rx_fok_n))) rx_r16_39
                                                                                    · exact rx_lawEF C0 (Or.inr rfl) (rx_fok_d h0.1 h0.2 (rx_fok_d (by omega) (by omega) (rx_fok_d (by omega) (by omega) rx_fok_n))) rx_r16_40
      · by_cases q3 : rx_b (rx_U X 2 []) < 2147483650
        · by_cases q4 : rx_b (rx_U X 1 []) < 2147483668
          · by_cases q5 : rx_b (rx_U X 1 []) < 2147483658
            · by_cases q6 : rx_b (rx_U X 1 []) < 2147483653
              · by_cases q7 : rx_b (rx_U X 1 []) < 2147483650
                · by_cases q8 : rx_b (rx_U X 1 []) < 2147483649
                  · by_cases q9 : rx_b (rx_U X 2 []) < 2147483649
                    · exact rx_oneV C0 (rx_fok_d h0.1 h0.2 (rx_fok_d (by omega) (by omega) (rx_fok_d (by omega) (by omega) rx_fok_n))) ⟨by decide, by decide⟩ (by omega) (by decide) (by omega) rx_hV0_0 rx_nV0_0
                    · exact rx_oneV C0 (rx_fok_d h0.1 h0.2 (rx_fok_d (by omega) (by omega) (rx_fok_d (by omega) (by omega) rx_fok_n))) ⟨by decide, by decide⟩ (by omega) (by decide) (by omega) rx_hV0_1 rx_nV0_1
                  · by_cases q9 : rx_b (rx_U X 2 []) < 2147483649
                    · exact rx_oneV C0 (rx_fok_d h0.1 h0.2 (rx_fok_d (by omega) (by omega) (rx_fok_d (by omega) (by omega) rx_fok_n))) ⟨by decide, by decide⟩ (by omega) (by decide) (by omega) rx_hV1_0 rx_nV1_0
                    · exact rx_oneV C0 (rx_fok_d h0.1 h0.2 (rx_fok_d (by omega) (by omega) (rx_fok_d (by omega) (by omega) rx_fok_n))) ⟨by decide, by decide⟩ (by omega) (by decide) (by omega) rx_hV1_1 rx_nV1_1
                · by_cases q8 : rx_b (rx_U X 1 []) < 2147483651
                  · by_cases q9 : rx_b (rx_U X 2 []) < 2147483649
                    · exact rx_oneV C0 (rx_fok_d h0.1 h0.2 (rx_fok_d (by omega) (by omega) (rx_fok_d (by omega) (by omega) rx_fok_n))) ⟨by decide, by decide⟩ (by omega) (by decide) (by omega) rx_hV2_0 rx_nV2_0
                    · exact rx_oneV C0 (rx_fok_d h0.1 h0.2 (rx_fok_d (by omega) (by omega) (rx_fok_d (by omega) (by omega) rx_fok_n))) ⟨by decide, by decide⟩ (by omega) (by decide) (by omega) rx_hV2_1 rx_nV2_1
                  · by_cases q9 : rx_b (rx_U X 1 []) < 2147483652
                    · by_cases q10 : rx_b (rx_U X 2 []) < 2147483649
                      · exact rx_oneV C0 (rx_fok_d h0.1 h0.2 (rx_fok_d (by omega) (by omega) (rx_fok_d (by omega) (by omega) rx_fok_n))) ⟨by decide, by decide⟩ (by omega) (by decide) (by omega) rx_hV3_0 rx_nV3_0
                      · exact rx_oneV C0 (rx_fok_d h0.1 h0.2 (rx_fok_d (by omega) (by omega) (rx_fok_d (by omega) (by omega) rx_fok_n))) ⟨by decide, by decide⟩ (by omega) (by decide) (by omega) rx_hV3_1 rx_nV3_1
                    · by_cases q10 : rx_b (rx_U X 2 []) < 2147483649
                      · exact rx_oneV C0 (rx_fok_d h0.1 h0.2 (rx_fok_d (by omega) (by omega) (rx_fok_d (by omega) (by omega) rx_fok_n))) ⟨by decide, by decide⟩ (by omega) (by decide) (by omega) rx_hV4_0 rx_nV4_0
                      · exact rx_oneV C0 (rx_fok_d h0.1 h0.2 (rx_fok_d (by omega) (by omega) (rx_fok_d (by omega) (by omega) rx_fok_n))) ⟨by decide, by decide⟩ (by omega) (by decide) (by omega) rx_hV4_1 rx_nV4_1
              · by_cases q7 : rx_b (rx_U X 1 []) < 2147483655
                · by_cases q8 : rx_b (rx_U X 1 []) < 2147483654
                  · by_cases q9 : rx_b (rx_U X 2 []) < 2147483649
                    · exact rx_oneV C0 (rx_fok_d h0.1 h0.2 (rx_fok_d (by omega) (by omega) (rx_fok_d (by omega) (by omega) rx_fok_n))) ⟨by decide, by decide⟩ (by omega) (by decide) (by omega) rx_hV5_0 rx_nV5_0
                    · exact rx_oneV C0 (rx_fok_d h0.1 h0.2 (rx_fok_d (by omega) (by omega) (rx_fok_d (by omega) (by omega) rx_fok_n))) ⟨by decide, by decide⟩ (by omega) (by decide) (by omega) rx_hV5_1 rx_nV5_1
                  · by_cases q9 : rx_b (rx_U X 2 []) < 2147483649
                    · exact rx_oneV C0 (rx_fok_d h0.1 h0.2 (rx_fok_d (by omega) (by omega) (rx_fok_d (by omega) (by omega) rx_fok_n))) ⟨by decide, by decide⟩ (by omega) (by decide) (by omega) rx_hV6_0 rx_nV6_0
                    · exact rx_oneV C0 (rx_fok_d h0.1 h0.2 (rx_fok_d (by omega) (by omega) (rx_fok_d (by omega) (by omega) rx_fok_n))) ⟨by decide, by decide⟩ (by omega) (by decide) (by omega) rx_hV6_1 rx_nV6_1
                · by_cases q8 : rx_b (rx_U X 1 []) < 2147483656
                  · by_cases q9 : rx_b (rx_U X 2 []) < 2147483649
                    · exact rx_oneV C0 (rx_fok_d h0.1 h0.2 (rx_fok_d (by omega) (by omega) (rx_fok_d (by omega) (by omega) rx_fok_n))) ⟨by decide, by decide⟩ (by omega) (by decide) (by omega) rx_hV7_0 rx_nV7_0
                    · exact rx_oneV C0 (rx_fok_d h0.1 h0.2 (rx_fok_d (by omega) (by omega) (rx_fok_d (by omega) (by omega) rx_fok_n))) ⟨by decide, by decide⟩ (by omega) (by decide) (by omega) rx_hV7_1 rx_nV7_1
                  · by_cases q9 : rx_b (rx_U X 1 []) < 2147483657
                    · by_cases q10 : rx_b (rx_U X 2 []) < 2147483649
                      · exact rx_oneV C0 (rx_fok_d h0.1 h0.2 (rx_fok_d (by omega) (by omega) (rx_fok_d (by omega) (by omega) rx_fok_n))) ⟨by decide, by decide⟩ (by omega) (by decide) (by omega) rx_hV8_0 rx_nV8_0
                      · exact rx_oneV C0 (rx_fok_d h0.1 h0.2 (rx_fok_d (by omega) (by omega) (rx_fok_d (by omega) (by omega) rx_fok_n))) ⟨by decide, by decide⟩ (by omega) (by decide) (by omega) rx_hV8_1 rx_nV8_1
                    · by_cases q10 : rx_b (rx_U X 2 []) < 2147483649
                      · exact rx_oneV C0 (rx_fok_d h0.1 h0.2 (rx_fok_d (by omega) (by omega) (rx_fok_d (by omega) (by omega) rx_fok_n))) ⟨by decide, by decide⟩ (by omega) (by decide) (by omega) rx_hV9_0 rx_nV9_0
                      · exact rx_oneV C0 (rx_fok_d h0.1 h0.2 (rx_fok_d (by omega) (by omega) (rx_fok_d (by omega) (by omega) rx_fok_n))) ⟨by decide, by decide⟩ (by omega) (by decide) (by omega) rx_hV9_1 rx_nV9_1
            · by_cases q6 : rx_b (rx_U X 1 []) < 2147483663
              · by_cases q7 : rx_b (rx_U X 1 []) < 2147483660
                · by_cases q8 : rx_b (rx_U X 1 []) < 2147483659
                  · by_cases q9 : rx_b (rx_U X 2 []) < 2147483649
                    · exact rx_oneV C0 (rx_fok_d h0.1 h0.2 (rx_fok_d (by omega) (by omega) (rx_fok_d (by omega) (by omega) rx_fok_n))) ⟨by decide, by decide⟩ (by omega) (by decide) (by omega) rx_hV10_0 rx_nV10_0
                    · exact rx_oneV C0 (rx_fok_d h0.1 h0.2 (rx_fok_d (by omega) (by omega) (rx_fok_d (by omega) (by omega) rx_fok_n))) ⟨by decide, by decide⟩ (by omega) (by decide) (by omega) rx_hV10_1 rx_nV10_1
                  · by_cases q9 : rx_b (rx_U X 2 []) < 2147483649
                    · exact rx_oneV C0 (rx_fok_d h0.1 h0.2 (rx_fok_d (by omega) (by omega) (rx_fok_d (by omega) (by omega) rx_fok_n))) ⟨by decide, by decide⟩ (by omega) (by decide) (by omega) rx_hV11_0 rx_nV11_0
                    · exact rx_oneV C0 (rx_fok_d h0.1 h0.2 (rx_fok_d (by omega) (by omega) (rx_fok_d (by omega) (by omega) rx_fok_n))) ⟨by decide, by decide⟩ (by omega) (by decide) (by omega) rx_hV11_1 rx_nV11_1
                · by_cases q8 : rx_b (rx_U X 1 []) < 2147483661
                  · by_cases q9 : rx_b (rx_U X 2 []) < 2147483649
                    · exact rx_oneV C0 (rx_fok_d h0.1 h0.2 (rx_fok_d (by omega) (by omega) (rx_fok_d (by omega) (by omega) rx_fok_n))) ⟨by decide, by decide⟩ (by omega) (by decide) (by omega) rx_hV12_0 rx_nV12_0
                    · exact rx_oneV C0 (rx_fok_d h0.1 h0.2 (rx_fok_d (by omega) (by omega) (rx_fok_d (by omega) (by omega) rx_fok_n))) ⟨by decide, by decide⟩ (by omega) (by decide) (by omega) rx_hV12_1 rx_nV12_1
                  · by_cases q9 : rx_b (rx_U X 1 []) < 2147483662
                    · by_cases q10 : rx_b (rx_U X 2 []) < 2147483649
                      · exact rx_oneV C0 (rx_fok_d h0.1 h0.2 (rx_fok_d (by omega) (by omega) (rx_fok_d (by omega) (by omega) rx_fok_n))) ⟨by decide, by decide⟩ (by omega) (by decide) (by omega) rx_hV13_0 rx_nV13_0
                      · exact rx_oneV C0 (rx_fok_d h0.1 h0.2 (rx_fok_d (by omega) (by omega) (rx_fok_d (by omega) (by omega) rx_fok_n))) ⟨by decide, by decide⟩ (by omega) (by decide) (by omega) rx_hV13_1 rx_nV13_1
                    · by_cases q10 : rx_b (rx_U X 2 []) < 2147483649
                      · exact rx_oneV C0 (rx_fok_d h0.1 h0.2 (rx_fok_d (by omega) (by omega) (rx_fok_d (by omega) (by omega) rx_fok_n))) ⟨by decide, by decide⟩ (by omega) (by decide) (by omega) rx_hV14_0 rx_nV14_0
                      · exact rx_oneV C0 (rx_fok_d h0.1 h0.2 (rx_fok_d (by omega) (by omega) (rx_fok_d (by omega) (by omega) rx_fok_n))) ⟨by decide, by decide⟩ (by omega) (by decide) (by omega) rx_hV14_1 rx_nV14_1
              · by_cases q7 : rx_b (rx_U X 1 []) < 2147483665
                · by_cases q8 : rx_b (rx_U X 1 []) < 2147483664
                  · by_cases q9 : rx_b (rx_U X 2 []) < 2147483649
                    · exact rx_oneV C0 (rx_fok_d h0.1 h0.2 (rx_fok_d (by omega) (by omega) (rx_fok_d (by omega) (by omega) rx_fok_n))) ⟨by decide, by decide⟩ (by omega) (by decide) (by omega) rx_hV15_0 rx_nV15_0
                    · exact rx_oneV C0 (rx_fok_d h0.1 h0.2 (rx_fok_d (by omega) (by omega) (rx_fok_d (by omega) (by omega) rx_fok_n))) ⟨by decide, by decide⟩ (by omega) (by decide) (by omega) rx_hV15_1 rx_nV15_1
                  · by_cases q9 : rx_b (rx_U X 2 []) < 2147483649
                    · exact rx_oneV C0 (rx_fok_d h0.1 h0.2 (rx_fok_d (by omega) (by omega) (rx_fok_d (by omega) (by omega) rx_fok_n))) ⟨by decide, by decide⟩ (by omega) (by decide) (by omega) rx_hV16_0 rx_nV16_0
                    · exact rx_oneV C0 (rx_fok_d h0.1 h0.2 (rx_fok_d (by omega) (by omega) (rx_fok_d (by omega) (by omega) rx_fok_n))) ⟨by decide, by decide⟩ (by omega) (by decide) (by omega) rx_hV16_1 rx_nV16_1
                · by_cases q8 : rx_b (rx_U X 1 []) < 2147483666
                  · by_cases q9 : rx_b (rx_U X 2 []) < 2147483649
                    · exact rx_oneV C0 (rx_fok_d h0.1 h0.2 (rx_fok_d (by omega) (by omega) (rx_fok_d (by omega) (by omega) rx_fok_n))) ⟨by decide, by decide⟩ (by omega) (by decide) (by omega) rx_hV17_0 rx_nV17_0
                    · exact rx_oneV C0 (rx_fok_d h0.1 h0.2 (rx_fok_d (by omega) (by omega) (rx_fok_d (by omega) (by omega) rx_fok_n))) ⟨by decide, by decide⟩ (by omega) (by decide) (by omega) rx_hV17_1 rx_nV17_1
                  · by_cases q9 : rx_b (rx_U X 1 []) < 2147483667
                    · by_cases q10 : rx_b (rx_U X 2 []) < 2147483649
                      · exact rx_oneV C0 (rx_fok_d h0.1 h0.2 (rx_fok_d (by omega) (by omega) (rx_fok_d (by omega) (by omega) rx_fok_n))) ⟨by decide, by decide⟩ (by omega) (by decide) (by omega) rx_hV18_0 rx_nV18_0
                      · exact rx_oneV C0 (rx_fok_d h0.1 h0.2 (rx_fok_d (by omega) (by omega) (rx_fok_d (by omega) (by omega) rx_fok_n))) ⟨by decide, by decide⟩ (by omega) (by decide) (by omega) rx_hV18_1 rx_nV18_1
                    · by_cases q10 : rx_b (rx_U X 2 []) < 2147483649
                      · exact rx_oneV C0 (rx_fok_d h0.1 h0.2 (rx_fok_d (by omega) (by omega) (rx_fok_d (by omega) (by omega) rx_fok_n))) ⟨by decide, by decide⟩ (by omega) (by decide) (by omega) rx_hV19_0 rx_nV19_0
                      · exact rx_oneV C0 (rx_fok_d h0.1 h0.2 (rx_fok_d (by omega) (by omega) (rx_fok_d (by omega) (by omega) rx_fok_n))) ⟨by decide, by decide⟩ (by omega) (by decide) (by omega) rx_hV19_1 rx_nV19_1
          · by_cases q5 : rx_b (rx_U X 1 []) < 2147483678
            · by_cases q6 : rx_b (rx_U X 1 []) < 2147483673
              · by_cases q7 : rx_b (rx_U X 1 []) < 2147483670
                · by_cases q8 : rx_b (rx_U X 1 []) < 2147483669
                  · by_cases q9 : rx_b (rx_U X 2 []) < 2147483649
                    · exact rx_oneV C0 (rx_fok_d h0.1 h0.2 (rx_fok_d (by omega) (by omega) (rx_fok_d (by omega) (by omega) rx_fok_n))) ⟨by decide, by decide⟩ (by omega) (by decide) (by omega) rx_hV20_0 rx_nV20_0
                    · exact rx_oneV C0 (rx_fok_d h0.1 h0.2 (rx_fok_d (by omega) (by omega) (rx_fok_d (by omega) (by omega) rx_fok_n))) ⟨by decide, by decide⟩ (by omega) (by decide) (by omega) rx_hV20_1 rx_nV20_1
                  · by_cases q9 : rx_b (rx_U X 2 []) < 2147483649
                    · exact rx_oneV C0 (rx_fok_d h0.1 h0.2 (rx_fok_d (by omega) (by omega) (rx_fok_d (by omega) (by omega) rx_fok_n))) ⟨by decide, by decide⟩ (by omega) (by decide) (by omega) rx_hV21_0 rx_nV21_0
                    · exact rx_oneV C0 (rx_fok_d h0.1 h0.2 (rx_fok_d (by omega) (by omega) (rx_fok_d (by omega) (by omega) rx_fok_n))) ⟨by decide, by decide⟩ (by omega) (by decide) (by omega) rx_hV21_1 rx_nV21_1
                · by_cases q8 : rx_b (rx_U X 1 []) < 2147483671
                  · by_cases q9 : rx_b (rx_U X 2 []) < 2147483649
                    · exact rx_oneV C0 (rx_fok_d h0.1 h0.2 (rx_fok_d (by omega) (by omega) (rx_fok_d (by omega) (by omega) rx_fok_n))) ⟨by decide, by decide⟩ (by omega) (by decide) (by omega) rx_hV22_0 rx_nV22_0
                    · exact rx_oneV C0 (rx_fok_d h0.1 h0.2 (rx_fok_d (by omega) (by omega) (rx_fok_d (by omega) (by omega) rx_fok_n))) ⟨by decide, by decide⟩ (by omega) (by decide) (by omega) rx_hV22_1 rx_nV22_1
                  · by_cases q9 : rx_b (rx_U X 1 []) < 2147483672
                    · by_cases q10 : rx_b (rx_U X 2 []) < 2147483649
                      · exact rx_oneV C0 (rx_fok_d h0.1 h0.2 (rx_fok_d (by omega) (by omega) (rx_fok_d (by omega) (by omega) rx_fok_n))) ⟨by decide, by decide⟩ (by omega) (by decide) (by omega) rx_hV23_0 rx_nV23_0
                      · exact rx_oneV C0 (rx_fok_d h0.1 h0.2 (rx_fok_d (by omega) (by omega) (rx_fok_d (by omega) (by omega) rx_fok_n))) ⟨by decide, by decide⟩ (by omega) (by decide) (by omega) rx_hV23_1 rx_nV23_1
                    · by_cases q10 : rx_b (rx_U X 2 []) < 2147483649
                      · exact rx_oneV C0 (rx_fok_d h0.1 h0.2 (rx_fok_d (by omega) (by omega) (rx_fok_d (by omega) (by omega) rx_fok_n))) ⟨by decide, by decide⟩ (by omega) (by decide) (by omega) rx_hV24_0 rx_nV24_0
                      · exact rx_oneV C0 (rx_fok_d h0.1 h0.2 (rx_fok_d (by omega) (by omega) (rx_fok_d (by omega) (by omega) rx_fok_n))) ⟨by decide, by decide⟩ (by omega) (by decide) (by omega) rx_hV24_1 rx_nV24_1
              · by_cases q7 : rx_b (rx_U X 1 []) < 2147483675
                · by_cases q8 : rx_b (rx_U X 1 []) < 2147483674
                  · by_cases q9 : rx_b (rx_U X 2 []) < 2147483649
                    · exact rx_oneV C0 (rx_fok_d h0.1 h0.2 (rx_fok_d (by omega) (by omega) (rx_fok_d (by omega) (by omega) rx_fok_n))) ⟨by decide, by decide⟩ (by omega) (by decide) (by omega) rx_hV25_0 rx_nV25_0
                    · exact rx_oneV C0 (rx_fok_d h0.1 h0.2 (rx_fok_d (by omega) (by omega) (rx_fok_d (by omega) (by omega) rx_fok_n))) ⟨by decide, by decide⟩ (by omega) (by decide) (by omega) rx_hV25_1 rx_nV25_1
                  · by_cases q9 : rx_b (rx_U X 2 []) < 2147483649
                    · exact rx_oneV C0 (rx_fok_d h0.1 h0.2 (rx_fok_d (by omega) (by omega) (rx_fok_d (by omega) (by omega) rx_fok_n))) ⟨by decide, by decide⟩ (by omega) (by decide) (by omega) rx_hV26_0 rx_nV26_0
                    · exact rx_oneV C0 (rx_fok_d h0.1 h0.2 (rx_fok_d (by omega) (by omega) (rx_fok_d (by omega) (by omega) rx_fok_n))) ⟨by decide, by decide⟩ (by omega) (by decide) (by omega) rx_hV26_1 rx_nV26_1
                · by_cases q8 : rx_b (rx_U X 1 []) < 2147483676
                  · by_cases q9 : rx_b (rx_U X 2 []) < 2147483649
                    · exact rx_oneV C0 (rx_fok_d h0.1 h0.2 (rx_fok_d (by omega) (by omega) (rx_fok_d (by omega) (by omega) rx_fok_n))) ⟨by decide, by decide⟩ (by omega) (by decide) (by omega) rx_hV27_0 rx_nV27_0
                    · exact rx_oneV C0 (rx_fok_d h0.1 h0.2 (rx_fok_d (by omega) (by omega) (rx_fok_d (by omega) (by omega) rx_fok_n))) ⟨by decide, by decide⟩ (by omega) (by decide) (by omega) rx_hV27_1 rx_nV27_1
                  · by_cases q9 : rx_b (rx_U X 1 []) < 2147483677
                    · by_cases q10 : rx_b (rx_U X 2 []) < 2147483649
                      · exact rx_oneV C0 (rx_fok_d h0.1 h0.2 (rx_fok_d (by omega) (by omega) (rx_fok_d (by omega) (by omega) rx_fok_n))) ⟨by decide, by decide⟩ (by omega) (by decide) (by omega) rx_hV28_0 rx_nV28_0
                      · exact rx_oneV C0 (rx_fok_d h0.1 h0.2 (rx_fok_d (by omega) (by omega) (rx_fok_d (by omega) (by omega) rx_fok_n))) ⟨by decide, by decide⟩ (by omega) (by decide) (by omega) rx_hV28_1 rx_nV28_1
                    · by_cases q10 : rx_b (rx_U X 2 []) < 2147483649
                      · exact rx_oneV C0 (rx_fok_d h0.1 h0.2 (rx_fok_d (by omega) (by omega) (rx_fok_d (by omega) (by omega) rx_fok_n))) ⟨by decide, by decide⟩ (by omega) (by decide) (by omega) rx_hV29_0 rx_nV29_0
                      · exact rx_oneV C0 (rx_fok_d h0.1 h0.2 (rx_fok_d (by omega) (by omega) (rx_fok_d (by omega) (by omega) rx_fok_n))) ⟨by decide, by decide⟩ (by omega) (by decide) (by omega) rx_hV29_1 rx_nV29_1
            · by_cases q6 : rx_b (rx_U X 1 []) < 2147483683
              · by_cases q7 : rx_b (rx_U X 1 []) < 2147483680
                · by_cases q8 : rx_b (rx_U X 1 []) < 2147483679
                  · by_cases q9 : rx_b (rx_U X 2 []) < 2147483649
                    · exact rx_oneV C0 (rx_fok_d h0.1 h0.2 (rx_fok_d (by omega) (by omega) (rx_fok_d (by omega) (by omega) rx_fok_n))) ⟨by decide, by decide⟩ (by omega) (by decide) (by omega) rx_hV30_0 rx_nV30_0
                    · exact rx_oneV C0 (rx_fok_d h0.1 h0.2 (rx_fok_d (by omega) (by omega) (rx_fok_d (by omega) (by omega) rx_fok_n))) ⟨by decide, by decide⟩ (by omega) (by decide) (by omega) rx_hV30_1 rx_nV30_1
                  · by_cases q9 : rx_b (rx_U X 2 []) < 2147483649
                    · exact rx_oneV C0 (rx_fok_d h0.1 h0.2 (rx_fok_d (by omega) (by omega) (rx_fok_d (by omega) (by omega) rx_fok_n))) ⟨by decide, by decide⟩ (by omega) (by decide) (by omega) rx_hV31_0 rx_nV31_0
                    · exact rx_oneV C0 (rx_fok_d h0.1 h0.2 (rx_fok_d (by omega) (by omega) (rx_fok_d (by omega) (by omega) rx_fok_n))) ⟨by decide, by decide⟩ (by omega) (by decide) (by omega) rx_hV31_1 rx_nV31_1
                · by_cases q8 : rx_b (rx_U X 1 []) < 2147483681
                  · by_cases q9 : rx_b (rx_U X 2 []) < 2147483649
                    · exact rx_oneV C0 (rx_fok_d h0.1 h0.2 (rx_fok_d (by omega) (by omega) (rx_fok_d (by omega) (by omega) rx_fok_n))) ⟨by decide, by decide⟩ (by omega) (by decide) (by omega) rx_hV32_0 rx_nV32_0
                    · exact rx_oneV C0 (rx_fok_d h0.1 h0.2 (rx_fok_d (by omega) (by omega) (rx_fok_d (by omega) (by omega) rx_fok_n))) ⟨by decide, by decide⟩ (by omega) (by decide) (by omega) rx_hV32_1 rx_nV32_1
                  · by_cases q9 : rx_b (rx_U X 1 []) < 2147483682
                    · by_cases q10 : rx_b (rx_U X 2 []) < 2147483649
                      · exact rx_oneV C0 (rx_fok_d h0.1 h0.2 (rx_fok_d (by omega) (by omega) (rx_fok_d (by omega) (by omega) rx_fok_n))) ⟨by decide, by decide⟩ (by omega) (by decide) (by omega) rx_hV33_0 rx_nV33_0
                      · exact rx_oneV C0 (rx_fok_d h0.1 h0.2 (rx_fok_d (by omega) (by omega) (rx_fok_d (by omega) (by omega) rx_fok_n))) ⟨by decide, by decide⟩ (by omega) (by decide) (by omega) rx_hV33_1 rx_nV33_1
                    · by_cases q10 : rx_b (rx_U X 2 []) < 2147483649
                      · exact rx_oneV C0 (rx_fok_d h0.1 h0.2 (rx_fok_d (by omega) (by omega) (rx_fok_d (by omega) (by omega) rx_fok_n))) ⟨by decide, by decide⟩ (by omega) (by decide) (by omega) rx_hV34_0 rx_nV34_0
                      · exact rx_oneV C0 (rx_fok_d h0.1 h0.2 (rx_fok_d (by omega) (by omega) (rx_fok_d (by omega) (by omega) rx_fok_n))) ⟨by decide, by decide⟩ (by omega) (by decide) (by omega) rx_hV34_1 rx_nV34_1
              · by_cases q7 : rx_b (rx_U X 1 []) < 2147483685
                · by_cases q8 : rx_b (rx_U X 1 []) < 2147483684
                  · by_cases q9 : rx_b (rx_U X 2 []) < 2147483649
                    · exact rx_oneV C0 (rx_fok_d h0.1 h0.2 (rx_fok_d (by omega) (by omega) (rx_fok_d (by omega) (by omega) rx_fok_n))) ⟨by decide, by decide⟩ (by omega) (by decide) (by omega) rx_hV35_0 rx_nV35_0
                    · exact rx_oneV C0 (rx_fok_d h0.1 h0.2 (rx_fok_d (by omega) (by omega) (rx_fok_d (by omega) (by omega) rx_fok_n))) ⟨by decide, by decide⟩ (by omega) (by decide) (by omega) rx_hV35_1 rx_nV35_1
                  · by_cases q9 : rx_b (rx_U X 2 []) < 2147483649
                    · exact rx_oneV C0 (rx_fok_d h0.1 h0.2 (rx_fok_d (by omega) (by omega) (rx_fok_d (by omega) (by omega) rx_fok_n))) ⟨by decide, by decide⟩ (by omega) (by decide) (by omega) rx_hV36_0 rx_nV36_0
                    · exact rx_oneV C0 (rx_fok_d h0.1 h0.2 (rx_fok_d (by omega) (by omega) (rx_fok_d (by omega) (by omega) rx_fok_n))) ⟨by decide, by decide⟩ (by omega) (by decide) (by omega) rx_hV36_1 rx_nV36_1
                · by_cases q8 : rx_b (rx_U X 1 []) < 2147483686
                  · by_cases q9 : rx_b (rx_U X 2 []) < 2147483649
                    · exact rx_oneV C0 (rx_fok_d h0.1 h0.2 (rx_fok_d (by omega) (by omega) (rx_fok_d (by omega) (by omega) rx_fok_n))) ⟨by decide, by decide⟩ (by omega) (by decide) (by omega) rx_hV37_0 rx_nV37_0
                    · exact rx_oneV C0 (rx_fok_d h0.1 h0.2 (rx_fok_d (by omega) (by omega) (rx_fok_d (by omega) (by omega) rx_fok_n))) ⟨by decide, by decide⟩ (by omega) (by decide) (by omega) rx_hV37_1 rx_nV37_1
                  · by_cases q9 : rx_b (rx_U X 1 []) < 2147483687
                    · by_cases q10 : rx_b (rx_U X 2 []) < 2147483649
                      · exact rx_oneV C0 (rx_fok_d h0.1 h0.2 (rx_fok_d (by omega) (by omega) (rx_fok_d (by omega) (by omega) rx_fok_n))) ⟨by decide, by decide⟩ (by omega) (by decide) (by omega) rx_hV38_0 rx_nV38_0
                      · exact rx_oneV C0 (rx_fok_d h0.1 h0.2 (rx_fok_d (by omega) (by omega) (rx_fok_d (by omega) (by omega) rx_fok_n))) ⟨by decide, by decide⟩ (by omega) (by decide) (by omega) rx_hV38_1 rx_nV38_1
                    · by_cases q10 : rx_b (rx_U X 2 []) < 2147483649
                      · exact rx_oneV C0 (rx_fok_d h0.1 h0.2 (rx_fok_d (by omega) (by omega) (rx_fok_d (by omega) (by omega) rx_fok_n))) ⟨by decide, by decide⟩ (by omega) (by decide) (by omega) rx_hV39_0 rx_nV39_0
                      · exact rx_oneV C0 (rx_fok_d h0.1 h0.2 (rx_fok_d (by omega) (by omega) (rx_fok_d (by omega) (by omega) rx_fok_n))) ⟨by decide, by decide⟩ (by omega) (by decide) (by omega) rx_hV39_1 rx_nV39_1
        · by_cases q4 : rx_b (rx_U X 1 []) < 2147483649
          · exact rx_lawEF C0 (Or.inr rfl) (rx_fok_d h0.1 h0.2 (rx_fok_d (by omega) (by omega) (rx_fok_d (by omega) (by omega) rx_fok_n))) rx_r16_41
          · by_cases q5 : rx_b (rx_U X 1 []) < 2147483650
            · exact rx_lawEF C0 (Or.inr rfl) (rx_fok_d h0.1 h0.2 (rx_fok_d (by omega) (by omega) (rx_fok_d (by omega) (by omega) rx_fok_n))) rx_r16_42
            · by_cases q6 : rx_b (rx_U X 1 []) < 2147483651
              · exact rx_lawEF C0 (Or.inr rfl) (rx_fok_d h0.1 h0.2 (rx_fok_d (by omega) (by omega) (rx_fok_d (by omega) (by omega) rx_fok_n))) rx_r16_43
              · by_cases q7 : rx_b (rx_U X 1 []) < 2147483652
                · exact rx_lawEF C0 (Or.inr rfl) (rx_fok_d h0.1 h0.2 (rx_fok_d (by omega) (by omega) (rx_fok_d (by omega) (by omega) rx_fok_n))) rx_r16_44
                · by_cases q8 : rx_b (rx_U X 1 []) < 2147483653
                  · exact rx_lawEF C0 (Or.inr rfl) (rx_fok_d h0.1 h0.2 (rx_fok_d (by omega) (by omega) (rx_fok_d (by omega) (by omega) rx_fok_n))) rx_r16_45
                  · by_cases q9 : rx_b (rx_U X 1 []) < 2147483654
                    · exact rx_lawEF C0 (Or.inr rfl) (rx_fok_d h0.1 h0.2 (rx_fok_d (by omega) (by omega) (rx_fok_d (by omega) (by omega) rx_fok_n))) rx_r16_46
                    · by_cases q10 : rx_b (rx_U X 1 []) < 2147483655
                      · exact rx_lawEF C0 (Or.inr rfl) (rx_fok_d h0.1 h0.2 (rx_fok_d (by omega) (by omega) (rx_fok_d (by omega) (by omega) rx_fok_n))) rx_r16_47
                      · by_cases q11 : rx_b (rx_U X 1 []) < 2147483656
                        · exact rx_lawEF C0 (Or.inr rfl) (rx_fok_d h0.1 h0.2 (rx_fok_d (by omega) (by omega) (rx_fok_d (by omega) (by omega) rx_fok_n))) rx_r16_48
                        · by_cases q12 : rx_b (rx_U X 1 []) < 2147483657
                          · exact rx_lawEF C0 (Or.inr rfl) (rx_fok_d h0.1 h0.2 (rx_fok_d (by omega) (by omega) (rx_fok_d (by omega) (by omega) rx_fok_n))) rx_r16_49
                          · by_cases q13 : rx_b (rx_U X 1 []) < 2147483658
                            · exact rx_lawEF C0 (Or.inr rfl) (rx_fok_d h0.1 h0.2 (rx_fok_d (by omega) (by omega) (rx_fok_d (by omega) (by omega) rx_fok_n))) rx_r16_50
                            · by_cases q14 : rx_b (rx_U X 1 []) < 2147483659
                              · exact rx_lawEF C0 (Or.inr rfl) (rx_fok_d h0.1 h0.2 (rx_fok_d (by omega) (by omega) (rx_fok_d (by omega) (by omega) rx_fok_n))) rx_r16_51
                              · by_cases q15 : rx_b (rx_U X 1 []) < 2147483660
                                · exact rx_lawEF C0 (Or.inr rfl) (rx_fok_d h0.1 h0.2 (rx_fok_d (by omega) (by omega) (rx_fok_d (by omega) (by omega) rx_fok_n))) rx_r16_52
                                · by_cases q16 : rx_b (rx_U X 1 []) < 2147483661
                                  · exact rx_lawEF C0 (Or.inr rfl) (rx_fok_d h0.1 h0.2 (rx_fok_d (by omega) (by omega) (rx_fok_d (by omega) (by omega) rx_fok_n))) rx_r16_53
                                  · by_cases q17 : rx_b (rx_U X 1 []) < 2147483662
                                    · exact rx_lawEF C0 (Or.inr rfl) (rx_fok_d h0.1 h0.2 (rx_fok_d (by omega) (by omega) (rx_fok_d (by omega) (by omega) rx_fok_n))) rx_r16_54
                                    · by_cases q18 : rx_b (rx_U X 1 []) < 2147483663
                                      · exact rx_lawEF C0 (Or.inr rfl) (rx_fok_d h0.1 h0.2 (rx_fok_d (by omega) (by omega) (rx_fok_d (by omega) (by omega) rx_fok_n))) rx_r16_55
                                      · by_cases q19 : rx_b (rx_U X 1 []) < 2147483664
                                        · exact rx_lawEF C0 (Or.inr rfl) (rx_fok_d h0.1 h0.2 (rx_fok_d (by omega) (by omega) (rx_fok_d (by omega) (by omega) rx_fok_n))) rx_r16_56
                                        · by_cases q20 : rx_b (rx_U X 1 []) < 2147483665
                                          · exact rx_lawEF C0 (Or.inr rfl) (rx_fok_d h0.1 h0.2 (rx_fok_d (by omega) (by omega) (rx_fok_d (by omega) (by omega) rx_fok_n))) rx_r16_57
                                          · by_cases q21 : rx_b (rx_U X 1 []) < 2147483666
                                            · exact rx_lawEF C0 (Or.inr rfl) (rx_fok_d h0.1 h0.2 (rx_fok_d (by omega) (by omega) (rx_fok_d (by omega) (by omega) rx_fok_n))) rx_r16_58
                                            · by_cases q22 : rx_b (rx_U X 1 []) < 2147483667
                                              · exact rx_lawEF C0 (Or.inr rfl) (rx_fok_d h0.1 h0.2 (rx_fok_d (by omega) (by omega) (rx_fok_d (by omega) (by omega) rx_fok_n))) rx_r16_59
                                              · by_cases q23 : rx_b (rx_U X 1 []) < 2147483668
                                                · exact rx_lawEF C0 (Or.inr rfl) (rx_fok_d h0.1 h0.2 (rx_fok_d (by omega) (by omega) (rx_fok_d (by omega) (by omega) rx_fok_n))) rx_r16_60
                                                · by_cases q24 : rx_b (rx_U X 1 []) < 2147483669
                                                  · exact rx_lawEF C0 (Or.inr rfl) (rx_fok_d h0.1 h0.2 (rx_fok_d (by omega) (by omega) (rx_fok_d (by omega) (by omega) rx_fok_n))) rx_r16_61
                                                  · by_cases q25 : rx_b (rx_U X 1 []) < 2147483670
                                                    · exact rx_lawEF C0 (Or.inr rfl) (rx_fok_d h0.1 h0.2 (rx_fok_d (by omega) (by omega) (rx_fok_d (by omega) (by omega) rx_fok_n))) rx_r16_62
                                                    · by_cases q26 : rx_b (rx_U X 1 []) < 2147483671
                                                      · exact rx_lawEF C0 (Or.inr rfl) (rx_fok_d h0.1 h0.2 (rx_fok_d (by omega) (by omega) (rx_fok_d (by omega) (by omega) rx_fok_n))) rx_r16_63
                                                      · by_cases q27 : rx_b (rx_U X 1 []) < 2147483672
                                                        · exact rx_lawEF C0 (Or.inr rfl) (rx_fok_d h0.1 h0.2 (rx_fok_d (by omega) (by omega) (rx_fok_d (by omega) (by omega) rx_fok_n))) rx_r16_64
                                                        · by_cases q28 : rx_b (rx_U X 1 []) < 2147483673
                                                          · exact rx_lawEF C0 (Or.inr rfl) (rx_fok_d h0.1 h0.2 (rx_fok_d (by omega) (by omega) (rx_fok_d (by omega) (by omega) rx_fok_n))) rx_r16_65
                                                          · by_cases q29 : rx_b (rx_U X 1 []) < 2147483674
                                                            · exact rx_lawEF C0 (Or.inr rfl) (rx_fok_d h0.1 h0.2 (rx_fok_d (by omega) (by omega) (rx_fok_d (by omega) (by omega) rx_fok_n))) rx_r16_66
                                                            · by_cases q30 : rx_b (rx_U X 1 []) < 2147483675
                                                              · exact rx_lawEF C0 (Or.inr rfl) (rx_fok_d h0.1 h0.2 (rx_fok_d (by omega) (by omega) (rx_fok_d (by omega) (by omega) rx_fok_n))) rx_r16_67
                                                              · by_cases q31 : rx_b (rx_U X 1 []) < 2147483676
                                                                · exact rx_lawEF C0 (Or.inr rfl) (rx_fok_d h0.1 h0.2 (rx_fok_d (by omega) (by omega) (rx_fok_d (by omega) (by omega) rx_fok_n))) rx_r16_68
                                                                · by_cases q32 : rx_b (rx_U X 1 []) < 2147483677
                                                                  · exact rx_lawEF C0 (Or.inr rfl) (rx_fok_d h0.1 h0.2 (rx_fok_d (by omega) (by omega) (rx_fok_d (by omega) (by omega) rx_fok_n))) rx_r16_69
                                                                  · by_cases q33 : rx_b (rx_U X 1 []) < 2147483678
                                                                    · exact rx_lawEF C0 (Or.inr rfl) (rx_fok_d h0.1 h0.2 (rx_fok_d (by omega) (by omega) (rx_fok_d (by omega) (by omega) rx_fok_n))) rx_r16_70
                                                                    · by_cases q34 : rx_b (rx_U X 1 []) < 2147483679
                                                                      · exact rx_lawEF C0 (Or.inr rfl) (rx_fok_d h0.1 h0.2 (rx_fok_d (by omega) (by omega) (rx_fok_d (by omega) (by omega) rx_fok_n))) rx_r16_71
                                                                      · by_cases q35 : rx_b (rx_U X 1 []) < 2147483680
                                                                        · exact rx_lawEF C0 (Or.inr rfl) (rx_fok_d h0.1 h0.2 (rx_fok_d (by omega) (by omega) (rx_fok_d (by omega) (by omega) rx_fok_n))) rx_r16_72
                                                                        · by_cases q36 : rx_b (rx_U X 1 []) < 2147483681
                                                                          · exact rx_lawEF C0 (Or.inr rfl) (rx_fok_d h0.1 h0.2 (rx_fok_d (by omega) (by omega) (rx_fok_d (by omega) (by omega) rx_fok_n))) rx_r16_73
                                                                          · by_cases q37 : rx_b (rx_U X 1 []) < 2147483682
                                                                            · exact rx_lawEF C0 (Or.inr rfl) (rx_fok_d h0.1 h0.2 (rx_fok_d (by omega) (by omega) (rx_fok_d (by omega) (by omega) rx_fok_n))) rx_r16_74
                                                                            · by_cases q38 : rx_b (rx_U X 1 []) < 2147483683
                                                                              · exact rx_lawEF C0 (Or.inr rfl) (rx_fok_d h0.1 h0.2 (rx_fok_d (by omega) (by omega) (rx_fok_d (by omega) (by omega) rx_fok_n))) rx_r16_75
                                                                              · by_cases q39 : rx_b (rx_U X 1 []) < 2147483684
                                                                                · exact rx_lawEF C0 (Or.inr rfl) (rx_fok_d h0.1 h0.2 (rx_fok_d (by omega) (by omega) (rx_fok_d (by omega) (by omega) rx_fok_n))) rx_r16_76
                                                                                · by_cases q40 : rx_b (rx_U X 1 []) < 2147483685
                                                                                  · exact rx_lawEF C0 (Or.inr rfl) (rx_fok_d h0.1 h0.2 (rx_fok_d (by omega) (by omega) (rx_fok_d (by omega) (by omega) rx_fok_n))) rx_r16_77
                                                                                  · by_cases q41 : rx_b (rx_U X 1 []) < 2147483686
                                                                                    · exact rx_lawEF C0 (Or.inr rfl) (rx_fok_d h0.1 h0.2 (rx_fok_d (by omega) (by omega) (rx_fok_d (by omega) (by omega) rx_fok_n))) rx_r16_78
                                                                                    · by_cases q42 : rx_b (rx_U X 1 []) < 2147483687
                                                                                      · exact rx_lawEF C0 (Or.inr rfl) (rx_fok_d h0.1 h0.2 (rx_fok_d (by omega) (by omega) (rx_fok_d (by omega) (by omega) rx_fok_n))) rx_r16_79
                                                                                      · exact rx_lawEF C0 (Or.inr rfl) (rx_fok_d h0.1 h0.2 (rx_fok_d (by omega) (by omega) (rx_fok_d (by omega) (by omega) rx_fok_n))) rx_r16_80
    · exact rx_lawEF C0 (Or.inr rfl) (rx_fok_d h0.1 h0.2 (rx_fok_d (by omega) (by omega) rx_fok_n)) rx_r16_81
end RXcV
