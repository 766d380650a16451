/-! printed by wip/p1/heavy.py: the chain of years -/
section RXY
variable {p : Program} {l : Launch} {e : Env} {s : State} {m : MethodId} {args : Array Value} {below : List Frame} {meth : Method} {c : Code} {X : rx_X} {D : va_G}
theorem rx_kY40 (Cm : rx_mC p s m args c meth X D rx_yY rx_xY.2.1) (h1 : 2147483688 ≤ rx_b (rx_U X 1 [])) (h2 : rx_b (rx_U X 1 []) ≤ 2147483688) : rx_MW p l e s m args below meth c X D rx_yY rx_xY (.int (nI 0)) 25 rx_LY40 [] rx_wY40 0 0 := rx_mEF rx_oY Cm (rx_fok_d (by omega) (by omega) rx_fok_n) rfl rx_eY40
theorem rx_kY39 (Cm : rx_mC p s m args c meth X D rx_yY rx_xY.2.1) (h1 : 2147483687 ≤ rx_b (rx_U X 1 [])) (h2 : rx_b (rx_U X 1 []) ≤ 2147483688) : rx_MW p l e s m args below meth c X D rx_yY rx_xY (.int (nI 0)) 25 rx_LY39 [] rx_wY39 0 0 := by
  by_cases q : rx_b (rx_U X 1 []) < 2147483688
  · exact rx_mEF rx_oY Cm (rx_fok_d (by omega) (by omega) rx_fok_n) rfl rx_eY39
  · exact rx_mSF rx_oY Cm (rx_fok_d (by omega) (by omega) rx_fok_n) rx_tY39 (rx_mSF rx_oY Cm rx_fok_n rx_rY39 (rx_kY40 Cm (by omega) (by omega)))
theorem rx_kY38 (Cm : rx_mC p s m args c meth X D rx_yY rx_xY.2.1) (h1 : 2147483686 ≤ rx_b (rx_U X 1 [])) (h2 : rx_b (rx_U X 1 []) ≤ 2147483688) : rx_MW p l e s m args below meth c X D rx_yY rx_xY (.int (nI 0)) 25 rx_LY38 [] rx_wY38 0 0 := by
  by_cases q : rx_b (rx_U X 1 []) < 2147483687
  · exact rx_mEF rx_oY Cm (rx_fok_d (by omega) (by omega) rx_fok_n) rfl rx_eY38
  · exact rx_mSF rx_oY Cm (rx_fok_d (by omega) (by omega) rx_fok_n) rx_tY38 (rx_mSF rx_oY Cm rx_fok_n rx_rY38 (rx_kY39 Cm (by omega) (by omega)))
theorem rx_kY37 (Cm : rx_mC p s m args c meth X D rx_yY rx_xY.2.1) (h1 : 2147483685 ≤ rx_b (rx_U X 1 [])) (h2 : rx_b (rx_U X 1 []) ≤ 2147483688) : rx_MW p l e s m args below meth c X D rx_yY rx_xY (.int (nI 0)) 25 rx_LY37 [] rx_wY37 0 0 := by
  by_cases q : rx_b (rx_U X 1 []) < 2147483686
  · exact rx_mEF rx_oY Cm (rx_fok_d (by omega) (by omega) rx_fok_n) rfl rx_eY37
  · exact rx_mSF rx_oY Cm (rx_fok_d (by omega) (by omega) rx_fok_n) rx_tY37 (rx_mSF rx_oY Cm rx_fok_n rx_rY37 (rx_kY38 Cm (by omega) (by omega)))
theorem rx_kY36 (Cm : rx_mC p s m args c meth X D rx_yY rx_xY.2.1) (h1 : 2147483684 ≤ rx_b (rx_U X 1 [])) (h2 : rx_b (rx_U X 1 []) ≤ 2147483688) : rx_MW p l e s m args below meth c X D rx_yY rx_xY (.int (nI 0)) 25 rx_LY36 [] rx_wY36 0 0 := by
  by_cases q : rx_b (rx_U X 1 []) < 2147483685
  · exact rx_mEF rx_oY Cm (rx_fok_d (by omega) (by omega) rx_fok_n) rfl rx_eY36
  · exact rx_mSF rx_oY Cm (rx_fok_d (by omega) (by omega) rx_fok_n) rx_tY36 (rx_mSF rx_oY Cm rx_fok_n rx_rY36 (rx_kY37 Cm (by omega) (by omega)))
theorem rx_kY35 (Cm : rx_mC p s m args c meth X D rx_yY rx_xY.2.1) (h1 : 2147483683 ≤ rx_b (rx_U X 1 [])) (h2 : rx_b (rx_U X 1 []) ≤ 2147483688) : rx_MW p l e s m args below meth c X D rx_yY rx_xY (.int (nI 0)) 25 rx_LY35 [] rx_wY35 0 0 := by
  by_cases q : rx_b (rx_U X 1 []) < 2147483684
  · exact rx_mEF rx_oY Cm (rx_fok_d (by omega) (by omega) rx_fok_n) rfl rx_eY35
  · exact rx_mSF rx_oY Cm (rx_fok_d (by omega) (by omega) rx_fok_n) rx_tY35 (rx_mSF rx_oY Cm rx_fok_n rx_rY35 (rx_kY36 Cm (by omega) (by omega)))
theorem rx_kY34 (Cm : rx_mC p s m args c meth X D rx_yY rx_xY.2.1) (h1 : 2147483682 ≤ rx_b (rx_U X 1 [])) (h2 : rx_b (rx_U X 1 []) ≤ 2147483688) : rx_MW p l e s m args below meth c X D rx_yY rx_xY (.int (nI 0)) 25 rx_LY34 [] rx_wY34 0 0 := by
  by_cases q : rx_b (rx_U X 1 []) < 2147483683
  · exact rx_mEF rx_oY Cm (rx_fok_d (by omega) (by omega) rx_fok_n) rfl rx_eY34
  · exact rx_mSF rx_oY Cm (rx_fok_d (by omega) (by omega) rx_fok_n) rx_tY34 (rx_mSF rx_oY Cm rx_fok_n rx_rY34 (rx_kY35 Cm (by omega) (by omega)))
theorem rx_kY33 (Cm : rx_mC p s m args c meth X D rx_yY rx_xY.2.1) (h1 : 2147483681 ≤ rx_b (rx_U X 1 [])) (h2 : rx_b (rx_U X 1 []) ≤ 2147483688) : rx_MW p l e s m args below meth c X D rx_yY rx_xY (.int (nI 0)) 25 rx_LY33 [] rx_wY33 0 0 := by
  by_cases q : rx_b (rx_U X 1 []) < 2147483682
  · exact rx_mEF rx_oY Cm (rx_fok_d (by omega) (by omega) rx_fok_n) rfl rx_eY33
  · exact rx_mSF rx_oY Cm (rx_fok_d (by omega) (by omega) rx_fok_n) rx_tY33 (rx_mSF rx_oY Cm rx_fok_n rx_rY33 (rx_kY34 Cm (by omega) (by omega)))
theorem rx_kY32 (Cm : rx_mC p s m args c meth X D rx_yY rx_xY.2.1) (h1 : 2147483680 ≤ rx_b (rx_U X 1 [])) (h2 : rx_b (rx_U X 1 []) ≤ 2147483688) : rx_MW p l e s m args below meth c X D rx_yY rx_xY (.int (nI 0)) 25 rx_LY32 [] rx_wY32 0 0 := by
  by_cases q : rx_b (rx_U X 1 []) < 2147483681
  · exact rx_mEF rx_oY Cm (rx_fok_d (by omega) (by omega) rx_fok_n) rfl rx_eY32
  · exact rx_mSF rx_oY Cm (rx_fok_d (by omega) (by omega) rx_fok_n) rx_tY32 (rx_mSF rx_oY Cm rx_fok_n rx_rY32 (rx_kY33 Cm (by omega) (by omega)))
theorem rx_kY31 (Cm : rx_mC p s m args c meth X D rx_yY rx_xY.2.1) (h1 : 2147483679 ≤ rx_b (rx_U X 1 [])) (h2 : rx_b (rx_U X 1 []) ≤ 2147483688) : rx_MW p l e s m args below meth c X D rx_yY rx_xY (.int (nI 0)) 25 rx_LY31 [] rx_wY31 0 0 := by
  by_cases q : rx_b (rx_U X 1 []) < 2147483680
  · exact rx_mEF rx_oY Cm (rx_fok_d (by omega) (by omega) rx_fok_n) rfl rx_eY31
  · exact rx_mSF rx_oY Cm (rx_fok_d (by omega) (by omega) rx_fok_n) rx_tY31 (rx_mSF rx_oY Cm rx_fok_n rx_rY31 (rx_kY32 Cm (by omega) (by omega)))
theorem rx_kY30 (Cm : rx_mC p s m args c meth X D rx_yY rx_xY.2.1) (h1 : 2147483678 ≤ rx_b (rx_U X 1 [])) (h2 : rx_b (rx_U X 1 []) ≤ 2147483688) : rx_MW p l e s m args below meth c X D rx_yY rx_xY (.int (nI 0)) 25 rx_LY30 [] rx_wY30 0 0 := by
  by_cases q : rx_b (rx_U X 1 []) < 2147483679
  · exact rx_mEF rx_oY Cm (rx_fok_d (by omega) (by omega) rx_fok_n) rfl rx_eY30
  · exact rx_mSF rx_oY Cm (rx_fok_d (by omega) (by omega) rx_fok_n) rx_tY30 (rx_mSF rx_oY Cm rx_fok_n rx_rY30 (rx_kY31 Cm (by omega) (by omega)))
theorem rx_kY29 (Cm : rx_mC p s m args c meth X D rx_yY rx_xY.2.1) (h1 : 2147483677 ≤ rx_b (rx_U X 1 [])) (h2 : rx_b (rx_U X 1 []) ≤ 2147483688) : rx_MW p l e s m args below meth c X D rx_yY rx_xY (.int (nI 0)) 25 rx_LY29 [] rx_wY29 0 0 := by
  by_cases q : rx_b (rx_U X 1 []) < 2147483678
  · exact rx_mEF rx_oY Cm (rx_fok_d (by omega) (by omega) rx_fok_n) rfl rx_eY29
  · exact rx_mSF rx_oY Cm (rx_fok_d (by omega) (by omega) rx_fok_n) rx_tY29 (rx_mSF rx_oY Cm rx_fok_n rx_rY29 (rx_kY30 Cm (by omega) (by omega)))
theorem rx_kY28 (Cm : rx_mC p s m args c meth X D rx_yY rx_xY.2.1) (h1 : 2147483676 ≤ rx_b (rx_U X 1 [])) (h2 : rx_b (rx_U X 1 []) ≤ 2147483688) : rx_MW p l e s m args below meth c X D rx_yY rx_xY (.int (nI 0)) 25 rx_LY28 [] rx_wY28 0 0 := by
  by_cases q : rx_b (rx_U X 1 []) < 2147483677
  · exact rx_mEF rx_oY Cm (rx_fok_d (by omega) (by omega) rx_fok_n) rfl rx_eY28
  · exact rx_mSF rx_oY Cm (rx_fok_d (by omega) (by omega) rx_fok_n) rx_tY28 (rx_mSF rx_oY Cm rx_fok_n rx_rY28 (rx_kY29 Cm (by omega) (by omega)))
theorem rx_kY27 (Cm : rx_mC p s m args c meth X D rx_yY rx_xY.2.1) (h1 : 2147483675 ≤ rx_b (rx_U X 1 [])) (h2 : rx_b (rx_U X 1 []) ≤ 2147483688) : rx_MW p l e s m args below meth c X D rx_yY rx_xY (.int (nI 0)) 25 rx_LY27 [] rx_wY27 0 0 := by
  by_cases q : rx_b (rx_U X 1 []) < 2147483676
  · exact rx_mEF rx_oY Cm (rx_fok_d (by omega) (by omega) rx_fok_n) rfl rx_eY27
  · exact rx_mSF rx_oY Cm (rx_fok_d (by omega) (by omega) rx_fok_n) rx_tY27 (rx_mSF rx_oY Cm rx_fok_n rx_rY27 (rx_kY28 Cm (by omega) (by omega)))
theorem rx_kY26 (Cm : rx_mC p s m args c meth X D rx_yY rx_xY.2.1) (h1 : 2147483674 ≤ rx_b (rx_U X 1 [])) (h2 : rx_b (rx_U X 1 []) ≤ 2147483688) : rx_MW p l e s m args below meth c X D rx_yY rx_xY (.int (nI 0)) 25 rx_LY26 [] rx_wY26 0 0 := by
  by_cases q : rx_b (rx_U X 1 []) < 2147483675
  · exact rx_mEF rx_oY Cm (rx_fok_d (by omega) (by omega) rx_fok_n) rfl rx_eY26
  · exact rx_mSF rx_oY Cm (rx_fok_d (by omega) (by omega) rx_fok_n) rx_tY26 (rx_mSF rx_oY Cm rx_fok_n rx_rY26 (rx_kY27 Cm (by omega) (by omega)))
theorem rx_kY25 (Cm : rx_mC p s m args c meth X D rx_yY rx_xY.2.1) (h1 : 2147483673 ≤ rx_b (rx_U X 1 [])) (h2 : rx_b (rx_U X 1 []) ≤ 2147483688) : rx_MW p l e s m args below meth c X D rx_yY rx_xY (.int (nI 0)) 25 rx_LY25 [] rx_wY25 0 0 := by
  by_cases q : rx_b (rx_U X 1 []) < 2147483674
  · exact rx_mEF rx_oY Cm (rx_fok_d (by omega) (by omega) rx_fok_n) rfl rx_eY25
  · exact rx_mSF rx_oY Cm (rx_fok_d (by omega) (by omega) rx_fok_n) rx_tY25 (rx_mSF rx_oY Cm rx_fok_n rx_rY25 (rx_kY26 Cm (by omega) (by omega)))
theorem rx_kY24 (Cm : rx_mC p s m args c meth X D rx_yY rx_xY.2.1) (h1 : 2147483672 ≤ rx_b (rx_U X 1 [])) (h2 : rx_b (rx_U X 1 []) ≤ 2147483688) : rx_MW p l e s m args below meth c X D rx_yY rx_xY (.int (nI 0)) 25 rx_LY24 [] rx_wY24 0 0 := by
  by_cases q : rx_b (rx_U X 1 []) < 2147483673
  · exact rx_mEF rx_oY Cm (rx_fok_d (by omega) (by omega) rx_fok_n) rfl rx_eY24
  · exact rx_mSF rx_oY Cm (rx_fok_d (by omega) (by omega) rx_fok_n) rx_tY24 (rx_mSF rx_oY Cm rx_fok_n rx_rY24 (rx_kY25 Cm (by omega) (by omega)))
theorem rx_kY23 (Cm : rx_mC p s m args c meth X D rx_yY rx_xY.2.1) (h1 : 2147483671 ≤ rx_b (rx_U X 1 [])) (h2 : rx_b (rx_U X 1 []) ≤ 2147483688) : rx_MW p l e s m args below meth c X D rx_yY rx_xY (.int (nI 0)) 25 rx_LY23 [] rx_wY23 0 0 := by
  by_cases q : rx_b (rx_U X 1 []) < 2147483672
  · exact rx_mEF rx_oY Cm (rx_fok_d (by omega) (by omega) rx_fok_n) rfl rx_eY23
  · exact rx_mSF rx_oY Cm (rx_fok_d (by omega) (by omega) rx_fok_n) rx_tY23 (rx_mSF rx_oY Cm rx_fok_n rx_rY23 (rx_kY24 Cm (by omega) (by omega)))
theorem rx_kY22 (Cm : rx_mC p s m args c meth X D rx_yY rx_xY.2.1) (h1 : 2147483670 ≤ rx_b (rx_U X 1 [])) (h2 : rx_b (rx_U X 1 []) ≤ 2147483688) : rx_MW p l e s m args below meth c X D rx_yY rx_xY (.int (nI 0)) 25 rx_LY22 [] rx_wY22 0 0 := by
  by_cases q : rx_b (rx_U X 1 []) < 2147483671
  · exact rx_mEF rx_oY Cm (rx_fok_d (by omega) (by omega) rx_fok_n) rfl rx_eY22
  · exact rx_mSF rx_oY Cm (rx_fok_d (by omega) (by omega) rx_fok_n) rx_tY22 (rx_mSF rx_oY Cm rx_fok_n rx_rY22 (rx_kY23 Cm (by omega) (by omega)))
theorem rx_kY21 (Cm : rx_mC p s m args c meth X D rx_yY rx_xY.2.1) (h1 : 2147483669 ≤ rx_b (rx_U X 1 [])) (h2 : rx_b (rx_U X 1 []) ≤ 2147483688) : rx_MW p l e s m args below meth c X D rx_yY rx_xY (.int (nI 0)) 25 rx_LY21 [] rx_wY21 0 0 := by
  by_cases q : rx_b (rx_U X 1 []) < 2147483670
  · exact rx_mEF rx_oY Cm (rx_fok_d (by omega) (by omega) rx_fok_n) rfl rx_eY21
  · exact rx_mSF rx_oY Cm (rx_fok_d (by omega) (by omega) rx_fok_n) rx_tY21 (rx_mSF rx_oY Cm rx_fok_n rx_rY21 (rx_kY22 Cm (by omega) (by omega)))
theorem rx_kY20 (Cm : rx_mC p s m args c meth X D rx_yY rx_xY.2.1) (h1 : 2147483668 ≤ rx_b (rx_U X 1 [])) (h2 : rx_b (rx_U X 1 []) ≤ 2147483688) : rx_MW p l e s m args below meth c X D rx_yY rx_xY (.int (nI 0)) 25 rx_LY20 [] rx_wY20 0 0 := by
  by_cases q : rx_b (rx_U X 1 []) < 2147483669
  · exact rx_mEF rx_oY Cm (rx_fok_d (by omega) (by omega) rx_fok_n) rfl rx_eY20
  · exact rx_mSF rx_oY Cm (rx_fok_d (by omega) (by omega) rx_fok_n) rx_tY20 (rx_mSF rx_oY Cm rx_fok_n rx_rY20 (rx_kY21 Cm (by omega) (by omega)))
theorem rx_kY19 (Cm : rx_mC p s m args c meth X D rx_yY rx_xY.2.1) (h1 : 2147483667 ≤ rx_b (rx_U X 1 [])) (h2 : rx_b (rx_U X 1 []) ≤ 2147483688) : rx_MW p l e s m args below meth c X D rx_yY rx_xY (.int (nI 0)) 25 rx_LY19 [] rx_wY19 0 0 := by
  by_cases q : rx_b (rx_U X 1 []) < 2147483668
  · exact rx_mEF rx_oY Cm (rx_fok_d (by omega) (by omega) rx_fok_n) rfl rx_eY19
  · exact rx_mSF rx_oY Cm (rx_fok_d (by omega) (by omega) rx_fok_n) rx_tY19 (rx_mSF rx_oY Cm rx_fok_n rx_rY19 (rx_kY20 Cm (by omega) (by omega)))
theorem rx_kY18 (Cm : rx_mC p s m args c meth X D rx_yY rx_xY.2.1) (h1 : 2147483666 ≤ rx_b (rx_U X 1 [])) (h2 : rx_b (rx_U X 1 []) ≤ 2147483688) : rx_MW p l e s m args below meth c X D rx_yY rx_xY (.int (nI 0)) 25 rx_LY18 [] rx_wY18 0 0 := by
  by_cases q : rx_b (rx_U X 1 []) < 2147483667
  · exact rx_mEF rx_oY Cm (rx_fok_d (by omega) (by omega) rx_fok_n) rfl rx_eY18
  · exact rx_mSF rx_oY Cm (rx_fok_d (by omega) (by omega) rx_fok_n) rx_tY18 (rx_mSF rx_oY Cm rx_fok_n rx_rY18 (rx_kY19 Cm (by omega) (by omega)))
theorem rx_kY17 (Cm : rx_mC p s m args c meth X D rx_yY rx_xY.2.1) (h1 : 2147483665 ≤ rx_b (rx_U X 1 [])) (h2 : rx_b (rx_U X 1 []) ≤ 2147483688) : rx_MW p l e s m args below meth c X D rx_yY rx_xY (.int (nI 0)) 25 rx_LY17 [] rx_wY17 0 0 := by
  by_cases q : rx_b (rx_U X 1 []) < 2147483666
  · exact rx_mEF rx_oY Cm (rx_fok_d (by omega) (by omega) rx_fok_n) rfl rx_eY17
  · exact rx_mSF rx_oY Cm (rx_fok_d (by omega) (by omega) rx_fok_n) rx_tY17 (rx_mSF rx_oY Cm rx_fok_n rx_rY17 (rx_kY18 Cm (by omega) (by omega)))
theorem rx_kY16 (Cm : rx_mC p s m args c meth X D rx_yY rx_xY.2.1) (h1 : 2147483664 ≤ rx_b (rx_U X 1 [])) (h2 : rx_b (rx_U X 1 []) ≤ 2147483688) : rx_MW p l e s m args below meth c X D rx_yY rx_xY (.int (nI 0)) 25 rx_LY16 [] rx_wY16 0 0 := by
  by_cases q : rx_b (rx_U X 1 []) < 2147483665
  · exact rx_mEF rx_oY Cm (rx_fok_d (by omega) (by omega) rx_fok_n) rfl rx_eY16
  · exact rx_mSF rx_oY Cm (rx_fok_d (by omega) (by omega) rx_fok_n) rx_tY16 (rx_mSF rx_oY Cm rx_fok_n rx_rY16 (rx_kY17 Cm (by omega) (by omega)))
theorem rx_kY15 (Cm : rx_mC p s m args c meth X D rx_yY rx_xY.2.1) (h1 : 2147483663 ≤ rx_b (rx_U X 1 [])) (h2 : rx_b (rx_U X 1 []) ≤ 2147483688) : rx_MW p l e s m args below meth c X D rx_yY rx_xY (.int (nI 0)) 25 rx_LY15 [] rx_wY15 0 0 := by
  by_cases q : rx_b (rx_U X 1 []) < 2147483664
  · exact rx_mEF rx_oY Cm (rx_fok_d (by omega) (by omega) rx_fok_n) rfl rx_eY15
  · exact rx_mSF rx_oY Cm (rx_fok_d (by omega) (by omega) rx_fok_n) rx_tY15 (rx_mSF rx_oY Cm rx_fok_n rx_rY15 (rx_kY16 Cm (by omega) (by omega)))
theorem rx_kY14 (Cm : rx_mC p s m args c meth X D rx_yY rx_xY.2.1) (h1 : 2147483662 ≤ rx_b (rx_U X 1 [])) (h2 : rx_b (rx_U X 1 []) ≤ 2147483688) : rx_MW p l e s m args below meth c X D rx_yY rx_xY (.int (nI 0)) 25 rx_LY14 [] rx_wY14 0 0 := by
  by_cases q : rx_b (rx_U X 1 []) < 2147483663
  · exact rx_mEF rx_oY Cm (rx_fok_d (by omega) (by omega) rx_fok_n) rfl rx_eY14
  · exact rx_mSF rx_oY Cm (rx_fok_d (by omega) (by omega) rx_fok_n) rx_tY14 (rx_mSF rx_oY Cm rx_fok_n rx_rY14 (rx_kY15 Cm (by omega) (by omega)))
theorem rx_kY13 (Cm : rx_mC p s m args c meth X D rx_yY rx_xY.2.1) (h1 : 2147483661 ≤ rx_b (rx_U X 1 [])) (h2 : rx_b (rx_U X 1 []) ≤ 2147483688) : rx_MW p l e s m args below meth c X D rx_yY rx_xY (.int (nI 0)) 25 rx_LY13 [] rx_wY13 0 0 := by
  by_cases q : rx_b (rx_U X 1 []) < 2147483662
  · exact rx_mEF rx_oY Cm (rx_fok_d (by omega) (by omega) rx_fok_n) rfl rx_eY13
  · exact rx_mSF rx_oY Cm (rx_fok_d (by omega) (by omega) rx_fok_n) rx_tY13 (rx_mSF rx_oY Cm rx_fok_n rx_rY13 (rx_kY14 Cm (by omega) (by omega)))
theorem rx_kY12 (Cm : rx_mC p s m args c meth X D rx_yY rx_xY.2.1) (h1 : 2147483660 ≤ rx_b (rx_U X 1 [])) (h2 : rx_b (rx_U X 1 []) ≤ 2147483688) : rx_MW p l e s m args below meth c X D rx_yY rx_xY (.int (nI 0)) 25 rx_LY12 [] rx_wY12 0 0 := by
  by_cases q : rx_b (rx_U X 1 []) < 2147483661
  · exact rx_mEF rx_oY Cm (rx_fok_d (by omega) (by omega) rx_fok_n) rfl rx_eY12
  · exact rx_mSF rx_oY Cm (rx_fok_d (by omega) (by omega) rx_fok_n) rx_tY12 (rx_mSF rx_oY Cm rx_fok_n rx_rY12 (rx_kY13 Cm (by omega) (by omega)))
theorem rx_kY11 (Cm : rx_mC p s m args c meth X D rx_yY rx_xY.2.1) (h1 : 2147483659 ≤ rx_b (rx_U X 1 [])) (h2 : rx_b (rx_U X 1 []) ≤ 2147483688) : rx_MW p l e s m args below meth c X D rx_yY rx_xY (.int (nI 0)) 25 rx_LY11 [] rx_wY11 0 0 := by
  by_cases q : rx_b (rx_U X 1 []) < 2147483660
  · exact rx_mEF rx_oY Cm (rx_fok_d (by omega) (by omega) rx_fok_n) rfl rx_eY11
  · exact rx_mSF rx_oY Cm (rx_fok_d (by omega) (by omega) rx_fok_n) rx_tY11 (rx_mSF rx_oY Cm rx_fok_n rx_rY11 (rx_kY12 Cm (by omega) (by omega)))
theorem rx_kY10 (Cm : rx_mC p s m args c meth X D rx_yY rx_xY.2.1) (h1 : 2147483658 ≤ rx_b (rx_U X 1 [])) (h2 : rx_b (rx_U X 1 []) ≤ 2147483688) : rx_MW p l e s m args below meth c X D rx_yY rx_xY (.int (nI 0)) 25 rx_LY10 [] rx_wY10 0 0 := by
  by_cases q : rx_b (rx_U X 1 []) < 2147483659
  · exact rx_mEF rx_oY Cm (rx_fok_d (by omega) (by omega) rx_fok_n) rfl rx_eY10
  · exact rx_mSF rx_oY Cm (rx_fok_d (by omega) (by omega) rx_fok_n) rx_tY10 (rx_mSF rx_oY Cm rx_fok_n rx_rY10 (rx_kY11 Cm (by omega) (by omega)))
theorem rx_kY9 (Cm : rx_mC p s m args c meth X D rx_yY rx_xY.2.1) (h1 : 2147483657 ≤ rx_b (rx_U X 1 [])) (h2 : rx_b (rx_U X 1 []) ≤ 2147483688) : rx_MW p l e s m args below meth c X D rx_yY rx_xY (.int (nI 0)) 25 rx_LY9 [] rx_wY9 0 0 := by
  by_cases q : rx_b (rx_U X 1 []) < 2147483658
  · exact rx_mEF rx_oY Cm (rx_fok_d (by omega) (by omega) rx_fok_n) rfl rx_eY9
  · exact rx_mSF rx_oY Cm (rx_fok_d (by omega) (by omega) rx_fok_n) rx_tY9 (rx_mSF rx_oY Cm rx_fok_n rx_rY9 (rx_kY10 Cm (by omega) (by omega)))
theorem rx_kY8 (Cm : rx_mC p s m args c meth X D rx_yY rx_xY.2.1) (h1 : 2147483656 ≤ rx_b (rx_U X 1 [])) (h2 : rx_b (rx_U X 1 []) ≤ 2147483688) : rx_MW p l e s m args below meth c X D rx_yY rx_xY (.int (nI 0)) 25 rx_LY8 [] rx_wY8 0 0 := by
  by_cases q : rx_b (rx_U X 1 []) < 2147483657
  · exact rx_mEF rx_oY Cm (rx_fok_d (by omega) (by omega) rx_fok_n) rfl rx_eY8
  · exact rx_mSF rx_oY Cm (rx_fok_d (by omega) (by omega) rx_fok_n) rx_tY8 (rx_mSF rx_oY Cm rx_fok_n rx_rY8 (rx_kY9 Cm (by omega) (by omega)))
theorem rx_kY7 (Cm : rx_mC p s m args c meth X D rx_yY rx_xY.2.1) (h1 : 2147483655 ≤ rx_b (rx_U X 1 [])) (h2 : rx_b (rx_U X 1 []) ≤ 2147483688) : rx_MW p l e s m args below meth c X D rx_yY rx_xY (.int (nI 0)) 25 rx_LY7 [] rx_wY7 0 0 := by
  by_cases q : rx_b (rx_U X 1 []) < 2147483656
  · exact rx_mEF rx_oY Cm (rx_fok_d (by omega) (by omega) rx_fok_n) rfl rx_eY7
  · exact rx_mSF rx_oY Cm (rx_fok_d (by omega) (by omega) rx_fok_n) rx_tY7 (rx_mSF rx_oY Cm rx_fok_n rx_rY7 (rx_kY8 Cm (by omega) (by omega)))
theorem rx_kY6 (Cm : rx_mC p s m args c meth X D rx_yY rx_xY.2.1) (h1 : 2147483654 ≤ rx_b (rx_U X 1 [])) (h2 : rx_b (rx_U X 1 []) ≤ 2147483688) : rx_MW p l e s m args below meth c X D rx_yY rx_xY (.int (nI 0)) 25 rx_LY6 [] rx_wY6 0 0 := by
  by_cases q : rx_b (rx_U X 1 []) < 2147483655
  · exact rx_mEF rx_oY Cm (rx_fok_d (by omega) (by omega) rx_fok_n) rfl rx_eY6
  · exact rx_mSF rx_oY Cm (rx_fok_d (by omega) (by omega) rx_fok_n) rx_tY6 (rx_mSF rx_oY Cm rx_fok_n rx_rY6 (rx_kY7 Cm (by omega) (by omega)))
theorem rx_kY5 (Cm : rx_mC p s m args c meth X D rx_yY rx_xY.2.1) (h1 : 2147483653 ≤ rx_b (rx_U X 1 [])) (h2 : rx_b (rx_U X 1 []) ≤ 2147483688) : rx_MW p l e s m args below meth c X D rx_yY rx_xY (.int (nI 0)) 25 rx_LY5 [] rx_wY5 0 0 := by
  by_cases q : rx_b (rx_U X 1 []) < 2147483654
  · exact rx_mEF rx_oY Cm (rx_fok_d (by omega) (by omega) rx_fok_n) rfl rx_eY5
  · exact rx_mSF rx_oY Cm (rx_fok_d (by omega) (by omega) rx_fok_n) rx_tY5 (rx_mSF rx_oY Cm rx_fok_n rx_rY5 (rx_kY6 Cm (by omega) (by omega)))
theorem rx_kY4 (Cm : rx_mC p s m args c meth X D rx_yY rx_xY.2.1) (h1 : 2147483652 ≤ rx_b (rx_U X 1 [])) (h2 : rx_b (rx_U X 1 []) ≤ 2147483688) : rx_MW p l e s m args below meth c X D rx_yY rx_xY (.int (nI 0)) 25 rx_LY4 [] rx_wY4 0 0 := by
  by_cases q : rx_b (rx_U X 1 []) < 2147483653
  · exact rx_mEF rx_oY Cm (rx_fok_d (by omega) (by omega) rx_fok_n) rfl rx_eY4
  · exact rx_mSF rx_oY Cm (rx_fok_d (by omega) (by omega) rx_fok_n) rx_tY4 (rx_mSF rx_oY Cm rx_fok_n rx_rY4 (rx_kY5 Cm (by omega) (by omega)))
theorem rx_kY3 (Cm : rx_mC p s m args c meth X D rx_yY rx_xY.2.1) (h1 : 2147483651 ≤ rx_b (rx_U X 1 [])) (h2 : rx_b (rx_U X 1 []) ≤ 2147483688) : rx_MW p l e s m args below meth c X D rx_yY rx_xY (.int (nI 0)) 25 rx_LY3 [] rx_wY3 0 0 := by
  by_cases q : rx_b (rx_U X 1 []) < 2147483652
  · exact rx_mEF rx_oY Cm (rx_fok_d (by omega) (by omega) rx_fok_n) rfl rx_eY3
  · exact rx_mSF rx_oY Cm (rx_fok_d (by omega) (by omega) rx_fok_n) rx_tY3 (rx_mSF rx_oY Cm rx_fok_n rx_rY3 (rx_kY4 Cm (by omega) (by omega)))
theorem rx_kY2 (Cm : rx_mC p s m args c meth X D rx_yY rx_xY.2.1) (h1 : 2147483650 ≤ rx_b (rx_U X 1 [])) (h2 : rx_b (rx_U X 1 []) ≤ 2147483688) : rx_MW p l e s m args below meth c X D rx_yY rx_xY (.int (nI 0)) 25 rx_LY2 [] rx_wY2 0 0 := by
  by_cases q : rx_b (rx_U X 1 []) < 2147483651
  · exact rx_mEF rx_oY Cm (rx_fok_d (by omega) (by omega) rx_fok_n) rfl rx_eY2
  · exact rx_mSF rx_oY Cm (rx_fok_d (by omega) (by omega) rx_fok_n) rx_tY2 (rx_mSF rx_oY Cm rx_fok_n rx_rY2 (rx_kY3 Cm (by omega) (by omega)))
theorem rx_kY1 (Cm : rx_mC p s m args c meth X D rx_yY rx_xY.2.1) (h1 : 2147483649 ≤ rx_b (rx_U X 1 [])) (h2 : rx_b (rx_U X 1 []) ≤ 2147483688) : rx_MW p l e s m args below meth c X D rx_yY rx_xY (.int (nI 0)) 25 rx_LY1 [] rx_wY1 0 0 := by
  by_cases q : rx_b (rx_U X 1 []) < 2147483650
  · exact rx_mEF rx_oY Cm (rx_fok_d (by omega) (by omega) rx_fok_n) rfl rx_eY1
  · exact rx_mSF rx_oY Cm (rx_fok_d (by omega) (by omega) rx_fok_n) rx_tY1 (rx_mSF rx_oY Cm rx_fok_n rx_rY1 (rx_kY2 Cm (by omega) (by omega)))
theorem rx_kY0 (Cm : rx_mC p s m args c meth X D rx_yY rx_xY.2.1) (h1 : 2147483649 ≤ rx_b (rx_U X 1 [])) (h2 : rx_b (rx_U X 1 []) ≤ 2147483688) : rx_MW p l e s m args below meth c X D rx_yY rx_xY (.int (nI 0)) 25 rx_LY0 [] rx_wY0 0 0 := rx_mSF rx_oY Cm (rx_fok_d (by omega) (by omega) rx_fok_n) rx_tY0 (rx_mSF rx_oY Cm rx_fok_n rx_rY0 (rx_kY1 Cm (by omega) (by omega)))
end RXY
set_option maxRecDepth 1000000 in
theorem rx_zY : rx_isE (rx_loop (rx_G1 [] 7) rx_mL 4 600000 7302250 (rx_cap rx_tb) (rx_ex (rx_G1 [] 7) rx_tb 100 0) 99999999 100 (rx_find rx_mL (836 + 3)) rx_L0 [.inl (.inl 0), .inl (.inl 0)] [] 221 26609) = true := by decide +kernel
section RXcY
variable {p : Program} {l : Launch} {e : Env} {s : State} {m : MethodId} {below : List Frame} {meth : Method} {c : Code} {b : Nat} {xs : Nat → Int32} {X : rx_X} {D : va_G}
theorem rx_oneY (C0 : rx_lawC p s m meth c b 6 xs X D) {k : Nat} {F : rx_F} (hF : rx_fok X F) (hk : 1 ≤ k ∧ k ≤ 40) (hn : rx_b (rx_U X 1 []) = k + 2147483648) (h : rx_isM (rx_lawRF F 7 836 (rx_find rx_mL 18) rx_L0 [] rx_w0 221 26609) 836 rx_L0 [.inl (.inl k), .inr (.inr (.inl (some 170))), .inl (.inl 0)] 221 26609 = true) (hent : rx_is (rx_mRF rx_xY [] 25 0 (rx_args [.inr (.inr (.inl (some 0))), .inl (.inl k)] 0) [] rx_wm) 25 (rx_KY k) [] rx_wY0 0 0 = true) : rx_LW p l e s m below meth c b X D 18 rx_L0 [] rx_w0 221 26609 := by
  refine rx_hv C0 (Y := rx_yY) (x := rx_xY) (as' := [.inl (.inl k)]) (idx := 114) (n := 1) rx_oY rfl rfl hF (by rw [← rx_lawRF_eq]; exact h) (by decide +kernel) (by decide) (by decide) (by decide) ⟨_, _, rfl⟩ (rx_wd_ok (p := 275) (by decide +kernel)) (rx_wd_ok (p := 2255) (by decide +kernel)) (rx_wd_ok (p := 2256) (by decide +kernel)) (rx_wd_ok (p := 2254) (by decide +kernel)) (by decide +kernel) rfl (by show (2 : Nat) ≤ 4; decide) (fun p e s m args below meth c Cm => ?_) rx_zY
  have hn' : rx_b (rx_U (rx_Xu X 170) 1 []) = k + 2147483648 := by rw [rx_U_up]; exact hn
  refine rx_mSF rx_oY Cm rx_fok_n hent (rx_mL' (L' := rx_LY0) ?_ (rx_kY0 Cm (by omega) (by omega)))
  unfold rx_LY0 rx_KY rx_Lm
  simp only [List.map_cons, List.map_nil, rx_nK (by omega) hn']
set_option maxRecDepth 1000000 in
theorem rx_r23_0 : rx_isE (rx_lawRF [((0, [(0, 63)]), 2147483671, 2147483671), ((1, []), 0, 2147483648)] 7 99999999 (rx_find rx_mL 18) rx_L0 [] rx_w0 221 26609) = true := by decide +kernel
set_option maxRecDepth 1000000 in
theorem rx_r23_1 : rx_isE (rx_lawRF [((0, [(0, 63)]), 2147483671, 2147483671), ((1, []), 2147483689, 4294967295)] 7 99999999 (rx_find rx_mL 18) rx_L0 [] rx_w0 221 26609) = true := by decide +kernel
theorem rx_case23 (C0 : rx_lawC p s m meth c b 6 xs X D) (h0 : 2147483671 ≤ rx_b (rx_U X 0 [(0, 63)]) ∧ rx_b (rx_U X 0 [(0, 63)]) ≤ 2147483671) : rx_LW p l e s m below meth c b X D 18 rx_L0 [] rx_w0 221 26609 := by
  have l0 := rx_b_lt (rx_U X 1 [])
  by_cases q0 : rx_b (rx_U X 1 []) < 2147483649
  · exact rx_lawEF C0 (Or.inr rfl) (rx_fok_d h0.1 h0.2 (rx_fok_d (by omega) (by omega) rx_fok_n)) rx_r23_0
  · by_cases q1 : rx_b (rx_U X 1 []) < 2147483689
    · by_cases q2 : rx_b (rx_U X 1 []) < 2147483669
      · by_cases q3 : rx_b (rx_U X 1 []) < 2147483659
        · by_cases q4 : rx_b (rx_U X 1 []) < 2147483654
          · by_cases q5 : rx_b (rx_U X 1 []) < 2147483651
            · by_cases q6 : rx_b (rx_U X 1 []) < 2147483650
              · exact rx_oneY C0 (rx_fok_d h0.1 h0.2 (rx_fok_d (by omega) (by omega) rx_fok_n)) ⟨by decide, by decide⟩ (by omega) rx_hY1 rx_nY1
              · exact rx_oneY C0 (rx_fok_d h0.1 h0.2 (rx_fok_d (by omega) (by omega) rx_fok_n)) ⟨by decide, by decide⟩ (by omega) rx_hY2 rx_nY2
            · by_cases q6 : rx_b (rx_U X 1 []) < 2147483652
              · exact rx_oneY C0 (rx_fok_d h0.1 h0.2 (rx_fok_d (by omega) (by omega) rx_fok_n)) ⟨by decide, by decide⟩ (by omega) rx_hY3 rx_nY3
              · by_cases q7 : rx_b (rx_U X 1 []) < 2147483653
                · exact rx_oneY C0 (rx_fok_d h0.1 h0.2 (rx_fok_d (by omega) (by omega) rx_fok_n)) ⟨by decide, by decide⟩ (by omega) rx_hY4 rx_nY4
                · exact rx_oneY C0 (rx_fok_d h0.1 h0.2 (rx_fok_d (by omega) (by omega) rx_fok_n)) ⟨by decide, by decide⟩ (by omega) rx_hY5 rx_nY5
          · by_cases q5 : rx_b (rx_U X 1 []) < 2147483656
            · by_cases q6 : rx_b (rx_U X 1 []) < 2147483655
              · exact rx_oneY C0 (rx_fok_d h0.1 h0.2 (rx_fok_d (by omega) (by omega) rx_fok_n)) ⟨by decide, by decide⟩ (by omega) rx_hY6 rx_nY6
              · exact rx_oneY C0 (rx_fok_d h0.1 h0.2 (rx_fok_d (by omega) (by omega) rx_fok_n)) ⟨by decide, by decide⟩ (by omega) rx_hY7 rx_nY7
            · by_cases q6 : rx_b (rx_U X 1 []) < 2147483657
              · exact rx_oneY C0 (rx_fok_d h0.1 h0.2 (rx_fok_d (by omega) (by omega) rx_fok_n)) ⟨by decide, by decide⟩ (by omega) rx_hY8 rx_nY8
              · by_cases q7 : rx_b (rx_U X 1 []) < 2147483658
                · exact rx_oneY C0 (rx_fok_d h0.1 h0.2 (rx_fok_d (by omega) (by omega) rx_fok_n)) ⟨by decide, by decide⟩ (by omega) rx_hY9 rx_nY9
                · exact rx_oneY C0 (rx_fok_d h0.1 h0.2 (rx_fok_d (by omega) (by omega) rx_fok_n)) ⟨by decide, by decide⟩ (by omega) rx_hY10 rx_nY10
        · by_cases q4 : rx_b (rx_U X 1 []) < 2147483664
          · by_cases q5 : rx_b (rx_U X 1 []) < 2147483661
            · by_cases q6 : rx_b (rx_U X 1 []) < 2147483660
              · exact rx_oneY C0 (rx_fok_d h0.1 h0.2 (rx_fok_d (by omega) (by omega) rx_fok_n)) ⟨by decide, by decide⟩ (by omega) rx_hY11 rx_nY11
              · exact rx_oneY C0 (rx_fok_d h0.1 h0.2 (rx_fok_d (by omega) (by omega) rx_fok_n)) ⟨by decide, by decide⟩ (by omega) rx_hY12 rx_nY12
            · by_cases q6 : rx_b (rx_U X 1 []) < 2147483662
              · exact rx_oneY C0 (rx_fok_d h0.1 h0.2 (rx_fok_d (by omega) (by omega) rx_fok_n)) ⟨by decide, by decide⟩ (by omega) rx_hY13 rx_nY13
              · by_cases q7 : rx_b (rx_U X 1 []) < 2147483663
                · exact rx_oneY C0 (rx_fok_d h0.1 h0.2 (rx_fok_d (by omega) (by omega) rx_fok_n)) ⟨by decide, by decide⟩ (by omega) rx_hY14 rx_nY14
                · exact rx_oneY C0 (rx_fok_d h0.1 h0.2 (rx_fok_d (by omega) (by omega) rx_fok_n)) ⟨by decide, by decide⟩ (by omega) rx_hY15 rx_nY15
          · by_cases q5 : rx_b (rx_U X 1 []) < 2147483666
            · by_cases q6 : rx_b (rx_U X 1 []) < 2147483665
              · exact rx_oneY C0 (rx_fok_d h0.1 h0.2 (rx_fok_d (by omega) (by omega) rx_fok_n)) ⟨by decide, by decide⟩ (by omega) rx_hY16 rx_nY16
              · exact rx_oneY C0 (rx_fok_d h0.1 h0.2 (rx_fok_d (by omega) (by omega) rx_fok_n)) ⟨by decide, by decide⟩ (by omega) rx_hY17 rx_nY17
            · by_cases q6 : rx_b (rx_U X 1 []) < 2147483667
              · exact rx_oneY C0 (rx_fok_d h0.1 h0.2 (rx_fok_d (by omega) (by omega) rx_fok_n)) ⟨by decide, by decide⟩ (by omega) rx_hY18 rx_nY18
              · by_cases q7 : rx_b (rx_U X 1 []) < 2147483668
                · exact rx_oneY C0 (rx_fok_d h0.1 h0.2 (rx_fok_d (by omega) (by omega) rx_fok_n)) ⟨by decide, by decide⟩ (by omega) rx_hY19 rx_nY19
                · exact rx_oneY C0 (rx_fok_d h0.1 h0.2 (rx_fok_d (by omega) (by omega) rx_fok_n)) ⟨by decide, by decide⟩ (by omega) rx_hY20 rx_nY20
      · by_cases q3 : rx_b (rx_U X 1 []) < 2147483679
        · by_cases q4 : rx_b (rx_U X 1 []) < 2147483674
          · by_cases q5 : rx_b (rx_U X 1 []) < 2147483671
            · by_cases q6 : rx_b (rx_U X 1 []) < 2147483670
              · exact rx_oneY C0 (rx_fok_d h0.1 h0.2 (rx_fok_d (by omega) (by omega) rx_fok_n)) ⟨by decide, by decide⟩ (by omega) rx_hY21 rx_nY21
              · exact rx_oneY C0 (rx_fok_d h0.1 h0.2 (rx_fok_d (by omega) (by omega) rx_fok_n)) ⟨by decide, by decide⟩ (by omega) rx_hY22 rx_nY22
            · by_cases q6 : rx_b (rx_U X 1 []) < 2147483672
              · exact rx_oneY C0 (rx_fok_d h0.1 h0.2 (rx_fok_d (by omega) (by omega) rx_fok_n)) ⟨by decide, by decide⟩ (by omega) rx_hY23 rx_nY23
              · by_cases q7 : rx_b (rx_U X 1 []) < 2147483673
                · exact rx_oneY C0 (rx_fok_d h0.1 h0.2 (rx_fok_d (by omega) (by omega) rx_fok_n)) ⟨by decide, by decide⟩ (by omega) rx_hY24 rx_nY24
                · exact rx_oneY C0 (rx_fok_d h0.1 h0.2 (rx_fok_d (by omega) (by omega) rx_fok_n)) ⟨by decide, by decide⟩ (by omega) rx_hY25 rx_nY25
          · by_cases q5 : rx_b (rx_U X 1 []) < 2147483676
            · by_cases q6 : rx_b (rx_U X 1 []) < 2147483675
              · exact rx_oneY C0 (rx_fok_d h0.1 h0.2 (rx_fok_d (by omega) (by omega) rx_fok_n)) ⟨by decide, by decide⟩ (by omega) rx_hY26 rx_nY26
              · exact rx_oneY C0 (rx_fok_d h0.1 h0.2 (rx_fok_d (by omega) (by omega) rx_fok_n)) ⟨by decide, by decide⟩ (by omega) rx_hY27 rx_nY27
            · by_cases q6 : rx_b (rx_U X 1 []) < 2147483677
              · exact rx_oneY C0 (rx_fok_d h0.1 h0.2 (rx_fok_d (by omega) (by omega) rx_fok_n)) ⟨by decide, by decide⟩ (by omega) rx_hY28 rx_nY28
              · by_cases q7 : rx_b (rx_U X 1 []) < 2147483678
                · exact rx_oneY C0 (rx_fok_d h0.1 h0.2 (rx_fok_d (by omega) (by omega) rx_fok_n)) ⟨by decide, by decide⟩ (by omega) rx_hY29 rx_nY29
                · exact rx_oneY C0 (rx_fok_d h0.1 h0.2 (rx_fok_d (by omega) (by omega) rx_fok_n)) ⟨by decide, by decide⟩ (by omega) rx_hY30 rx_nY30
        · by_cases q4 : rx_b (rx_U X 1 []) < 2147483684
          · by_cases q5 : rx_b (rx_U X 1 []) < 2147483681
            · by_cases q6 : rx_b (rx_U X 1 []) < 2147483680
              · exact rx_oneY C0 (rx_fok_d h0.1 h0.2 (rx_fok_d (by omega) (by omega) rx_fok_n)) ⟨by decide, by decide⟩ (by omega) rx_hY31 rx_nY31
              · exact rx_oneY C0 (rx_fok_d h0.1 h0.2 (rx_fok_d (by omega) (by omega) rx_fok_n)) ⟨by decide, by decide⟩ (by omega) rx_hY32 rx_nY32
            · by_cases q6 : rx_b (rx_U X 1 []) < 2147483682
              · exact rx_oneY C0 (rx_fok_d h0.1 h0.2 (rx_fok_d (by omega) (by omega) rx_fok_n)) ⟨by decide, by decide⟩ (by omega) rx_hY33 rx_nY33
              · by_cases q7 : rx_b (rx_U X 1 []) < 2147483683
                · exact rx_oneY C0 (rx_fok_d h0.1 h0.2 (rx_fok_d (by omega) (by omega) rx_fok_n)) ⟨by decide, by decide⟩ (by omega) rx_hY34 rx_nY34
                · exact rx_oneY C0 (rx_fok_d h0.1 h0.2 (rx_fok_d (by omega) (by omega) rx_fok_n)) ⟨by decide, by decide⟩ (by omega) rx_hY35 rx_nY35
          · by_cases q5 : rx_b (rx_U X 1 []) < 2147483686
            · by_cases q6 : rx_b (rx_U X 1 []) < 2147483685
              · exact rx_oneY C0 (rx_fok_d h0.1 h0.2 (rx_fok_d (by omega) (by omega) rx_fok_n)) ⟨by decide, by decide⟩ (by omega) rx_hY36 rx_nY36
              · exact rx_oneY C0 (rx_fok_d h0.1 h0.2 (rx_fok_d (by omega) (by omega) rx_fok_n)) ⟨by decide, by decide⟩ (by omega) rx_hY37 rx_nY37
            · by_cases q6 : rx_b (rx_U X 1 []) < 2147483687
              · exact rx_oneY C0 (rx_fok_d h0.1 h0.2 (rx_fok_d (by omega) (by omega) rx_fok_n)) ⟨by decide, by decide⟩ (by omega) rx_hY38 rx_nY38
              · by_cases q7 : rx_b (rx_U X 1 []) < 2147483688
                · exact rx_oneY C0 (rx_fok_d h0.1 h0.2 (rx_fok_d (by omega) (by omega) rx_fok_n)) ⟨by decide, by decide⟩ (by omega) rx_hY39 rx_nY39
                · exact rx_oneY C0 (rx_fok_d h0.1 h0.2 (rx_fok_d (by omega) (by omega) rx_fok_n)) ⟨by decide, by decide⟩ (by omega) rx_hY40 rx_nY40
    · exact rx_lawEF C0 (Or.inr rfl) (rx_fok_d h0.1 h0.2 (rx_fok_d (by omega) (by omega) rx_fok_n)) rx_r23_1
end RXcY
