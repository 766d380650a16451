/-! printed by wip/p1/heavy.py: the chain of chance -/
section RXZ
variable {p : Program} {l : Launch} {e : Env} {s : State} {m : MethodId} {args : Array Value} {below : List Frame} {meth : Method} {c : Code} {X : rx_X} {D : va_G}
theorem rx_kZ40 (Cm : rx_mC p s m args c meth X D rx_yZ rx_xZ.2.1) (h1 : 2147483688 ≤ rx_b (rx_U X 1 [])) (h2 : rx_b (rx_U X 1 []) ≤ 2147483688) : rx_MW p l e s m args below meth c X D rx_yZ rx_xZ (.int (nI 0)) 25 rx_LZ40 [] rx_wZ40 0 0 := rx_mEF rx_oZ Cm (rx_fok_d (by omega) (by omega) rx_fok_n) rfl rx_eZ40
theorem rx_kZ39 (Cm : rx_mC p s m args c meth X D rx_yZ rx_xZ.2.1) (h1 : 2147483687 ≤ rx_b (rx_U X 1 [])) (h2 : rx_b (rx_U X 1 []) ≤ 2147483688) : rx_MW p l e s m args below meth c X D rx_yZ rx_xZ (.int (nI 0)) 25 rx_LZ39 [] rx_wZ39 0 0 := by
  by_cases q : rx_b (rx_U X 1 []) < 2147483688
  · exact rx_mEF rx_oZ Cm (rx_fok_d (by omega) (by omega) rx_fok_n) rfl rx_eZ39
  · exact rx_mSF rx_oZ Cm (rx_fok_d (by omega) (by omega) rx_fok_n) rx_tZ39 (rx_mSF rx_oZ Cm rx_fok_n rx_rZ39 (rx_kZ40 Cm (by omega) (by omega)))
theorem rx_kZ38 (Cm : rx_mC p s m args c meth X D rx_yZ rx_xZ.2.1) (h1 : 2147483686 ≤ rx_b (rx_U X 1 [])) (h2 : rx_b (rx_U X 1 []) ≤ 2147483688) : rx_MW p l e s m args below meth c X D rx_yZ rx_xZ (.int (nI 0)) 25 rx_LZ38 [] rx_wZ38 0 0 := by
  by_cases q : rx_b (rx_U X 1 []) < 2147483687
  · exact rx_mEF rx_oZ Cm (rx_fok_d (by omega) (by omega) rx_fok_n) rfl rx_eZ38
  · exact rx_mSF rx_oZ Cm (rx_fok_d (by omega) (by omega) rx_fok_n) rx_tZ38 (rx_mSF rx_oZ Cm rx_fok_n rx_rZ38 (rx_kZ39 Cm (by omega) (by omega)))
theorem rx_kZ37 (Cm : rx_mC p s m args c meth X D rx_yZ rx_xZ.2.1) (h1 : 2147483685 ≤ rx_b (rx_U X 1 [])) (h2 : rx_b (rx_U X 1 []) ≤ 2147483688) : rx_MW p l e s m args below meth c X D rx_yZ rx_xZ (.int (nI 0)) 25 rx_LZ37 [] rx_wZ37 0 0 := by
  by_cases q : rx_b (rx_U X 1 []) < 2147483686
  · exact rx_mEF rx_oZ Cm (rx_fok_d (by omega) (by omega) rx_fok_n) rfl rx_eZ37
  · exact rx_mSF rx_oZ Cm (rx_fok_d (by omega) (by omega) rx_fok_n) rx_tZ37 (rx_mSF rx_oZ Cm rx_fok_n rx_rZ37 (rx_kZ38 Cm (by omega) (by omega)))
theorem rx_kZ36 (Cm : rx_mC p s m args c meth X D rx_yZ rx_xZ.2.1) (h1 : 2147483684 ≤ rx_b (rx_U X 1 [])) (h2 : rx_b (rx_U X 1 []) ≤ 2147483688) : rx_MW p l e s m args below meth c X D rx_yZ rx_xZ (.int (nI 0)) 25 rx_LZ36 [] rx_wZ36 0 0 := by
  by_cases q : rx_b (rx_U X 1 []) < 2147483685
  · exact rx_mEF rx_oZ Cm (rx_fok_d (by omega) (by omega) rx_fok_n) rfl rx_eZ36
  · exact rx_mSF rx_oZ Cm (rx_fok_d (by omega) (by omega) rx_fok_n) rx_tZ36 (rx_mSF rx_oZ Cm rx_fok_n rx_rZ36 (rx_kZ37 Cm (by omega) (by omega)))
theorem rx_kZ35 (Cm : rx_mC p s m args c meth X D rx_yZ rx_xZ.2.1) (h1 : 2147483683 ≤ rx_b (rx_U X 1 [])) (h2 : rx_b (rx_U X 1 []) ≤ 2147483688) : rx_MW p l e s m args below meth c X D rx_yZ rx_xZ (.int (nI 0)) 25 rx_LZ35 [] rx_wZ35 0 0 := by
  by_cases q : rx_b (rx_U X 1 []) < 2147483684
  · exact rx_mEF rx_oZ Cm (rx_fok_d (by omega) (by omega) rx_fok_n) rfl rx_eZ35
  · exact rx_mSF rx_oZ Cm (rx_fok_d (by omega) (by omega) rx_fok_n) rx_tZ35 (rx_mSF rx_oZ Cm rx_fok_n rx_rZ35 (rx_kZ36 Cm (by omega) (by omega)))
theorem rx_kZ34 (Cm : rx_mC p s m args c meth X D rx_yZ rx_xZ.2.1) (h1 : 2147483682 ≤ rx_b (rx_U X 1 [])) (h2 : rx_b (rx_U X 1 []) ≤ 2147483688) : rx_MW p l e s m args below meth c X D rx_yZ rx_xZ (.int (nI 0)) 25 rx_LZ34 [] rx_wZ34 0 0 := by
  by_cases q : rx_b (rx_U X 1 []) < 2147483683
  · exact rx_mEF rx_oZ Cm (rx_fok_d (by omega) (by omega) rx_fok_n) rfl rx_eZ34
  · exact rx_mSF rx_oZ Cm (rx_fok_d (by omega) (by omega) rx_fok_n) rx_tZ34 (rx_mSF rx_oZ Cm rx_fok_n rx_rZ34 (rx_kZ35 Cm (by omega) (by omega)))
theorem rx_kZ33 (Cm : rx_mC p s m args c meth X D rx_yZ rx_xZ.2.1) (h1 : 2147483681 ≤ rx_b (rx_U X 1 [])) (h2 : rx_b (rx_U X 1 []) ≤ 2147483688) : rx_MW p l e s m args below meth c X D rx_yZ rx_xZ (.int (nI 0)) 25 rx_LZ33 [] rx_wZ33 0 0 := by
  by_cases q : rx_b (rx_U X 1 []) < 2147483682
  · exact rx_mEF rx_oZ Cm (rx_fok_d (by omega) (by omega) rx_fok_n) rfl rx_eZ33
  · exact rx_mSF rx_oZ Cm (rx_fok_d (by omega) (by omega) rx_fok_n) rx_tZ33 (rx_mSF rx_oZ Cm rx_fok_n rx_rZ33 (rx_kZ34 Cm (by omega) (by omega)))
theorem rx_kZ32 (Cm : rx_mC p s m args c meth X D rx_yZ rx_xZ.2.1) (h1 : 2147483680 ≤ rx_b (rx_U X 1 [])) (h2 : rx_b (rx_U X 1 []) ≤ 2147483688) : rx_MW p l e s m args below meth c X D rx_yZ rx_xZ (.int (nI 0)) 25 rx_LZ32 [] rx_wZ32 0 0 := by
  by_cases q : rx_b (rx_U X 1 []) < 2147483681
  · exact rx_mEF rx_oZ Cm (rx_fok_d (by omega) (by omega) rx_fok_n) rfl rx_eZ32
  · exact rx_mSF rx_oZ Cm (rx_fok_d (by omega) (by omega) rx_fok_n) rx_tZ32 (rx_mSF rx_oZ Cm rx_fok_n rx_rZ32 (rx_kZ33 Cm (by omega) (by omega)))
theorem rx_kZ31 (Cm : rx_mC p s m args c meth X D rx_yZ rx_xZ.2.1) (h1 : 2147483679 ≤ rx_b (rx_U X 1 [])) (h2 : rx_b (rx_U X 1 []) ≤ 2147483688) : rx_MW p l e s m args below meth c X D rx_yZ rx_xZ (.int (nI 0)) 25 rx_LZ31 [] rx_wZ31 0 0 := by
  by_cases q : rx_b (rx_U X 1 []) < 2147483680
  · exact rx_mEF rx_oZ Cm (rx_fok_d (by omega) (by omega) rx_fok_n) rfl rx_eZ31
  · exact rx_mSF rx_oZ Cm (rx_fok_d (by omega) (by omega) rx_fok_n) rx_tZ31 (rx_mSF rx_oZ Cm rx_fok_n rx_rZ31 (rx_kZ32 Cm (by omega) (by omega)))
theorem rx_kZ30 (Cm : rx_mC p s m args c meth X D rx_yZ rx_xZ.2.1) (h1 : 2147483678 ≤ rx_b (rx_U X 1 [])) (h2 : rx_b (rx_U X 1 []) ≤ 2147483688) : rx_MW p l e s m args below meth c X D rx_yZ rx_xZ (.int (nI 0)) 25 rx_LZ30 [] rx_wZ30 0 0 := by
  by_cases q : rx_b (rx_U X 1 []) < 2147483679
  · exact rx_mEF rx_oZ Cm (rx_fok_d (by omega) (by omega) rx_fok_n) rfl rx_eZ30
  · exact rx_mSF rx_oZ Cm (rx_fok_d (by omega) (by omega) rx_fok_n) rx_tZ30 (rx_mSF rx_oZ Cm rx_fok_n rx_rZ30 (rx_kZ31 Cm (by omega) (by omega)))
theorem rx_kZ29 (Cm : rx_mC p s m args c meth X D rx_yZ rx_xZ.2.1) (h1 : 2147483677 ≤ rx_b (rx_U X 1 [])) (h2 : rx_b (rx_U X 1 []) ≤ 2147483688) : rx_MW p l e s m args below meth c X D rx_yZ rx_xZ (.int (nI 0)) 25 rx_LZ29 [] rx_wZ29 0 0 := by
  by_cases q : rx_b (rx_U X 1 []) < 2147483678
  · exact rx_mEF rx_oZ Cm (rx_fok_d (by omega) (by omega) rx_fok_n) rfl rx_eZ29
  · exact rx_mSF rx_oZ Cm (rx_fok_d (by omega) (by omega) rx_fok_n) rx_tZ29 (rx_mSF rx_oZ Cm rx_fok_n rx_rZ29 (rx_kZ30 Cm (by omega) (by omega)))
theorem rx_kZ28 (Cm : rx_mC p s m args c meth X D rx_yZ rx_xZ.2.1) (h1 : 2147483676 ≤ rx_b (rx_U X 1 [])) (h2 : rx_b (rx_U X 1 []) ≤ 2147483688) : rx_MW p l e s m args below meth c X D rx_yZ rx_xZ (.int (nI 0)) 25 rx_LZ28 [] rx_wZ28 0 0 := by
  by_cases q : rx_b (rx_U X 1 []) < 2147483677
  · exact rx_mEF rx_oZ Cm (rx_fok_d (by omega) (by omega) rx_fok_n) rfl rx_eZ28
  · exact rx_mSF rx_oZ Cm (rx_fok_d (by omega) (by omega) rx_fok_n) rx_tZ28 (rx_mSF rx_oZ Cm rx_fok_n rx_rZ28 (rx_kZ29 Cm (by omega) (by omega)))
theorem rx_kZ27 (Cm : rx_mC p s m args c meth X D rx_yZ rx_xZ.2.1) (h1 : 2147483675 ≤ rx_b (rx_U X 1 [])) (h2 : rx_b (rx_U X 1 []) ≤ 2147483688) : rx_MW p l e s m args below meth c X D rx_yZ rx_xZ (.int (nI 0)) 25 rx_LZ27 [] rx_wZ27 0 0 := by
  by_cases q : rx_b (rx_U X 1 []) < 2147483676
  · exact rx_mEF rx_oZ Cm (rx_fok_d (by omega) (by omega) rx_fok_n) rfl rx_eZ27
  · exact rx_mSF rx_oZ Cm (rx_fok_d (by omega) (by omega) rx_fok_n) rx_tZ27 (rx_mSF rx_oZ Cm rx_fok_n rx_rZ27 (rx_kZ28 Cm (by omega) (by omega)))
theorem rx_kZ26 (Cm : rx_mC p s m args c meth X D rx_yZ rx_xZ.2.1) (h1 : 2147483674 ≤ rx_b (rx_U X 1 [])) (h2 : rx_b (rx_U X 1 []) ≤ 2147483688) : rx_MW p l e s m args below meth c X D rx_yZ rx_xZ (.int (nI 0)) 25 rx_LZ26 [] rx_wZ26 0 0 := by
  by_cases q : rx_b (rx_U X 1 []) < 2147483675
  · exact rx_mEF rx_oZ Cm (rx_fok_d (by omega) (by omega) rx_fok_n) rfl rx_eZ26
  · exact rx_mSF rx_oZ Cm (rx_fok_d (by omega) (by omega) rx_fok_n) rx_tZ26 (rx_mSF rx_oZ Cm rx_fok_n rx_rZ26 (rx_kZ27 Cm (by omega) (by omega)))
theorem rx_kZ25 (Cm : rx_mC p s m args c meth X D rx_yZ rx_xZ.2.1) (h1 : 2147483673 ≤ rx_b (rx_U X 1 [])) (h2 : rx_b (rx_U X 1 []) ≤ 2147483688) : rx_MW p l e s m args below meth c X D rx_yZ rx_xZ (.int (nI 0)) 25 rx_LZ25 [] rx_wZ25 0 0 := by
  by_cases q : rx_b (rx_U X 1 []) < 2147483674
  · exact rx_mEF rx_oZ Cm (rx_fok_d (by omega) (by omega) rx_fok_n) rfl rx_eZ25
  · exact rx_mSF rx_oZ Cm (rx_fok_d (by omega) (by omega) rx_fok_n) rx_tZ25 (rx_mSF rx_oZ Cm rx_fok_n rx_rZ25 (rx_kZ26 Cm (by omega) (by omega)))
theorem rx_kZ24 (Cm : rx_mC p s m args c meth X D rx_yZ rx_xZ.2.1) (h1 : 2147483672 ≤ rx_b (rx_U X 1 [])) (h2 : rx_b (rx_U X 1 []) ≤ 2147483688) : rx_MW p l e s m args below meth c X D rx_yZ rx_xZ (.int (nI 0)) 25 rx_LZ24 [] rx_wZ24 0 0 := by
  by_cases q : rx_b (rx_U X 1 []) < 2147483673
  · exact rx_mEF rx_oZ Cm (rx_fok_d (by omega) (by omega) rx_fok_n) rfl rx_eZ24
  · exact rx_mSF rx_oZ Cm (rx_fok_d (by omega) (by omega) rx_fok_n) rx_tZ24 (rx_mSF rx_oZ Cm rx_fok_n rx_rZ24 (rx_kZ25 Cm (by omega) (by omega)))
theorem rx_kZ23 (Cm : rx_mC p s m args c meth X D rx_yZ rx_xZ.2.1) (h1 : 2147483671 ≤ rx_b (rx_U X 1 [])) (h2 : rx_b (rx_U X 1 []) ≤ 2147483688) : rx_MW p l e s m args below meth c X D rx_yZ rx_xZ (.int (nI 0)) 25 rx_LZ23 [] rx_wZ23 0 0 := by
  by_cases q : rx_b (rx_U X 1 []) < 2147483672
  · exact rx_mEF rx_oZ Cm (rx_fok_d (by omega) (by omega) rx_fok_n) rfl rx_eZ23
  · exact rx_mSF rx_oZ Cm (rx_fok_d (by omega) (by omega) rx_fok_n) rx_tZ23 (rx_mSF rx_oZ Cm rx_fok_n rx_rZ23 (rx_kZ24 Cm (by omega) (by omega)))
theorem rx_kZ22 (Cm : rx_mC p s m args c meth X D rx_yZ rx_xZ.2.1) (h1 : 2147483670 ≤ rx_b (rx_U X 1 [])) (h2 : rx_b (rx_U X 1 []) ≤ 2147483688) : rx_MW p l e s m args below meth c X D rx_yZ rx_xZ (.int (nI 0)) 25 rx_LZ22 [] rx_wZ22 0 0 := by
  by_cases q : rx_b (rx_U X 1 []) < 2147483671
  · exact rx_mEF rx_oZ Cm (rx_fok_d (by omega) (by omega) rx_fok_n) rfl rx_eZ22
  · exact rx_mSF rx_oZ Cm (rx_fok_d (by omega) (by omega) rx_fok_n) rx_tZ22 (rx_mSF rx_oZ Cm rx_fok_n rx_rZ22 (rx_kZ23 Cm (by omega) (by omega)))
theorem rx_kZ21 (Cm : rx_mC p s m args c meth X D rx_yZ rx_xZ.2.1) (h1 : 2147483669 ≤ rx_b (rx_U X 1 [])) (h2 : rx_b (rx_U X 1 []) ≤ 2147483688) : rx_MW p l e s m args below meth c X D rx_yZ rx_xZ (.int (nI 0)) 25 rx_LZ21 [] rx_wZ21 0 0 := by
  by_cases q : rx_b (rx_U X 1 []) < 2147483670
  · exact rx_mEF rx_oZ Cm (rx_fok_d (by omega) (by omega) rx_fok_n) rfl rx_eZ21
  · exact rx_mSF rx_oZ Cm (rx_fok_d (by omega) (by omega) rx_fok_n) rx_tZ21 (rx_mSF rx_oZ Cm rx_fok_n rx_rZ21 (rx_kZ22 Cm (by omega) (by omega)))
theorem rx_kZ20 (Cm : rx_mC p s m args c meth X D rx_yZ rx_xZ.2.1) (h1 : 2147483668 ≤ rx_b (rx_U X 1 [])) (h2 : rx_b (rx_U X 1 []) ≤ 2147483688) : rx_MW p l e s m args below meth c X D rx_yZ rx_xZ (.int (nI 0)) 25 rx_LZ20 [] rx_wZ20 0 0 := by
  by_cases q : rx_b (rx_U X 1 []) < 2147483669
  · exact rx_mEF rx_oZ Cm (rx_fok_d (by omega) (by omega) rx_fok_n) rfl rx_eZ20
  · exact rx_mSF rx_oZ Cm (rx_fok_d (by omega) (by omega) rx_fok_n) rx_tZ20 (rx_mSF rx_oZ Cm rx_fok_n rx_rZ20 (rx_kZ21 Cm (by omega) (by omega)))
theorem rx_kZ19 (Cm : rx_mC p s m args c meth X D rx_yZ rx_xZ.2.1) (h1 : 2147483667 ≤ rx_b (rx_U X 1 [])) (h2 : rx_b (rx_U X 1 []) ≤ 2147483688) : rx_MW p l e s m args below meth c X D rx_yZ rx_xZ (.int (nI 0)) 25 rx_LZ19 [] rx_wZ19 0 0 := by
  by_cases q : rx_b (rx_U X 1 []) < 2147483668
  · exact rx_mEF rx_oZ Cm (rx_fok_d (by omega) (by omega) rx_fok_n) rfl rx_eZ19
  · exact rx_mSF rx_oZ Cm (rx_fok_d (by omega) (by omega) rx_fok_n) rx_tZ19 (rx_mSF rx_oZ Cm rx_fok_n rx_rZ19 (rx_kZ20 Cm (by omega) (by omega)))
theorem rx_kZ18 (Cm : rx_mC p s m args c meth X D rx_yZ rx_xZ.2.1) (h1 : 2147483666 ≤ rx_b (rx_U X 1 [])) (h2 : rx_b (rx_U X 1 []) ≤ 2147483688) : rx_MW p l e s m args below meth c X D rx_yZ rx_xZ (.int (nI 0)) 25 rx_LZ18 [] rx_wZ18 0 0 := by
  by_cases q : rx_b (rx_U X 1 []) < 2147483667
  · exact rx_mEF rx_oZ Cm (rx_fok_d (by omega) (by omega) rx_fok_n) rfl rx_eZ18
  · exact rx_mSF rx_oZ Cm (rx_fok_d (by omega) (by omega) rx_fok_n) rx_tZ18 (rx_mSF rx_oZ Cm rx_fok_n rx_rZ18 (rx_kZ19 Cm (by omega) (by omega)))
theorem rx_kZ17 (Cm : rx_mC p s m args c meth X D rx_yZ rx_xZ.2.1) (h1 : 2147483665 ≤ rx_b (rx_U X 1 [])) (h2 : rx_b (rx_U X 1 []) ≤ 2147483688) : rx_MW p l e s m args below meth c X D rx_yZ rx_xZ (.int (nI 0)) 25 rx_LZ17 [] rx_wZ17 0 0 := by
  by_cases q : rx_b (rx_U X 1 []) < 2147483666
  · exact rx_mEF rx_oZ Cm (rx_fok_d (by omega) (by omega) rx_fok_n) rfl rx_eZ17
  · exact rx_mSF rx_oZ Cm (rx_fok_d (by omega) (by omega) rx_fok_n) rx_tZ17 (rx_mSF rx_oZ Cm rx_fok_n rx_rZ17 (rx_kZ18 Cm (by omega) (by omega)))
theorem rx_kZ16 (Cm : rx_mC p s m args c meth X D rx_yZ rx_xZ.2.1) (h1 : 2147483664 ≤ rx_b (rx_U X 1 [])) (h2 : rx_b (rx_U X 1 []) ≤ 2147483688) : rx_MW p l e s m args below meth c X D rx_yZ rx_xZ (.int (nI 0)) 25 rx_LZ16 [] rx_wZ16 0 0 := by
  by_cases q : rx_b (rx_U X 1 []) < 2147483665
  · exact rx_mEF rx_oZ Cm (rx_fok_d (by omega) (by omega) rx_fok_n) rfl rx_eZ16
  · exact rx_mSF rx_oZ Cm (rx_fok_d (by omega) (by omega) rx_fok_n) rx_tZ16 (rx_mSF rx_oZ Cm rx_fok_n rx_rZ16 (rx_kZ17 Cm (by omega) (by omega)))
theorem rx_kZ15 (Cm : rx_mC p s m args c meth X D rx_yZ rx_xZ.2.1) (h1 : 2147483663 ≤ rx_b (rx_U X 1 [])) (h2 : rx_b (rx_U X 1 []) ≤ 2147483688) : rx_MW p l e s m args below meth c X D rx_yZ rx_xZ (.int (nI 0)) 25 rx_LZ15 [] rx_wZ15 0 0 := by
  by_cases q : rx_b (rx_U X 1 []) < 2147483664
  · exact rx_mEF rx_oZ Cm (rx_fok_d (by omega) (by omega) rx_fok_n) rfl rx_eZ15
  · exact rx_mSF rx_oZ Cm (rx_fok_d (by omega) (by omega) rx_fok_n) rx_tZ15 (rx_mSF rx_oZ Cm rx_fok_n rx_rZ15 (rx_kZ16 Cm (by omega) (by omega)))
theorem rx_kZ14 (Cm : rx_mC p s m args c meth X D rx_yZ rx_xZ.2.1) (h1 : 2147483662 ≤ rx_b (rx_U X 1 [])) (h2 : rx_b (rx_U X 1 []) ≤ 2147483688) : rx_MW p l e s m args below meth c X D rx_yZ rx_xZ (.int (nI 0)) 25 rx_LZ14 [] rx_wZ14 0 0 := by
  by_cases q : rx_b (rx_U X 1 []) < 2147483663
  · exact rx_mEF rx_oZ Cm (rx_fok_d (by omega) (by omega) rx_fok_n) rfl rx_eZ14
  · exact rx_mSF rx_oZ Cm (rx_fok_d (by omega) (by omega) rx_fok_n) rx_tZ14 (rx_mSF rx_oZ Cm rx_fok_n rx_rZ14 (rx_kZ15 Cm (by omega) (by omega)))
theorem rx_kZ13 (Cm : rx_mC p s m args c meth X D rx_yZ rx_xZ.2.1) (h1 : 2147483661 ≤ rx_b (rx_U X 1 [])) (h2 : rx_b (rx_U X 1 []) ≤ 2147483688) : rx_MW p l e s m args below meth c X D rx_yZ rx_xZ (.int (nI 0)) 25 rx_LZ13 [] rx_wZ13 0 0 := by
  by_cases q : rx_b (rx_U X 1 []) < 2147483662
  · exact rx_mEF rx_oZ Cm (rx_fok_d (by omega) (by omega) rx_fok_n) rfl rx_eZ13
  · exact rx_mSF rx_oZ Cm (rx_fok_d (by omega) (by omega) rx_fok_n) rx_tZ13 (rx_mSF rx_oZ Cm rx_fok_n rx_rZ13 (rx_kZ14 Cm (by omega) (by omega)))
theorem rx_kZ12 (Cm : rx_mC p s m args c meth X D rx_yZ rx_xZ.2.1) (h1 : 2147483660 ≤ rx_b (rx_U X 1 [])) (h2 : rx_b (rx_U X 1 []) ≤ 2147483688) : rx_MW p l e s m args below meth c X D rx_yZ rx_xZ (.int (nI 0)) 25 rx_LZ12 [] rx_wZ12 0 0 := by
  by_cases q : rx_b (rx_U X 1 []) < 2147483661
  · exact rx_mEF rx_oZ Cm (rx_fok_d (by omega) (by omega) rx_fok_n) rfl rx_eZ12
  · exact rx_mSF rx_oZ Cm (rx_fok_d (by omega) (by omega) rx_fok_n) rx_tZ12 (rx_mSF rx_oZ Cm rx_fok_n rx_rZ12 (rx_kZ13 Cm (by omega) (by omega)))
theorem rx_kZ11 (Cm : rx_mC p s m args c meth X D rx_yZ rx_xZ.2.1) (h1 : 2147483659 ≤ rx_b (rx_U X 1 [])) (h2 : rx_b (rx_U X 1 []) ≤ 2147483688) : rx_MW p l e s m args below meth c X D rx_yZ rx_xZ (.int (nI 0)) 25 rx_LZ11 [] rx_wZ11 0 0 := by
  by_cases q : rx_b (rx_U X 1 []) < 2147483660
  · exact rx_mEF rx_oZ Cm (rx_fok_d (by omega) (by omega) rx_fok_n) rfl rx_eZ11
  · exact rx_mSF rx_oZ Cm (rx_fok_d (by omega) (by omega) rx_fok_n) rx_tZ11 (rx_mSF rx_oZ Cm rx_fok_n rx_rZ11 (rx_kZ12 Cm (by omega) (by omega)))
theorem rx_kZ10 (Cm : rx_mC p s m args c meth X D rx_yZ rx_xZ.2.1) (h1 : 2147483658 ≤ rx_b (rx_U X 1 [])) (h2 : rx_b (rx_U X 1 []) ≤ 2147483688) : rx_MW p l e s m args below meth c X D rx_yZ rx_xZ (.int (nI 0)) 25 rx_LZ10 [] rx_wZ10 0 0 := by
  by_cases q : rx_b (rx_U X 1 []) < 2147483659
  · exact rx_mEF rx_oZ Cm (rx_fok_d (by omega) (by omega) rx_fok_n) rfl rx_eZ10
  · exact rx_mSF rx_oZ Cm (rx_fok_d (by omega) (by omega) rx_fok_n) rx_tZ10 (rx_mSF rx_oZ Cm rx_fok_n rx_rZ10 (rx_kZ11 Cm (by omega) (by omega)))
theorem rx_kZ9 (Cm : rx_mC p s m args c meth X D rx_yZ rx_xZ.2.1) (h1 : 2147483657 ≤ rx_b (rx_U X 1 [])) (h2 : rx_b (rx_U X 1 []) ≤ 2147483688) : rx_MW p l e s m args below meth c X D rx_yZ rx_xZ (.int (nI 0)) 25 rx_LZ9 [] rx_wZ9 0 0 := by
  by_cases q : rx_b (rx_U X 1 []) < 2147483658
  · exact rx_mEF rx_oZ Cm (rx_fok_d (by omega) (by omega) rx_fok_n) rfl rx_eZ9
  · exact rx_mSF rx_oZ Cm (rx_fok_d (by omega) (by omega) rx_fok_n) rx_tZ9 (rx_mSF rx_oZ Cm rx_fok_n rx_rZ9 (rx_kZ10 Cm (by omega) (by omega)))
theorem rx_kZ8 (Cm : rx_mC p s m args c meth X D rx_yZ rx_xZ.2.1) (h1 : 2147483656 ≤ rx_b (rx_U X 1 [])) (h2 : rx_b (rx_U X 1 []) ≤ 2147483688) : rx_MW p l e s m args below meth c X D rx_yZ rx_xZ (.int (nI 0)) 25 rx_LZ8 [] rx_wZ8 0 0 := by
  by_cases q : rx_b (rx_U X 1 []) < 2147483657
  · exact rx_mEF rx_oZ Cm (rx_fok_d (by omega) (by omega) rx_fok_n) rfl rx_eZ8
  · exact rx_mSF rx_oZ Cm (rx_fok_d (by omega) (by omega) rx_fok_n) rx_tZ8 (rx_mSF rx_oZ Cm rx_fok_n rx_rZ8 (rx_kZ9 Cm (by omega) (by omega)))
theorem rx_kZ7 (Cm : rx_mC p s m args c meth X D rx_yZ rx_xZ.2.1) (h1 : 2147483655 ≤ rx_b (rx_U X 1 [])) (h2 : rx_b (rx_U X 1 []) ≤ 2147483688) : rx_MW p l e s m args below meth c X D rx_yZ rx_xZ (.int (nI 0)) 25 rx_LZ7 [] rx_wZ7 0 0 := by
  by_cases q : rx_b (rx_U X 1 []) < 2147483656
  · exact rx_mEF rx_oZ Cm (rx_fok_d (by omega) (by omega) rx_fok_n) rfl rx_eZ7
  · exact rx_mSF rx_oZ Cm (rx_fok_d (by omega) (by omega) rx_fok_n) rx_tZ7 (rx_mSF rx_oZ Cm rx_fok_n rx_rZ7 (rx_kZ8 Cm (by omega) (by omega)))
theorem rx_kZ6 (Cm : rx_mC p s m args c meth X D rx_yZ rx_xZ.2.1) (h1 : 2147483654 ≤ rx_b (rx_U X 1 [])) (h2 : rx_b (rx_U X 1 []) ≤ 2147483688) : rx_MW p l e s m args below meth c X D rx_yZ rx_xZ (.int (nI 0)) 25 rx_LZ6 [] rx_wZ6 0 0 := by
  by_cases q : rx_b (rx_U X 1 []) < 2147483655
  · exact rx_mEF rx_oZ Cm (rx_fok_d (by omega) (by omega) rx_fok_n) rfl rx_eZ6
  · exact rx_mSF rx_oZ Cm (rx_fok_d (by omega) (by omega) rx_fok_n) rx_tZ6 (rx_mSF rx_oZ Cm rx_fok_n rx_rZ6 (rx_kZ7 Cm (by omega) (by omega)))
theorem rx_kZ5 (Cm : rx_mC p s m args c meth X D rx_yZ rx_xZ.2.1) (h1 : 2147483653 ≤ rx_b (rx_U X 1 [])) (h2 : rx_b (rx_U X 1 []) ≤ 2147483688) : rx_MW p l e s m args below meth c X D rx_yZ rx_xZ (.int (nI 0)) 25 rx_LZ5 [] rx_wZ5 0 0 := by
  by_cases q : rx_b (rx_U X 1 []) < 2147483654
  · exact rx_mEF rx_oZ Cm (rx_fok_d (by omega) (by omega) rx_fok_n) rfl rx_eZ5
  · exact rx_mSF rx_oZ Cm (rx_fok_d (by omega) (by omega) rx_fok_n) rx_tZ5 (rx_mSF rx_oZ Cm rx_fok_n rx_rZ5 (rx_kZ6 Cm (by omega) (by omega)))
theorem rx_kZ4 (Cm : rx_mC p s m args c meth X D rx_yZ rx_xZ.2.1) (h1 : 2147483652 ≤ rx_b (rx_U X 1 [])) (h2 : rx_b (rx_U X 1 []) ≤ 2147483688) : rx_MW p l e s m args below meth c X D rx_yZ rx_xZ (.int (nI 0)) 25 rx_LZ4 [] rx_wZ4 0 0 := by
  by_cases q : rx_b (rx_U X 1 []) < 2147483653
  · exact rx_mEF rx_oZ Cm (rx_fok_d (by omega) (by omega) rx_fok_n) rfl rx_eZ4
  · exact rx_mSF rx_oZ Cm (rx_fok_d (by omega) (by omega) rx_fok_n) rx_tZ4 (rx_mSF rx_oZ Cm rx_fok_n rx_rZ4 (rx_kZ5 Cm (by omega) (by omega)))
theorem rx_kZ3 (Cm : rx_mC p s m args c meth X D rx_yZ rx_xZ.2.1) (h1 : 2147483651 ≤ rx_b (rx_U X 1 [])) (h2 : rx_b (rx_U X 1 []) ≤ 2147483688) : rx_MW p l e s m args below meth c X D rx_yZ rx_xZ (.int (nI 0)) 25 rx_LZ3 [] rx_wZ3 0 0 := by
  by_cases q : rx_b (rx_U X 1 []) < 2147483652
  · exact rx_mEF rx_oZ Cm (rx_fok_d (by omega) (by omega) rx_fok_n) rfl rx_eZ3
  · exact rx_mSF rx_oZ Cm (rx_fok_d (by omega) (by omega) rx_fok_n) rx_tZ3 (rx_mSF rx_oZ Cm rx_fok_n rx_rZ3 (rx_kZ4 Cm (by omega) (by omega)))
theorem rx_kZ2 (Cm : rx_mC p s m args c meth X D rx_yZ rx_xZ.2.1) (h1 : 2147483650 ≤ rx_b (rx_U X 1 [])) (h2 : rx_b (rx_U X 1 []) ≤ 2147483688) : rx_MW p l e s m args below meth c X D rx_yZ rx_xZ (.int (nI 0)) 25 rx_LZ2 [] rx_wZ2 0 0 := by
  by_cases q : rx_b (rx_U X 1 []) < 2147483651
  · exact rx_mEF rx_oZ Cm (rx_fok_d (by omega) (by omega) rx_fok_n) rfl rx_eZ2
  · exact rx_mSF rx_oZ Cm (rx_fok_d (by omega) (by omega) rx_fok_n) rx_tZ2 (rx_mSF rx_oZ Cm rx_fok_n rx_rZ2 (rx_kZ3 Cm (by omega) (by omega)))
theorem rx_kZ1 (Cm : rx_mC p s m args c meth X D rx_yZ rx_xZ.2.1) (h1 : 2147483649 ≤ rx_b (rx_U X 1 [])) (h2 : rx_b (rx_U X 1 []) ≤ 2147483688) : rx_MW p l e s m args below meth c X D rx_yZ rx_xZ (.int (nI 0)) 25 rx_LZ1 [] rx_wZ1 0 0 := by
  by_cases q : rx_b (rx_U X 1 []) < 2147483650
  · exact rx_mEF rx_oZ Cm (rx_fok_d (by omega) (by omega) rx_fok_n) rfl rx_eZ1
  · exact rx_mSF rx_oZ Cm (rx_fok_d (by omega) (by omega) rx_fok_n) rx_tZ1 (rx_mSF rx_oZ Cm rx_fok_n rx_rZ1 (rx_kZ2 Cm (by omega) (by omega)))
theorem rx_kZ0 (Cm : rx_mC p s m args c meth X D rx_yZ rx_xZ.2.1) (h1 : 2147483649 ≤ rx_b (rx_U X 1 [])) (h2 : rx_b (rx_U X 1 []) ≤ 2147483688) : rx_MW p l e s m args below meth c X D rx_yZ rx_xZ (.int (nI 0)) 25 rx_LZ0 [] rx_wZ0 0 0 := rx_mSF rx_oZ Cm (rx_fok_d (by omega) (by omega) rx_fok_n) rx_tZ0 (rx_mSF rx_oZ Cm rx_fok_n rx_rZ0 (rx_kZ1 Cm (by omega) (by omega)))
end RXZ
set_option maxRecDepth 1000000 in
theorem rx_zZ : rx_isE (rx_loop (rx_G1 [] 7) rx_mL 4 600000 7302250 (rx_cap rx_tb) (rx_ex (rx_G1 [] 7) rx_tb 100 0) 99999999 100 (rx_find rx_mL (859 + 3)) rx_L0 [.inl (.inl 0), .inl (.inl 0)] [] 221 26609) = true := by decide +kernel
section RXcZ
variable {p : Program} {l : Launch} {e : Env} {s : State} {m : MethodId} {below : List Frame} {meth : Method} {c : Code} {b : Nat} {xs : Nat → Int32} {X : rx_X} {D : va_G}
theorem rx_oneZ (C0 : rx_lawC p s m meth c b 6 xs X D) {k : Nat} {F : rx_F} (hF : rx_fok X F) (hk : 1 ≤ k ∧ k ≤ 40) (hn : rx_b (rx_U X 1 []) = k + 2147483648) (h : rx_isM (rx_lawRF F 7 859 (rx_find rx_mL 18) rx_L0 [] rx_w0 221 26609) 859 rx_L0 [.inl (.inl k), .inr (.inr (.inl (some 170))), .inl (.inl 0)] 221 26609 = true) (hent : rx_is (rx_mRF rx_xZ [] 25 0 (rx_args [.inr (.inr (.inl (some 0))), .inl (.inl k)] 0) [] rx_wm) 25 (rx_KZ k) [] rx_wZ0 0 0 = true) : rx_LW p l e s m below meth c b X D 18 rx_L0 [] rx_w0 221 26609 := by
  refine rx_hv C0 (Y := rx_yZ) (x := rx_xZ) (as' := [.inl (.inl k)]) (idx := 118) (n := 1) rx_oZ rfl rfl hF (by rw [← rx_lawRF_eq]; exact h) (by decide +kernel) (by decide) (by decide) (by decide) ⟨_, _, rfl⟩ (rx_wd_ok (p := 275) (by decide +kernel)) (rx_wd_ok (p := 2263) (by decide +kernel)) (rx_wd_ok (p := 2264) (by decide +kernel)) (rx_wd_ok (p := 2262) (by decide +kernel)) (by decide +kernel) rfl (by show (2 : Nat) ≤ 5; decide) (fun p e s m args below meth c Cm => ?_) rx_zZ
  have hn' : rx_b (rx_U (rx_Xu X 170) 1 []) = k + 2147483648 := by rw [rx_U_up]; exact hn
  refine rx_mSF rx_oZ Cm rx_fok_n hent (rx_mL' (L' := rx_LZ0) ?_ (rx_kZ0 Cm (by omega) (by omega)))
  unfold rx_LZ0 rx_KZ rx_Lm
  simp only [List.map_cons, List.map_nil, rx_nK (by omega) hn']
set_option maxRecDepth 1000000 in
theorem rx_r24_0 : rx_isE (rx_lawRF [((0, [(0, 63)]), 2147483672, 2147483672), ((1, []), 0, 2147483648)] 7 99999999 (rx_find rx_mL 18) rx_L0 [] rx_w0 221 26609) = true := by decide +kernel
set_option maxRecDepth 1000000 in
theorem rx_r24_1 : rx_isE (rx_lawRF [((0, [(0, 63)]), 2147483672, 2147483672), ((1, []), 2147483689, 4294967295)] 7 99999999 (rx_find rx_mL 18) rx_L0 [] rx_w0 221 26609) = true := by decide +kernel
theorem rx_case24 (C0 : rx_lawC p s m meth c b 6 xs X D) (h0 : 2147483672 ≤ rx_b (rx_U X 0 [(0, 63)]) ∧ rx_b (rx_U X 0 [(0, 63)]) ≤ 2147483672) : rx_LW p l e s m below meth c b X D 18 rx_L0 [] rx_w0 221 26609 := by
  have l0 := rx_b_lt (rx_U X 1 [])
  by_cases q0 : rx_b (rx_U X 1 []) < 2147483649
  · exact rx_lawEF C0 (Or.inr rfl) (rx_fok_d h0.1 h0.2 (rx_fok_d (by omega) (by omega) rx_fok_n)) rx_r24_0
  · by_cases q1 : rx_b (rx_U X 1 []) < 2147483689
    · by_cases q2 : rx_b (rx_U X 1 []) < 2147483669
      · by_cases q3 : rx_b (rx_U X 1 []) < 2147483659
        · by_cases q4 : rx_b (rx_U X 1 []) < 2147483654
          · by_cases q5 : rx_b (rx_U X 1 []) < 2147483651
            · by_cases q6 : rx_b (rx_U X 1 []) < 2147483650
              · exact rx_oneZ C0 (rx_fok_d h0.1 h0.2 (rx_fok_d (by omega) (by omega) rx_fok_n)) ⟨by decide, by decide⟩ (by omega) rx_hZ1 rx_nZ1
              · exact rx_oneZ C0 (rx_fok_d h0.1 h0.2 (rx_fok_d (by omega) (by omega) rx_fok_n)) ⟨by decide, by decide⟩ (by omega) rx_hZ2 rx_nZ2
            · by_cases q6 : rx_b (rx_U X 1 []) < 2147483652
              · exact rx_oneZ C0 (rx_fok_d h0.1 h0.2 (rx_fok_d (by omega) (by omega) rx_fok_n)) ⟨by decide, by decide⟩ (by omega) rx_hZ3 rx_nZ3
              · by_cases q7 : rx_b (rx_U X 1 []) < 2147483653
                · exact rx_oneZ C0 (rx_fok_d h0.1 h0.2 (rx_fok_d (by omega) (by omega) rx_fok_n)) ⟨by decide, by decide⟩ (by omega) rx_hZ4 rx_nZ4
                · exact rx_oneZ C0 (rx_fok_d h0.1 h0.2 (rx_fok_d (by omega) (by omega) rx_fok_n)) ⟨by decide, by decide⟩ (by omega) rx_hZ5 rx_nZ5
          · by_cases q5 : rx_b (rx_U X 1 []) < 2147483656
            · by_cases q6 : rx_b (rx_U X 1 []) < 2147483655
              · exact rx_oneZ C0 (rx_fok_d h0.1 h0.2 (rx_fok_d (by omega) (by omega) rx_fok_n)) ⟨by decide, by decide⟩ (by omega) rx_hZ6 rx_nZ6
              · exact rx_oneZ C0 (rx_fok_d h0.1 h0.2 (rx_fok_d (by omega) (by omega) rx_fok_n)) ⟨by decide, by decide⟩ (by omega) rx_hZ7 rx_nZ7
            · by_cases q6 : rx_b (rx_U X 1 []) < 2147483657
              · exact rx_oneZ C0 (rx_fok_d h0.1 h0.2 (rx_fok_d (by omega) (by omega) rx_fok_n)) ⟨by decide, by decide⟩ (by omega) rx_hZ8 rx_nZ8
              · by_cases q7 : rx_b (rx_U X 1 []) < 2147483658
                · exact rx_oneZ C0 (rx_fok_d h0.1 h0.2 (rx_fok_d (by omega) (by omega) rx_fok_n)) ⟨by decide, by decide⟩ (by omega) rx_hZ9 rx_nZ9
                · exact rx_oneZ C0 (rx_fok_d h0.1 h0.2 (rx_fok_d (by omega) (by omega) rx_fok_n)) ⟨by decide, by decide⟩ (by omega) rx_hZ10 rx_nZ10
        · by_cases q4 : rx_b (rx_U X 1 []) < 2147483664
          · by_cases q5 : rx_b (rx_U X 1 []) < 2147483661
            · by_cases q6 : rx_b (rx_U X 1 []) < 2147483660
              · exact rx_oneZ C0 (rx_fok_d h0.1 h0.2 (rx_fok_d (by omega) (by omega) rx_fok_n)) ⟨by decide, by decide⟩ (by omega) rx_hZ11 rx_nZ11
              · exact rx_oneZ C0 (rx_fok_d h0.1 h0.2 (rx_fok_d (by omega) (by omega) rx_fok_n)) ⟨by decide, by decide⟩ (by omega) rx_hZ12 rx_nZ12
            · by_cases q6 : rx_b (rx_U X 1 []) < 2147483662
              · exact rx_oneZ C0 (rx_fok_d h0.1 h0.2 (rx_fok_d (by omega) (by omega) rx_fok_n)) ⟨by decide, by decide⟩ (by omega) rx_hZ13 rx_nZ13
              · by_cases q7 : rx_b (rx_U X 1 []) < 2147483663
                · exact rx_oneZ C0 (rx_fok_d h0.1 h0.2 (rx_fok_d (by omega) (by omega) rx_fok_n)) ⟨by decide, by decide⟩ (by omega) rx_hZ14 rx_nZ14
                · exact rx_oneZ C0 (rx_fok_d h0.1 h0.2 (rx_fok_d (by omega) (by omega) rx_fok_n)) ⟨by decide, by decide⟩ (by omega) rx_hZ15 rx_nZ15
          · by_cases q5 : rx_b (rx_U X 1 []) < 2147483666
            · by_cases q6 : rx_b (rx_U X 1 []) < 2147483665
              · exact rx_oneZ C0 (rx_fok_d h0.1 h0.2 (rx_fok_d (by omega) (by omega) rx_fok_n)) ⟨by decide, by decide⟩ (by omega) rx_hZ16 rx_nZ16
              · exact rx_oneZ C0 (rx_fok_d h0.1 h0.2 (rx_fok_d (by omega) (by omega) rx_fok_n)) ⟨by decide, by decide⟩ (by omega) rx_hZ17 rx_nZ17
            · by_cases q6 : rx_b (rx_U X 1 []) < 2147483667
              · exact rx_oneZ C0 (rx_fok_d h0.1 h0.2 (rx_fok_d (by omega) (by omega) rx_fok_n)) ⟨by decide, by decide⟩ (by omega) rx_hZ18 rx_nZ18
              · by_cases q7 : rx_b (rx_U X 1 []) < 2147483668
                · exact rx_oneZ C0 (rx_fok_d h0.1 h0.2 (rx_fok_d (by omega) (by omega) rx_fok_n)) ⟨by decide, by decide⟩ (by omega) rx_hZ19 rx_nZ19
                · exact rx_oneZ C0 (rx_fok_d h0.1 h0.2 (rx_fok_d (by omega) (by omega) rx_fok_n)) ⟨by decide, by decide⟩ (by omega) rx_hZ20 rx_nZ20
      · by_cases q3 : rx_b (rx_U X 1 []) < 2147483679
        · by_cases q4 : rx_b (rx_U X 1 []) < 2147483674
          · by_cases q5 : rx_b (rx_U X 1 []) < 2147483671
            · by_cases q6 : rx_b (rx_U X 1 []) < 2147483670
              · exact rx_oneZ C0 (rx_fok_d h0.1 h0.2 (rx_fok_d (by omega) (by omega) rx_fok_n)) ⟨by decide, by decide⟩ (by omega) rx_hZ21 rx_nZ21
              · exact rx_oneZ C0 (rx_fok_d h0.1 h0.2 (rx_fok_d (by omega) (by omega) rx_fok_n)) ⟨by decide, by decide⟩ (by omega) rx_hZ22 rx_nZ22
            · by_cases q6 : rx_b (rx_U X 1 []) < 2147483672
              · exact rx_oneZ C0 (rx_fok_d h0.1 h0.2 (rx_fok_d (by omega) (by omega) rx_fok_n)) ⟨by decide, by decide⟩ (by omega) rx_hZ23 rx_nZ23
              · by_cases q7 : rx_b (rx_U X 1 []) < 2147483673
                · exact rx_oneZ C0 (rx_fok_d h0.1 h0.2 (rx_fok_d (by omega) (by omega) rx_fok_n)) ⟨by decide, by decide⟩ (by omega) rx_hZ24 rx_nZ24
                · exact rx_oneZ C0 (rx_fok_d h0.1 h0.2 (rx_fok_d (by omega) (by omega) rx_fok_n)) ⟨by decide, by decide⟩ (by omega) rx_hZ25 rx_nZ25
          · by_cases q5 : rx_b (rx_U X 1 []) < 2147483676
            · by_cases q6 : rx_b (rx_U X 1 []) < 2147483675
              · exact rx_oneZ C0 (rx_fok_d h0.1 h0.2 (rx_fok_d (by omega) (by omega) rx_fok_n)) ⟨by decide, by decide⟩ (by omega) rx_hZ26 rx_nZ26
              · exact rx_oneZ C0 (rx_fok_d h0.1 h0.2 (rx_fok_d (by omega) (by omega) rx_fok_n)) ⟨by decide, by decide⟩ (by omega) rx_hZ27 rx_nZ27
            · by_cases q6 : rx_b (rx_U X 1 []) < 2147483677
              · exact rx_oneZ C0 (rx_fok_d h0.1 h0.2 (rx_fok_d (by omega) (by omega) rx_fok_n)) ⟨by decide, by decide⟩ (by omega) rx_hZ28 rx_nZ28
              · by_cases q7 : rx_b (rx_U X 1 []) < 2147483678
                · exact rx_oneZ C0 (rx_fok_d h0.1 h0.2 (rx_fok_d (by omega) (by omega) rx_fok_n)) ⟨by decide, by decide⟩ (by omega) rx_hZ29 rx_nZ29
                · exact rx_oneZ C0 (rx_fok_d h0.1 h0.2 (rx_fok_d (by omega) (by omega) rx_fok_n)) ⟨by decide, by decide⟩ (by omega) rx_hZ30 rx_nZ30
        · by_cases q4 : rx_b (rx_U X 1 []) < 2147483684
          · by_cases q5 : rx_b (rx_U X 1 []) < 2147483681
            · by_cases q6 : rx_b (rx_U X 1 []) < 2147483680
              · exact rx_oneZ C0 (rx_fok_d h0.1 h0.2 (rx_fok_d (by omega) (by omega) rx_fok_n)) ⟨by decide, by decide⟩ (by omega) rx_hZ31 rx_nZ31
              · exact rx_oneZ C0 (rx_fok_d h0.1 h0.2 (rx_fok_d (by omega) (by omega) rx_fok_n)) ⟨by decide, by decide⟩ (by omega) rx_hZ32 rx_nZ32
            · by_cases q6 : rx_b (rx_U X 1 []) < 2147483682
              · exact rx_oneZ C0 (rx_fok_d h0.1 h0.2 (rx_fok_d (by omega) (by omega) rx_fok_n)) ⟨by decide, by decide⟩ (by omega) rx_hZ33 rx_nZ33
              · by_cases q7 : rx_b (rx_U X 1 []) < 2147483683
                · exact rx_oneZ C0 (rx_fok_d h0.1 h0.2 (rx_fok_d (by omega) (by omega) rx_fok_n)) ⟨by decide, by decide⟩ (by omega) rx_hZ34 rx_nZ34
                · exact rx_oneZ C0 (rx_fok_d h0.1 h0.2 (rx_fok_d (by omega) (by omega) rx_fok_n)) ⟨by decide, by decide⟩ (by omega) rx_hZ35 rx_nZ35
          · by_cases q5 : rx_b (rx_U X 1 []) < 2147483686
            · by_cases q6 : rx_b (rx_U X 1 []) < 2147483685
              · exact rx_oneZ C0 (rx_fok_d h0.1 h0.2 (rx_fok_d (by omega) (by omega) rx_fok_n)) ⟨by decide, by decide⟩ (by omega) rx_hZ36 rx_nZ36
              · exact rx_oneZ C0 (rx_fok_d h0.1 h0.2 (rx_fok_d (by omega) (by omega) rx_fok_n)) ⟨by decide, by decide⟩ (by omega) rx_hZ37 rx_nZ37
            · by_cases q6 : rx_b (rx_U X 1 []) < 2147483687
              · exact rx_oneZ C0 (rx_fok_d h0.1 h0.2 (rx_fok_d (by omega) (by omega) rx_fok_n)) ⟨by decide, by decide⟩ (by omega) rx_hZ38 rx_nZ38
              · by_cases q7 : rx_b (rx_U X 1 []) < 2147483688
                · exact rx_oneZ C0 (rx_fok_d h0.1 h0.2 (rx_fok_d (by omega) (by omega) rx_fok_n)) ⟨by decide, by decide⟩ (by omega) rx_hZ39 rx_nZ39
                · exact rx_oneZ C0 (rx_fok_d h0.1 h0.2 (rx_fok_d (by omega) (by omega) rx_fok_n)) ⟨by decide, by decide⟩ (by omega) rx_hZ40 rx_nZ40
    · exact rx_lawEF C0 (Or.inr rfl) (rx_fok_d h0.1 h0.2 (rx_fok_d (by omega) (by omega) rx_fok_n)) rx_r24_1
end RXcZ
