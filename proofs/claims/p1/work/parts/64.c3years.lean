/-! printed by wip/p1/heavy.py: entries of years, and the law up to the call -/
set_option maxRecDepth 1000000 in
theorem rx_nY31 : rx_is (rx_mRF rx_xY [] 25 0 (rx_args [.inr (.inr (.inl (some 0))), .inl (.inl 31)] 0) [] rx_wm) 25 (rx_KY 31) [] rx_wY0 0 0 = true := by decide +kernel
set_option maxRecDepth 1000000 in
theorem rx_hY31 : rx_isM (rx_lawRF [((0, [(0, 63)]), 2147483671, 2147483671), ((1, []), 2147483679, 2147483679)] 7 836 (rx_find rx_mL 18) rx_L0 [] rx_w0 221 26609) 836 rx_L0 [.inl (.inl 31), .inr (.inr (.inl (some 170))), .inl (.inl 0)] 221 26609 = true := by decide +kernel
set_option maxRecDepth 1000000 in
theorem rx_nY32 : rx_is (rx_mRF rx_xY [] 25 0 (rx_args [.inr (.inr (.inl (some 0))), .inl (.inl 32)] 0) [] rx_wm) 25 (rx_KY 32) [] rx_wY0 0 0 = true := by decide +kernel
set_option maxRecDepth 1000000 in
theorem rx_hY32 : rx_isM (rx_lawRF [((0, [(0, 63)]), 2147483671, 2147483671), ((1, []), 2147483680, 2147483680)] 7 836 (rx_find rx_mL 18) rx_L0 [] rx_w0 221 26609) 836 rx_L0 [.inl (.inl 32), .inr (.inr (.inl (some 170))), .inl (.inl 0)] 221 26609 = true := by decide +kernel
set_option maxRecDepth 1000000 in
theorem rx_nY33 : rx_is (rx_mRF rx_xY [] 25 0 (rx_args [.inr (.inr (.inl (some 0))), .inl (.inl 33)] 0) [] rx_wm) 25 (rx_KY 33) [] rx_wY0 0 0 = true := by decide +kernel
set_option maxRecDepth 1000000 in
theorem rx_hY33 : rx_isM (rx_lawRF [((0, [(0, 63)]), 2147483671, 2147483671), ((1, []), 2147483681, 2147483681)] 7 836 (rx_find rx_mL 18) rx_L0 [] rx_w0 221 26609) 836 rx_L0 [.inl (.inl 33), .inr (.inr (.inl (some 170))), .inl (.inl 0)] 221 26609 = true := by decide +kernel
set_option maxRecDepth 1000000 in
theorem rx_nY34 : rx_is (rx_mRF rx_xY [] 25 0 (rx_args [.inr (.inr (.inl (some 0))), .inl (.inl 34)] 0) [] rx_wm) 25 (rx_KY 34) [] rx_wY0 0 0 = true := by decide +kernel
set_option maxRecDepth 1000000 in
theorem rx_hY34 : rx_isM (rx_lawRF [((0, [(0, 63)]), 2147483671, 2147483671), ((1, []), 2147483682, 2147483682)] 7 836 (rx_find rx_mL 18) rx_L0 [] rx_w0 221 26609) 836 rx_L0 [.inl (.inl 34), .inr (.inr (.inl (some 170))), .inl (.inl 0)] 221 26609 = true := by decide +kernel
set_option maxRecDepth 1000000 in
theorem rx_nY35 : rx_is (rx_mRF rx_xY [] 25 0 (rx_args [.inr (.inr (.inl (some 0))), .inl (.inl 35)] 0) [] rx_wm) 25 (rx_KY 35) [] rx_wY0 0 0 = true := by decide +kernel
set_option maxRecDepth 1000000 in
theorem rx_hY35 : rx_isM (rx_lawRF [((0, [(0, 63)]), 2147483671, 2147483671), ((1, []), 2147483683, 2147483683)] 7 836 (rx_find rx_mL 18) rx_L0 [] rx_w0 221 26609) 836 rx_L0 [.inl (.inl 35), .inr (.inr (.inl (some 170))), .inl (.inl 0)] 221 26609 = true := by decide +kernel
set_option maxRecDepth 1000000 in
theorem rx_nY36 : rx_is (rx_mRF rx_xY [] 25 0 (rx_args [.inr (.inr (.inl (some 0))), .inl (.inl 36)] 0) [] rx_wm) 25 (rx_KY 36) [] rx_wY0 0 0 = true := by decide +kernel
set_option maxRecDepth 1000000 in
theorem rx_hY36 : rx_isM (rx_lawRF [((0, [(0, 63)]), 2147483671, 2147483671), ((1, []), 2147483684, 2147483684)] 7 836 (rx_find rx_mL 18) rx_L0 [] rx_w0 221 26609) 836 rx_L0 [.inl (.inl 36), .inr (.inr (.inl (some 170))), .inl (.inl 0)] 221 26609 = true := by decide +kernel
set_option maxRecDepth 1000000 in
theorem rx_nY37 : rx_is (rx_mRF rx_xY [] 25 0 (rx_args [.inr (.inr (.inl (some 0))), .inl (.inl 37)] 0) [] rx_wm) 25 (rx_KY 37) [] rx_wY0 0 0 = true := by decide +kernel
set_option maxRecDepth 1000000 in
theorem rx_hY37 : rx_isM (rx_lawRF [((0, [(0, 63)]), 2147483671, 2147483671), ((1, []), 2147483685, 2147483685)] 7 836 (rx_find rx_mL 18) rx_L0 [] rx_w0 221 26609) 836 rx_L0 [.inl (.inl 37), .inr (.inr (.inl (some 170))), .inl (.inl 0)] 221 26609 = true := by decide +kernel
set_option maxRecDepth 1000000 in
theorem rx_nY38 : rx_is (rx_mRF rx_xY [] 25 0 (rx_args [.inr (.inr (.inl (some 0))), .inl (.inl 38)] 0) [] rx_wm) 25 (rx_KY 38) [] rx_wY0 0 0 = true := by decide +kernel
set_option maxRecDepth 1000000 in
theorem rx_hY38 : rx_isM (rx_lawRF [((0, [(0, 63)]), 2147483671, 2147483671), ((1, []), 2147483686, 2147483686)] 7 836 (rx_find rx_mL 18) rx_L0 [] rx_w0 221 26609) 836 rx_L0 [.inl (.inl 38), .inr (.inr (.inl (some 170))), .inl (.inl 0)] 221 26609 = true := by decide +kernel
set_option maxRecDepth 1000000 in
theorem rx_nY39 : rx_is (rx_mRF rx_xY [] 25 0 (rx_args [.inr (.inr (.inl (some 0))), .inl (.inl 39)] 0) [] rx_wm) 25 (rx_KY 39) [] rx_wY0 0 0 = true := by decide +kernel
set_option maxRecDepth 1000000 in
theorem rx_hY39 : rx_isM (rx_lawRF [((0, [(0, 63)]), 2147483671, 2147483671), ((1, []), 2147483687, 2147483687)] 7 836 (rx_find rx_mL 18) rx_L0 [] rx_w0 221 26609) 836 rx_L0 [.inl (.inl 39), .inr (.inr (.inl (some 170))), .inl (.inl 0)] 221 26609 = true := by decide +kernel
set_option maxRecDepth 1000000 in
theorem rx_nY40 : rx_is (rx_mRF rx_xY [] 25 0 (rx_args [.inr (.inr (.inl (some 0))), .inl (.inl 40)] 0) [] rx_wm) 25 (rx_KY 40) [] rx_wY0 0 0 = true := by decide +kernel
set_option maxRecDepth 1000000 in
theorem rx_hY40 : rx_isM (rx_lawRF [((0, [(0, 63)]), 2147483671, 2147483671), ((1, []), 2147483688, 2147483688)] 7 836 (rx_find rx_mL 18) rx_L0 [] rx_w0 221 26609) 836 rx_L0 [.inl (.inl 40), .inr (.inr (.inl (some 170))), .inl (.inl 0)] 221 26609 = true := by decide +kernel
