/-! printed by wip/p1/heavy.py: entries of years, and the law up to the call -/
set_option maxRecDepth 1000000 in
theorem rx_nY1 : rx_is (rx_mRF rx_xY [] 25 0 (rx_args [.inr (.inr (.inl (some 0))), .inl (.inl 1)] 0) [] rx_wm) 25 (rx_KY 1) [] rx_wY0 0 0 = true := by decide +kernel
set_option maxRecDepth 1000000 in
theorem rx_hY1 : rx_isM (rx_lawRF [((0, [(0, 63)]), 2147483671, 2147483671), ((1, []), 2147483649, 2147483649)] 7 836 (rx_find rx_mL 18) rx_L0 [] rx_w0 221 26609) 836 rx_L0 [.inl (.inl 1), .inr (.inr (.inl (some 170))), .inl (.inl 0)] 221 26609 = true := by decide +kernel
set_option maxRecDepth 1000000 in
theorem rx_nY2 : rx_is (rx_mRF rx_xY [] 25 0 (rx_args [.inr (.inr (.inl (some 0))), .inl (.inl 2)] 0) [] rx_wm) 25 (rx_KY 2) [] rx_wY0 0 0 = true := by decide +kernel
set_option maxRecDepth 1000000 in
theorem rx_hY2 : rx_isM (rx_lawRF [((0, [(0, 63)]), 2147483671, 2147483671), ((1, []), 2147483650, 2147483650)] 7 836 (rx_find rx_mL 18) rx_L0 [] rx_w0 221 26609) 836 rx_L0 [.inl (.inl 2), .inr (.inr (.inl (some 170))), .inl (.inl 0)] 221 26609 = true := by decide +kernel
set_option maxRecDepth 1000000 in
theorem rx_nY3 : rx_is (rx_mRF rx_xY [] 25 0 (rx_args [.inr (.inr (.inl (some 0))), .inl (.inl 3)] 0) [] rx_wm) 25 (rx_KY 3) [] rx_wY0 0 0 = true := by decide +kernel
set_option maxRecDepth 1000000 in
theorem rx_hY3 : rx_isM (rx_lawRF [((0, [(0, 63)]), 2147483671, 2147483671), ((1, []), 2147483651, 2147483651)] 7 836 (rx_find rx_mL 18) rx_L0 [] rx_w0 221 26609) 836 rx_L0 [.inl (.inl 3), .inr (.inr (.inl (some 170))), .inl (.inl 0)] 221 26609 = true := by decide +kernel
set_option maxRecDepth 1000000 in
theorem rx_nY4 : rx_is (rx_mRF rx_xY [] 25 0 (rx_args [.inr (.inr (.inl (some 0))), .inl (.inl 4)] 0) [] rx_wm) 25 (rx_KY 4) [] rx_wY0 0 0 = true := by decide +kernel
set_option maxRecDepth 1000000 in
theorem rx_hY4 : rx_isM (rx_lawRF [((0, [(0, 63)]), 2147483671, 2147483671), ((1, []), 2147483652, 2147483652)] 7 836 (rx_find rx_mL 18) rx_L0 [] rx_w0 221 26609) 836 rx_L0 [.inl (.inl 4), .inr (.inr (.inl (some 170))), .inl (.inl 0)] 221 26609 = true := by decide +kernel
set_option maxRecDepth 1000000 in
theorem rx_nY5 : rx_is (rx_mRF rx_xY [] 25 0 (rx_args [.inr (.inr (.inl (some 0))), .inl (.inl 5)] 0) [] rx_wm) 25 (rx_KY 5) [] rx_wY0 0 0 = true := by decide +kernel
set_option maxRecDepth 1000000 in
theorem rx_hY5 : rx_isM (rx_lawRF [((0, [(0, 63)]), 2147483671, 2147483671), ((1, []), 2147483653, 2147483653)] 7 836 (rx_find rx_mL 18) rx_L0 [] rx_w0 221 26609) 836 rx_L0 [.inl (.inl 5), .inr (.inr (.inl (some 170))), .inl (.inl 0)] 221 26609 = true := by decide +kernel
set_option maxRecDepth 1000000 in
theorem rx_nY6 : rx_is (rx_mRF rx_xY [] 25 0 (rx_args [.inr (.inr (.inl (some 0))), .inl (.inl 6)] 0) [] rx_wm) 25 (rx_KY 6) [] rx_wY0 0 0 = true := by decide +kernel
set_option maxRecDepth 1000000 in
theorem rx_hY6 : rx_isM (rx_lawRF [((0, [(0, 63)]), 2147483671, 2147483671), ((1, []), 2147483654, 2147483654)] 7 836 (rx_find rx_mL 18) rx_L0 [] rx_w0 221 26609) 836 rx_L0 [.inl (.inl 6), .inr (.inr (.inl (some 170))), .inl (.inl 0)] 221 26609 = true := by decide +kernel
set_option maxRecDepth 1000000 in
theorem rx_nY7 : rx_is (rx_mRF rx_xY [] 25 0 (rx_args [.inr (.inr (.inl (some 0))), .inl (.inl 7)] 0) [] rx_wm) 25 (rx_KY 7) [] rx_wY0 0 0 = true := by decide +kernel
set_option maxRecDepth 1000000 in
theorem rx_hY7 : rx_isM (rx_lawRF [((0, [(0, 63)]), 2147483671, 2147483671), ((1, []), 2147483655, 2147483655)] 7 836 (rx_find rx_mL 18) rx_L0 [] rx_w0 221 26609) 836 rx_L0 [.inl (.inl 7), .inr (.inr (.inl (some 170))), .inl (.inl 0)] 221 26609 = true := by decide +kernel
set_option maxRecDepth 1000000 in
theorem rx_nY8 : rx_is (rx_mRF rx_xY [] 25 0 (rx_args [.inr (.inr (.inl (some 0))), .inl (.inl 8)] 0) [] rx_wm) 25 (rx_KY 8) [] rx_wY0 0 0 = true := by decide +kernel
set_option maxRecDepth 1000000 in
theorem rx_hY8 : rx_isM (rx_lawRF [((0, [(0, 63)]), 2147483671, 2147483671), ((1, []), 2147483656, 2147483656)] 7 836 (rx_find rx_mL 18) rx_L0 [] rx_w0 221 26609) 836 rx_L0 [.inl (.inl 8), .inr (.inr (.inl (some 170))), .inl (.inl 0)] 221 26609 = true := by decide +kernel
set_option maxRecDepth 1000000 in
theorem rx_nY9 : rx_is (rx_mRF rx_xY [] 25 0 (rx_args [.inr (.inr (.inl (some 0))), .inl (.inl 9)] 0) [] rx_wm) 25 (rx_KY 9) [] rx_wY0 0 0 = true := by decide +kernel
set_option maxRecDepth 1000000 in
theorem rx_hY9 : rx_isM (rx_lawRF [((0, [(0, 63)]), 2147483671, 2147483671), ((1, []), 2147483657, 2147483657)] 7 836 (rx_find rx_mL 18) rx_L0 [] rx_w0 221 26609) 836 rx_L0 [.inl (.inl 9), .inr (.inr (.inl (some 170))), .inl (.inl 0)] 221 26609 = true := by decide +kernel
set_option maxRecDepth 1000000 in
theorem rx_nY10 : rx_is (rx_mRF rx_xY [] 25 0 (rx_args [.inr (.inr (.inl (some 0))), .inl (.inl 10)] 0) [] rx_wm) 25 (rx_KY 10) [] rx_wY0 0 0 = true := by decide +kernel
set_option maxRecDepth 1000000 in
theorem rx_hY10 : rx_isM (rx_lawRF [((0, [(0, 63)]), 2147483671, 2147483671), ((1, []), 2147483658, 2147483658)] 7 836 (rx_find rx_mL 18) rx_L0 [] rx_w0 221 26609) 836 rx_L0 [.inl (.inl 10), .inr (.inr (.inl (some 170))), .inl (.inl 0)] 221 26609 = true := by decide +kernel
