/-! printed by wip/p1/heavy.py: entries of years, and the law up to the call -/
set_option maxRecDepth 1000000 in
theorem rx_nY11 : rx_is (rx_mRF rx_xY [] 25 0 (rx_args [.inr (.inr (.inl (some 0))), .inl (.inl 11)] 0) [] rx_wm) 25 (rx_KY 11) [] rx_wY0 0 0 = true := by decide +kernel
set_option maxRecDepth 1000000 in
theorem rx_hY11 : rx_isM (rx_lawRF [((0, [(0, 63)]), 2147483671, 2147483671), ((1, []), 2147483659, 2147483659)] 7 836 (rx_find rx_mL 18) rx_L0 [] rx_w0 221 26609) 836 rx_L0 [.inl (.inl 11), .inr (.inr (.inl (some 170))), .inl (.inl 0)] 221 26609 = true := by decide +kernel
set_option maxRecDepth 1000000 in
theorem rx_nY12 : rx_is (rx_mRF rx_xY [] 25 0 (rx_args [.inr (.inr (.inl (some 0))), .inl (.inl 12)] 0) [] rx_wm) 25 (rx_KY 12) [] rx_wY0 0 0 = true := by decide +kernel
set_option maxRecDepth 1000000 in
theorem rx_hY12 : rx_isM (rx_lawRF [((0, [(0, 63)]), 2147483671, 2147483671), ((1, []), 2147483660, 2147483660)] 7 836 (rx_find rx_mL 18) rx_L0 [] rx_w0 221 26609) 836 rx_L0 [.inl (.inl 12), .inr (.inr (.inl (some 170))), .inl (.inl 0)] 221 26609 = true := by decide +kernel
set_option maxRecDepth 1000000 in
theorem rx_nY13 : rx_is (rx_mRF rx_xY [] 25 0 (rx_args [.inr (.inr (.inl (some 0))), .inl (.inl 13)] 0) [] rx_wm) 25 (rx_KY 13) [] rx_wY0 0 0 = true := by decide +kernel
set_option maxRecDepth 1000000 in
theorem rx_hY13 : rx_isM (rx_lawRF [((0, [(0, 63)]), 2147483671, 2147483671), ((1, []), 2147483661, 2147483661)] 7 836 (rx_find rx_mL 18) rx_L0 [] rx_w0 221 26609) 836 rx_L0 [.inl (.inl 13), .inr (.inr (.inl (some 170))), .inl (.inl 0)] 221 26609 = true := by decide +kernel
set_option maxRecDepth 1000000 in
theorem rx_nY14 : rx_is (rx_mRF rx_xY [] 25 0 (rx_args [.inr (.inr (.inl (some 0))), .inl (.inl 14)] 0) [] rx_wm) 25 (rx_KY 14) [] rx_wY0 0 0 = true := by decide +kernel
set_option maxRecDepth 1000000 in
theorem rx_hY14 : rx_isM (rx_lawRF [((0, [(0, 63)]), 2147483671, 2147483671), ((1, []), 2147483662, 2147483662)] 7 836 (rx_find rx_mL 18) rx_L0 [] rx_w0 221 26609) 836 rx_L0 [.inl (.inl 14), .inr (.inr (.inl (some 170))), .inl (.inl 0)] 221 26609 = true := by decide +kernel
set_option maxRecDepth 1000000 in
theorem rx_nY15 : rx_is (rx_mRF rx_xY [] 25 0 (rx_args [.inr (.inr (.inl (some 0))), .inl (.inl 15)] 0) [] rx_wm) 25 (rx_KY 15) [] rx_wY0 0 0 = true := by decide +kernel
set_option maxRecDepth 1000000 in
theorem rx_hY15 : rx_isM (rx_lawRF [((0, [(0, 63)]), 2147483671, 2147483671), ((1, []), 2147483663, 2147483663)] 7 836 (rx_find rx_mL 18) rx_L0 [] rx_w0 221 26609) 836 rx_L0 [.inl (.inl 15), .inr (.inr (.inl (some 170))), .inl (.inl 0)] 221 26609 = true := by decide +kernel
set_option maxRecDepth 1000000 in
theorem rx_nY16 : rx_is (rx_mRF rx_xY [] 25 0 (rx_args [.inr (.inr (.inl (some 0))), .inl (.inl 16)] 0) [] rx_wm) 25 (rx_KY 16) [] rx_wY0 0 0 = true := by decide +kernel
set_option maxRecDepth 1000000 in
theorem rx_hY16 : rx_isM (rx_lawRF [((0, [(0, 63)]), 2147483671, 2147483671), ((1, []), 2147483664, 2147483664)] 7 836 (rx_find rx_mL 18) rx_L0 [] rx_w0 221 26609) 836 rx_L0 [.inl (.inl 16), .inr (.inr (.inl (some 170))), .inl (.inl 0)] 221 26609 = true := by decide +kernel
set_option maxRecDepth 1000000 in
theorem rx_nY17 : rx_is (rx_mRF rx_xY [] 25 0 (rx_args [.inr (.inr (.inl (some 0))), .inl (.inl 17)] 0) [] rx_wm) 25 (rx_KY 17) [] rx_wY0 0 0 = true := by decide +kernel
set_option maxRecDepth 1000000 in
theorem rx_hY17 : rx_isM (rx_lawRF [((0, [(0, 63)]), 2147483671, 2147483671), ((1, []), 2147483665, 2147483665)] 7 836 (rx_find rx_mL 18) rx_L0 [] rx_w0 221 26609) 836 rx_L0 [.inl (.inl 17), .inr (.inr (.inl (some 170))), .inl (.inl 0)] 221 26609 = true := by decide +kernel
set_option maxRecDepth 1000000 in
theorem rx_nY18 : rx_is (rx_mRF rx_xY [] 25 0 (rx_args [.inr (.inr (.inl (some 0))), .inl (.inl 18)] 0) [] rx_wm) 25 (rx_KY 18) [] rx_wY0 0 0 = true := by decide +kernel
set_option maxRecDepth 1000000 in
theorem rx_hY18 : rx_isM (rx_lawRF [((0, [(0, 63)]), 2147483671, 2147483671), ((1, []), 2147483666, 2147483666)] 7 836 (rx_find rx_mL 18) rx_L0 [] rx_w0 221 26609) 836 rx_L0 [.inl (.inl 18), .inr (.inr (.inl (some 170))), .inl (.inl 0)] 221 26609 = true := by decide +kernel
set_option maxRecDepth 1000000 in
theorem rx_nY19 : rx_is (rx_mRF rx_xY [] 25 0 (rx_args [.inr (.inr (.inl (some 0))), .inl (.inl 19)] 0) [] rx_wm) 25 (rx_KY 19) [] rx_wY0 0 0 = true := by decide +kernel
set_option maxRecDepth 1000000 in
theorem rx_hY19 : rx_isM (rx_lawRF [((0, [(0, 63)]), 2147483671, 2147483671), ((1, []), 2147483667, 2147483667)] 7 836 (rx_find rx_mL 18) rx_L0 [] rx_w0 221 26609) 836 rx_L0 [.inl (.inl 19), .inr (.inr (.inl (some 170))), .inl (.inl 0)] 221 26609 = true := by decide +kernel
set_option maxRecDepth 1000000 in
theorem rx_nY20 : rx_is (rx_mRF rx_xY [] 25 0 (rx_args [.inr (.inr (.inl (some 0))), .inl (.inl 20)] 0) [] rx_wm) 25 (rx_KY 20) [] rx_wY0 0 0 = true := by decide +kernel
set_option maxRecDepth 1000000 in
theorem rx_hY20 : rx_isM (rx_lawRF [((0, [(0, 63)]), 2147483671, 2147483671), ((1, []), 2147483668, 2147483668)] 7 836 (rx_find rx_mL 18) rx_L0 [] rx_w0 221 26609) 836 rx_L0 [.inl (.inl 20), .inr (.inr (.inl (some 170))), .inl (.inl 0)] 221 26609 = true := by decide +kernel
