/-! printed by wip/p1/heavy.py: entries of years, and the law up to the call -/
set_option maxRecDepth 1000000 in
theorem rx_nY21 : rx_is (rx_mRF rx_xY [] 25 0 (rx_args [.inr (.inr (.inl (some 0))), .inl (.inl 21)] 0) [] rx_wm) 25 (rx_KY 21) [] rx_wY0 0 0 = true := by decide +kernel
set_option maxRecDepth 1000000 in
theorem rx_hY21 : rx_isM (rx_lawRF [((0, [(0, 63)]), 2147483671, 2147483671), ((1, []), 2147483669, 2147483669)] 7 836 (rx_find rx_mL 18) rx_L0 [] rx_w0 221 26609) 836 rx_L0 [.inl (.inl 21), .inr (.inr (.inl (some 170))), .inl (.inl 0)] 221 26609 = true := by decide +kernel
set_option maxRecDepth 1000000 in
theorem rx_nY22 : rx_is (rx_mRF rx_xY [] 25 0 (rx_args [.inr (.inr (.inl (some 0))), .inl (.inl 22)] 0) [] rx_wm) 25 (rx_KY 22) [] rx_wY0 0 0 = true := by decide +kernel
set_option maxRecDepth 1000000 in
theorem rx_hY22 : rx_isM (rx_lawRF [((0, [(0, 63)]), 2147483671, 2147483671), ((1, []), 2147483670, 2147483670)] 7 836 (rx_find rx_mL 18) rx_L0 [] rx_w0 221 26609) 836 rx_L0 [.inl (.inl 22), .inr (.inr (.inl (some 170))), .inl (.inl 0)] 221 26609 = true := by decide +kernel
set_option maxRecDepth 1000000 in
theorem rx_nY23 : rx_is (rx_mRF rx_xY [] 25 0 (rx_args [.inr (.inr (.inl (some 0))), .inl (.inl 23)] 0) [] rx_wm) 25 (rx_KY 23) [] rx_wY0 0 0 = true := by decide +kernel
set_option maxRecDepth 1000000 in
theorem rx_hY23 : rx_isM (rx_lawRF [((0, [(0, 63)]), 2147483671, 2147483671), ((1, []), 2147483671, 2147483671)] 7 836 (rx_find rx_mL 18) rx_L0 [] rx_w0 221 26609) 836 rx_L0 [.inl (.inl 23), .inr (.inr (.inl (some 170))), .inl (.inl 0)] 221 26609 = true := by decide +kernel
set_option maxRecDepth 1000000 in
theorem rx_nY24 : rx_is (rx_mRF rx_xY [] 25 0 (rx_args [.inr (.inr (.inl (some 0))), .inl (.inl 24)] 0) [] rx_wm) 25 (rx_KY 24) [] rx_wY0 0 0 = true := by decide +kernel
set_option maxRecDepth 1000000 in
theorem rx_hY24 : rx_isM (rx_lawRF [((0, [(0, 63)]), 2147483671, 2147483671), ((1, []), 2147483672, 2147483672)] 7 836 (rx_find rx_mL 18) rx_L0 [] rx_w0 221 26609) 836 rx_L0 [.inl (.inl 24), .inr (.inr (.inl (some 170))), .inl (.inl 0)] 221 26609 = true := by decide +kernel
set_option maxRecDepth 1000000 in
theorem rx_nY25 : rx_is (rx_mRF rx_xY [] 25 0 (rx_args [.inr (.inr (.inl (some 0))), .inl (.inl 25)] 0) [] rx_wm) 25 (rx_KY 25) [] rx_wY0 0 0 = true := by decide +kernel
set_option maxRecDepth 1000000 in
theorem rx_hY25 : rx_isM (rx_lawRF [((0, [(0, 63)]), 2147483671, 2147483671), ((1, []), 2147483673, 2147483673)] 7 836 (rx_find rx_mL 18) rx_L0 [] rx_w0 221 26609) 836 rx_L0 [.inl (.inl 25), .inr (.inr (.inl (some 170))), .inl (.inl 0)] 221 26609 = true := by decide +kernel
set_option maxRecDepth 1000000 in
theorem rx_nY26 : rx_is (rx_mRF rx_xY [] 25 0 (rx_args [.inr (.inr (.inl (some 0))), .inl (.inl 26)] 0) [] rx_wm) 25 (rx_KY 26) [] rx_wY0 0 0 = true := by decide +kernel
set_option maxRecDepth 1000000 in
theorem rx_hY26 : rx_isM (rx_lawRF [((0, [(0, 63)]), 2147483671, 2147483671), ((1, []), 2147483674, 2147483674)] 7 836 (rx_find rx_mL 18) rx_L0 [] rx_w0 221 26609) 836 rx_L0 [.inl (.inl 26), .inr (.inr (.inl (some 170))), .inl (.inl 0)] 221 26609 = true := by decide +kernel
set_option maxRecDepth 1000000 in
theorem rx_nY27 : rx_is (rx_mRF rx_xY [] 25 0 (rx_args [.inr (.inr (.inl (some 0))), .inl (.inl 27)] 0) [] rx_wm) 25 (rx_KY 27) [] rx_wY0 0 0 = true := by decide +kernel
set_option maxRecDepth 1000000 in
theorem rx_hY27 : rx_isM (rx_lawRF [((0, [(0, 63)]), 2147483671, 2147483671), ((1, []), 2147483675, 2147483675)] 7 836 (rx_find rx_mL 18) rx_L0 [] rx_w0 221 26609) 836 rx_L0 [.inl (.inl 27), .inr (.inr (.inl (some 170))), .inl (.inl 0)] 221 26609 = true := by decide +kernel
set_option maxRecDepth 1000000 in
theorem rx_nY28 : rx_is (rx_mRF rx_xY [] 25 0 (rx_args [.inr (.inr (.inl (some 0))), .inl (.inl 28)] 0) [] rx_wm) 25 (rx_KY 28) [] rx_wY0 0 0 = true := by decide +kernel
set_option maxRecDepth 1000000 in
theorem rx_hY28 : rx_isM (rx_lawRF [((0, [(0, 63)]), 2147483671, 2147483671), ((1, []), 2147483676, 2147483676)] 7 836 (rx_find rx_mL 18) rx_L0 [] rx_w0 221 26609) 836 rx_L0 [.inl (.inl 28), .inr (.inr (.inl (some 170))), .inl (.inl 0)] 221 26609 = true := by decide +kernel
set_option maxRecDepth 1000000 in
theorem rx_nY29 : rx_is (rx_mRF rx_xY [] 25 0 (rx_args [.inr (.inr (.inl (some 0))), .inl (.inl 29)] 0) [] rx_wm) 25 (rx_KY 29) [] rx_wY0 0 0 = true := by decide +kernel
set_option maxRecDepth 1000000 in
theorem rx_hY29 : rx_isM (rx_lawRF [((0, [(0, 63)]), 2147483671, 2147483671), ((1, []), 2147483677, 2147483677)] 7 836 (rx_find rx_mL 18) rx_L0 [] rx_w0 221 26609) 836 rx_L0 [.inl (.inl 29), .inr (.inr (.inl (some 170))), .inl (.inl 0)] 221 26609 = true := by decide +kernel
set_option maxRecDepth 1000000 in
theorem rx_nY30 : rx_is (rx_mRF rx_xY [] 25 0 (rx_args [.inr (.inr (.inl (some 0))), .inl (.inl 30)] 0) [] rx_wm) 25 (rx_KY 30) [] rx_wY0 0 0 = true := by decide +kernel
set_option maxRecDepth 1000000 in
theorem rx_hY30 : rx_isM (rx_lawRF [((0, [(0, 63)]), 2147483671, 2147483671), ((1, []), 2147483678, 2147483678)] 7 836 (rx_find rx_mL 18) rx_L0 [] rx_w0 221 26609) 836 rx_L0 [.inl (.inl 30), .inr (.inr (.inl (some 170))), .inl (.inl 0)] 221 26609 = true := by decide +kernel
