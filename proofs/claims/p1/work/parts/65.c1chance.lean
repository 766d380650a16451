/-! printed by wip/p1/heavy.py: entries of chance, and the law up to the call -/
set_option maxRecDepth 1000000 in
theorem rx_nZ11 : rx_is (rx_mRF rx_xZ [] 25 0 (rx_args [.inr (.inr (.inl (some 0))), .inl (.inl 11)] 0) [] rx_wm) 25 (rx_KZ 11) [] rx_wZ0 0 0 = true := by decide +kernel
set_option maxRecDepth 1000000 in
theorem rx_hZ11 : rx_isM (rx_lawRF [((0, [(0, 63)]), 2147483672, 2147483672), ((1, []), 2147483659, 2147483659)] 7 859 (rx_find rx_mL 18) rx_L0 [] rx_w0 221 26609) 859 rx_L0 [.inl (.inl 11), .inr (.inr (.inl (some 170))), .inl (.inl 0)] 221 26609 = true := by decide +kernel
set_option maxRecDepth 1000000 in
theorem rx_nZ12 : rx_is (rx_mRF rx_xZ [] 25 0 (rx_args [.inr (.inr (.inl (some 0))), .inl (.inl 12)] 0) [] rx_wm) 25 (rx_KZ 12) [] rx_wZ0 0 0 = true := by decide +kernel
set_option maxRecDepth 1000000 in
theorem rx_hZ12 : rx_isM (rx_lawRF [((0, [(0, 63)]), 2147483672, 2147483672), ((1, []), 2147483660, 2147483660)] 7 859 (rx_find rx_mL 18) rx_L0 [] rx_w0 221 26609) 859 rx_L0 [.inl (.inl 12), .inr (.inr (.inl (some 170))), .inl (.inl 0)] 221 26609 = true := by decide +kernel
set_option maxRecDepth 1000000 in
theorem rx_nZ13 : rx_is (rx_mRF rx_xZ [] 25 0 (rx_args [.inr (.inr (.inl (some 0))), .inl (.inl 13)] 0) [] rx_wm) 25 (rx_KZ 13) [] rx_wZ0 0 0 = true := by decide +kernel
set_option maxRecDepth 1000000 in
theorem rx_hZ13 : rx_isM (rx_lawRF [((0, [(0, 63)]), 2147483672, 2147483672), ((1, []), 2147483661, 2147483661)] 7 859 (rx_find rx_mL 18) rx_L0 [] rx_w0 221 26609) 859 rx_L0 [.inl (.inl 13), .inr (.inr (.inl (some 170))), .inl (.inl 0)] 221 26609 = true := by decide +kernel
set_option maxRecDepth 1000000 in
theorem rx_nZ14 : rx_is (rx_mRF rx_xZ [] 25 0 (rx_args [.inr (.inr (.inl (some 0))), .inl (.inl 14)] 0) [] rx_wm) 25 (rx_KZ 14) [] rx_wZ0 0 0 = true := by decide +kernel
set_option maxRecDepth 1000000 in
theorem rx_hZ14 : rx_isM (rx_lawRF [((0, [(0, 63)]), 2147483672, 2147483672), ((1, []), 2147483662, 2147483662)] 7 859 (rx_find rx_mL 18) rx_L0 [] rx_w0 221 26609) 859 rx_L0 [.inl (.inl 14), .inr (.inr (.inl (some 170))), .inl (.inl 0)] 221 26609 = true := by decide +kernel
set_option maxRecDepth 1000000 in
theorem rx_nZ15 : rx_is (rx_mRF rx_xZ [] 25 0 (rx_args [.inr (.inr (.inl (some 0))), .inl (.inl 15)] 0) [] rx_wm) 25 (rx_KZ 15) [] rx_wZ0 0 0 = true := by decide +kernel
set_option maxRecDepth 1000000 in
theorem rx_hZ15 : rx_isM (rx_lawRF [((0, [(0, 63)]), 2147483672, 2147483672), ((1, []), 2147483663, 2147483663)] 7 859 (rx_find rx_mL 18) rx_L0 [] rx_w0 221 26609) 859 rx_L0 [.inl (.inl 15), .inr (.inr (.inl (some 170))), .inl (.inl 0)] 221 26609 = true := by decide +kernel
set_option maxRecDepth 1000000 in
theorem rx_nZ16 : rx_is (rx_mRF rx_xZ [] 25 0 (rx_args [.inr (.inr (.inl (some 0))), .inl (.inl 16)] 0) [] rx_wm) 25 (rx_KZ 16) [] rx_wZ0 0 0 = true := by decide +kernel
set_option maxRecDepth 1000000 in
theorem rx_hZ16 : rx_isM (rx_lawRF [((0, [(0, 63)]), 2147483672, 2147483672), ((1, []), 2147483664, 2147483664)] 7 859 (rx_find rx_mL 18) rx_L0 [] rx_w0 221 26609) 859 rx_L0 [.inl (.inl 16), .inr (.inr (.inl (some 170))), .inl (.inl 0)] 221 26609 = true := by decide +kernel
set_option maxRecDepth 1000000 in
theorem rx_nZ17 : rx_is (rx_mRF rx_xZ [] 25 0 (rx_args [.inr (.inr (.inl (some 0))), .inl (.inl 17)] 0) [] rx_wm) 25 (rx_KZ 17) [] rx_wZ0 0 0 = true := by decide +kernel
set_option maxRecDepth 1000000 in
theorem rx_hZ17 : rx_isM (rx_lawRF [((0, [(0, 63)]), 2147483672, 2147483672), ((1, []), 2147483665, 2147483665)] 7 859 (rx_find rx_mL 18) rx_L0 [] rx_w0 221 26609) 859 rx_L0 [.inl (.inl 17), .inr (.inr (.inl (some 170))), .inl (.inl 0)] 221 26609 = true := by decide +kernel
set_option maxRecDepth 1000000 in
theorem rx_nZ18 : rx_is (rx_mRF rx_xZ [] 25 0 (rx_args [.inr (.inr (.inl (some 0))), .inl (.inl 18)] 0) [] rx_wm) 25 (rx_KZ 18) [] rx_wZ0 0 0 = true := by decide +kernel
set_option maxRecDepth 1000000 in
theorem rx_hZ18 : rx_isM (rx_lawRF [((0, [(0, 63)]), 2147483672, 2147483672), ((1, []), 2147483666, 2147483666)] 7 859 (rx_find rx_mL 18) rx_L0 [] rx_w0 221 26609) 859 rx_L0 [.inl (.inl 18), .inr (.inr (.inl (some 170))), .inl (.inl 0)] 221 26609 = true := by decide +kernel
set_option maxRecDepth 1000000 in
theorem rx_nZ19 : rx_is (rx_mRF rx_xZ [] 25 0 (rx_args [.inr (.inr (.inl (some 0))), .inl (.inl 19)] 0) [] rx_wm) 25 (rx_KZ 19) [] rx_wZ0 0 0 = true := by decide +kernel
set_option maxRecDepth 1000000 in
theorem rx_hZ19 : rx_isM (rx_lawRF [((0, [(0, 63)]), 2147483672, 2147483672), ((1, []), 2147483667, 2147483667)] 7 859 (rx_find rx_mL 18) rx_L0 [] rx_w0 221 26609) 859 rx_L0 [.inl (.inl 19), .inr (.inr (.inl (some 170))), .inl (.inl 0)] 221 26609 = true := by decide +kernel
set_option maxRecDepth 1000000 in
theorem rx_nZ20 : rx_is (rx_mRF rx_xZ [] 25 0 (rx_args [.inr (.inr (.inl (some 0))), .inl (.inl 20)] 0) [] rx_wm) 25 (rx_KZ 20) [] rx_wZ0 0 0 = true := by decide +kernel
set_option maxRecDepth 1000000 in
theorem rx_hZ20 : rx_isM (rx_lawRF [((0, [(0, 63)]), 2147483672, 2147483672), ((1, []), 2147483668, 2147483668)] 7 859 (rx_find rx_mL 18) rx_L0 [] rx_w0 221 26609) 859 rx_L0 [.inl (.inl 20), .inr (.inr (.inl (some 170))), .inl (.inl 0)] 221 26609 = true := by decide +kernel
