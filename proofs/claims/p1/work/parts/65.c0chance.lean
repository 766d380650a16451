/-! printed by wip/p1/heavy.py: entries of chance, and the law up to the call -/
set_option maxRecDepth 1000000 in
theorem rx_nZ1 : rx_is (rx_mRF rx_xZ [] 25 0 (rx_args [.inr (.inr (.inl (some 0))), .inl (.inl 1)] 0) [] rx_wm) 25 (rx_KZ 1) [] rx_wZ0 0 0 = true := by decide +kernel
set_option maxRecDepth 1000000 in
theorem rx_hZ1 : rx_isM (rx_lawRF [((0, [(0, 63)]), 2147483672, 2147483672), ((1, []), 2147483649, 2147483649)] 7 859 (rx_find rx_mL 18) rx_L0 [] rx_w0 221 26609) 859 rx_L0 [.inl (.inl 1), .inr (.inr (.inl (some 170))), .inl (.inl 0)] 221 26609 = true := by decide +kernel
set_option maxRecDepth 1000000 in
theorem rx_nZ2 : rx_is (rx_mRF rx_xZ [] 25 0 (rx_args [.inr (.inr (.inl (some 0))), .inl (.inl 2)] 0) [] rx_wm) 25 (rx_KZ 2) [] rx_wZ0 0 0 = true := by decide +kernel
set_option maxRecDepth 1000000 in
theorem rx_hZ2 : rx_isM (rx_lawRF [((0, [(0, 63)]), 2147483672, 2147483672), ((1, []), 2147483650, 2147483650)] 7 859 (rx_find rx_mL 18) rx_L0 [] rx_w0 221 26609) 859 rx_L0 [.inl (.inl 2), .inr (.inr (.inl (some 170))), .inl (.inl 0)] 221 26609 = true := by decide +kernel
set_option maxRecDepth 1000000 in
theorem rx_nZ3 : rx_is (rx_mRF rx_xZ [] 25 0 (rx_args [.inr (.inr (.inl (some 0))), .inl (.inl 3)] 0) [] rx_wm) 25 (rx_KZ 3) [] rx_wZ0 0 0 = true := by decide +kernel
set_option maxRecDepth 1000000 in
theorem rx_hZ3 : rx_isM (rx_lawRF [((0, [(0, 63)]), 2147483672, 2147483672), ((1, []), 2147483651, 2147483651)] 7 859 (rx_find rx_mL 18) rx_L0 [] rx_w0 221 26609) 859 rx_L0 [.inl (.inl 3), .inr (.inr (.inl (some 170))), .inl (.inl 0)] 221 26609 = true := by decide +kernel
set_option maxRecDepth 1000000 in
theorem rx_nZ4 : rx_is (rx_mRF rx_xZ [] 25 0 (rx_args [.inr (.inr (.inl (some 0))), .inl (.inl 4)] 0) [] rx_wm) 25 (rx_KZ 4) [] rx_wZ0 0 0 = true := by decide +kernel
set_option maxRecDepth 1000000 in
theorem rx_hZ4 : rx_isM (rx_lawRF [((0, [(0, 63)]), 2147483672, 2147483672), ((1, []), 2147483652, 2147483652)] 7 859 (rx_find rx_mL 18) rx_L0 [] rx_w0 221 26609) 859 rx_L0 [.inl (.inl 4), .inr (.inr (.inl (some 170))), .inl (.inl 0)] 221 26609 = true := by decide +kernel
set_option maxRecDepth 1000000 in
theorem rx_nZ5 : rx_is (rx_mRF rx_xZ [] 25 0 (rx_args [.inr (.inr (.inl (some 0))), .inl (.inl 5)] 0) [] rx_wm) 25 (rx_KZ 5) [] rx_wZ0 0 0 = true := by decide +kernel
set_option maxRecDepth 1000000 in
theorem rx_hZ5 : rx_isM (rx_lawRF [((0, [(0, 63)]), 2147483672, 2147483672), ((1, []), 2147483653, 2147483653)] 7 859 (rx_find rx_mL 18) rx_L0 [] rx_w0 221 26609) 859 rx_L0 [.inl (.inl 5), .inr (.inr (.inl (some 170))), .inl (.inl 0)] 221 26609 = true := by decide +kernel
set_option maxRecDepth 1000000 in
theorem rx_nZ6 : rx_is (rx_mRF rx_xZ [] 25 0 (rx_args [.inr (.inr (.inl (some 0))), .inl (.inl 6)] 0) [] rx_wm) 25 (rx_KZ 6) [] rx_wZ0 0 0 = true := by decide +kernel
set_option maxRecDepth 1000000 in
theorem rx_hZ6 : rx_isM (rx_lawRF [((0, [(0, 63)]), 2147483672, 2147483672), ((1, []), 2147483654, 2147483654)] 7 859 (rx_find rx_mL 18) rx_L0 [] rx_w0 221 26609) 859 rx_L0 [.inl (.inl 6), .inr (.inr (.inl (some 170))), .inl (.inl 0)] 221 26609 = true := by decide +kernel
set_option maxRecDepth 1000000 in
theorem rx_nZ7 : rx_is (rx_mRF rx_xZ [] 25 0 (rx_args [.inr (.inr (.inl (some 0))), .inl (.inl 7)] 0) [] rx_wm) 25 (rx_KZ 7) [] rx_wZ0 0 0 = true := by decide +kernel
set_option maxRecDepth 1000000 in
theorem rx_hZ7 : rx_isM (rx_lawRF [((0, [(0, 63)]), 2147483672, 2147483672), ((1, []), 2147483655, 2147483655)] 7 859 (rx_find rx_mL 18) rx_L0 [] rx_w0 221 26609) 859 rx_L0 [.inl (.inl 7), .inr (.inr (.inl (some 170))), .inl (.inl 0)] 221 26609 = true := by decide +kernel
set_option maxRecDepth 1000000 in
theorem rx_nZ8 : rx_is (rx_mRF rx_xZ [] 25 0 (rx_args [.inr (.inr (.inl (some 0))), .inl (.inl 8)] 0) [] rx_wm) 25 (rx_KZ 8) [] rx_wZ0 0 0 = true := by decide +kernel
set_option maxRecDepth 1000000 in
theorem rx_hZ8 : rx_isM (rx_lawRF [((0, [(0, 63)]), 2147483672, 2147483672), ((1, []), 2147483656, 2147483656)] 7 859 (rx_find rx_mL 18) rx_L0 [] rx_w0 221 26609) 859 rx_L0 [.inl (.inl 8), .inr (.inr (.inl (some 170))), .inl (.inl 0)] 221 26609 = true := by decide +kernel
set_option maxRecDepth 1000000 in
theorem rx_nZ9 : rx_is (rx_mRF rx_xZ [] 25 0 (rx_args [.inr (.inr (.inl (some 0))), .inl (.inl 9)] 0) [] rx_wm) 25 (rx_KZ 9) [] rx_wZ0 0 0 = true := by decide +kernel
set_option maxRecDepth 1000000 in
theorem rx_hZ9 : rx_isM (rx_lawRF [((0, [(0, 63)]), 2147483672, 2147483672), ((1, []), 2147483657, 2147483657)] 7 859 (rx_find rx_mL 18) rx_L0 [] rx_w0 221 26609) 859 rx_L0 [.inl (.inl 9), .inr (.inr (.inl (some 170))), .inl (.inl 0)] 221 26609 = true := by decide +kernel
set_option maxRecDepth 1000000 in
theorem rx_nZ10 : rx_is (rx_mRF rx_xZ [] 25 0 (rx_args [.inr (.inr (.inl (some 0))), .inl (.inl 10)] 0) [] rx_wm) 25 (rx_KZ 10) [] rx_wZ0 0 0 = true := by decide +kernel
set_option maxRecDepth 1000000 in
theorem rx_hZ10 : rx_isM (rx_lawRF [((0, [(0, 63)]), 2147483672, 2147483672), ((1, []), 2147483658, 2147483658)] 7 859 (rx_find rx_mL 18) rx_L0 [] rx_w0 221 26609) 859 rx_L0 [.inl (.inl 10), .inr (.inr (.inl (some 170))), .inl (.inl 0)] 221 26609 = true := by decide +kernel
