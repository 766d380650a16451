/-! printed by wip/p1/heavy.py: entries of chance, and the law up to the call -/
set_option maxRecDepth 1000000 in
theorem rx_nZ21 : rx_is (rx_mRF rx_xZ [] 25 0 (rx_args [.inr (.inr (.inl (some 0))), .inl (.inl 21)] 0) [] rx_wm) 25 (rx_KZ 21) [] rx_wZ0 0 0 = true := by decide +kernel
set_option maxRecDepth 1000000 in
theorem rx_hZ21 : rx_isM (rx_lawRF [((0, [(0, 63)]), 2147483672, 2147483672), ((1, []), 2147483669, 2147483669)] 7 859 (rx_find rx_mL 18) rx_L0 [] rx_w0 221 26609) 859 rx_L0 [.inl (.inl 21), .inr (.inr (.inl (some 170))), .inl (.inl 0)] 221 26609 = true := by decide +kernel
set_option maxRecDepth 1000000 in
theorem rx_nZ22 : rx_is (rx_mRF rx_xZ [] 25 0 (rx_args [.inr (.inr (.inl (some 0))), .inl (.inl 22)] 0) [] rx_wm) 25 (rx_KZ 22) [] rx_wZ0 0 0 = true := by decide +kernel
set_option maxRecDepth 1000000 in
theorem rx_hZ22 : rx_isM (rx_lawRF [((0, [(0, 63)]), 2147483672, 2147483672), ((1, []), 2147483670, 2147483670)] 7 859 (rx_find rx_mL 18) rx_L0 [] rx_w0 221 26609) 859 rx_L0 [.inl (.inl 22), .inr (.inr (.inl (some 170))), .inl (.inl 0)] 221 26609 = true := by decide +kernel
set_option maxRecDepth 1000000 in
theorem rx_nZ23 : rx_is (rx_mRF rx_xZ [] 25 0 (rx_args [.inr (.inr (.inl (some 0))), .inl (.inl 23)] 0) [] rx_wm) 25 (rx_KZ 23) [] rx_wZ0 0 0 = true := by decide +kernel
set_option maxRecDepth 1000000 in
theorem rx_hZ23 : rx_isM (rx_lawRF [((0, [(0, 63)]), 2147483672, 2147483672), ((1, []), 2147483671, 2147483671)] 7 859 (rx_find rx_mL 18) rx_L0 [] rx_w0 221 26609) 859 rx_L0 [.inl (.inl 23), .inr (.inr (.inl (some 170))), .inl (.inl 0)] 221 26609 = true := by decide +kernel
set_option maxRecDepth 1000000 in
theorem rx_nZ24 : rx_is (rx_mRF rx_xZ [] 25 0 (rx_args [.inr (.inr (.inl (some 0))), .inl (.inl 24)] 0) [] rx_wm) 25 (rx_KZ 24) [] rx_wZ0 0 0 = true := by decide +kernel
set_option maxRecDepth 1000000 in
theorem rx_hZ24 : rx_isM (rx_lawRF [((0, [(0, 63)]), 2147483672, 2147483672), ((1, []), 2147483672, 2147483672)] 7 859 (rx_find rx_mL 18) rx_L0 [] rx_w0 221 26609) 859 rx_L0 [.inl (.inl 24), .inr (.inr (.inl (some 170))), .inl (.inl 0)] 221 26609 = true := by decide +kernel
set_option maxRecDepth 1000000 in
theorem rx_nZ25 : rx_is (rx_mRF rx_xZ [] 25 0 (rx_args [.inr (.inr (.inl (some 0))), .inl (.inl 25)] 0) [] rx_wm) 25 (rx_KZ 25) [] rx_wZ0 0 0 = true := by decide +kernel
set_option maxRecDepth 1000000 in
theorem rx_hZ25 : rx_isM (rx_lawRF [((0, [(0, 63)]), 2147483672, 2147483672), ((1, []), 2147483673, 2147483673)] 7 859 (rx_find rx_mL 18) rx_L0 [] rx_w0 221 26609) 859 rx_L0 [.inl (.inl 25), .inr (.inr (.inl (some 170))), .inl (.inl 0)] 221 26609 = true := by decide +kernel
set_option maxRecDepth 1000000 in
theorem rx_nZ26 : rx_is (rx_mRF rx_xZ [] 25 0 (rx_args [.inr (.inr (.inl (some 0))), .inl (.inl 26)] 0) [] rx_wm) 25 (rx_KZ 26) [] rx_wZ0 0 0 = true := by decide +kernel
set_option maxRecDepth 1000000 in
theorem rx_hZ26 : rx_isM (rx_lawRF [((0, [(0, 63)]), 2147483672, 2147483672), ((1, []), 2147483674, 2147483674)] 7 859 (rx_find rx_mL 18) rx_L0 [] rx_w0 221 26609) 859 rx_L0 [.inl (.inl 26), .inr (.inr (.inl (some 170))), .inl (.inl 0)] 221 26609 = true := by decide +kernel
set_option maxRecDepth 1000000 in
theorem rx_nZ27 : rx_is (rx_mRF rx_xZ [] 25 0 (rx_args [.inr (.inr (.inl (some 0))), .inl (.inl 27)] 0) [] rx_wm) 25 (rx_KZ 27) [] rx_wZ0 0 0 = true := by decide +kernel
set_option maxRecDepth 1000000 in
theorem rx_hZ27 : rx_isM (rx_lawRF [((0, [(0, 63)]), 2147483672, 2147483672), ((1, []), 2147483675, 2147483675)] 7 859 (rx_find rx_mL 18) rx_L0 [] rx_w0 221 26609) 859 rx_L0 [.inl (.inl 27), .inr (.inr (.inl (some 170))), .inl (.inl 0)] 221 26609 = true := by decide +kernel
set_option maxRecDepth 1000000 in
theorem rx_nZ28 : rx_is (rx_mRF rx_xZ [] 25 0 (rx_args [.inr (.inr (.inl (some 0))), .inl (.inl 28)] 0) [] rx_wm) 25 (rx_KZ 28) [] rx_wZ0 0 0 = true := by decide +kernel
set_option maxRecDepth 1000000 in
theorem rx_hZ28 : rx_isM (rx_lawRF [((0, [(0, 63)]), 2147483672, 2147483672), ((1, []), 2147483676, 2147483676)] 7 859 (rx_find rx_mL 18) rx_L0 [] rx_w0 221 26609) 859 rx_L0 [.inl (.inl 28), .inr (.inr (.inl (some 170))), .inl (.inl 0)] 221 26609 = true := by decide +kernel
set_option maxRecDepth 1000000 in
theorem rx_nZ29 : rx_is (rx_mRF rx_xZ [] 25 0 (rx_args [.inr (.inr (.inl (some 0))), .inl (.inl 29)] 0) [] rx_wm) 25 (rx_KZ 29) [] rx_wZ0 0 0 = true := by decide +kernel
set_option maxRecDepth 1000000 in
theorem rx_hZ29 : rx_isM (rx_lawRF [((0, [(0, 63)]), 2147483672, 2147483672), ((1, []), 2147483677, 2147483677)] 7 859 (rx_find rx_mL 18) rx_L0 [] rx_w0 221 26609) 859 rx_L0 [.inl (.inl 29), .inr (.inr (.inl (some 170))), .inl (.inl 0)] 221 26609 = true := by decide +kernel
set_option maxRecDepth 1000000 in
theorem rx_nZ30 : rx_is (rx_mRF rx_xZ [] 25 0 (rx_args [.inr (.inr (.inl (some 0))), .inl (.inl 30)] 0) [] rx_wm) 25 (rx_KZ 30) [] rx_wZ0 0 0 = true := by decide +kernel
set_option maxRecDepth 1000000 in
theorem rx_hZ30 : rx_isM (rx_lawRF [((0, [(0, 63)]), 2147483672, 2147483672), ((1, []), 2147483678, 2147483678)] 7 859 (rx_find rx_mL 18) rx_L0 [] rx_w0 221 26609) 859 rx_L0 [.inl (.inl 30), .inr (.inr (.inl (some 170))), .inl (.inl 0)] 221 26609 = true := by decide +kernel
