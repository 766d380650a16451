/-! printed by wip/p1/heavy.py: entries of later, and the law up to the call -/
set_option maxRecDepth 1000000 in
theorem rx_nV20_0 : rx_is (rx_mRF rx_xV [] 30 0 (rx_args [.inr (.inr (.inl (some 0))), .inl (.inl 20), .inl (.inl 0)] 0) [] rx_wm) 30 (rx_KV 20 0) [] rx_wV0 0 0 = true := by decide +kernel
set_option maxRecDepth 1000000 in
theorem rx_hV20_0 : rx_isM (rx_lawRF [((0, [(0, 63)]), 2147483664, 2147483664), ((1, []), 2147483668, 2147483668), ((2, []), 2147483648, 2147483648)] 7 675 (rx_find rx_mL 18) rx_L0 [] rx_w0 221 26609) 675 rx_L0 [.inl (.inl 0), .inl (.inl 20), .inr (.inr (.inl (some 170))), .inl (.inl 0)] 221 26609 = true := by decide +kernel
set_option maxRecDepth 1000000 in
theorem rx_nV20_1 : rx_is (rx_mRF rx_xV [] 30 0 (rx_args [.inr (.inr (.inl (some 0))), .inl (.inl 20), .inl (.inl 1)] 0) [] rx_wm) 30 (rx_KV 20 1) [] rx_wV0 0 0 = true := by decide +kernel
set_option maxRecDepth 1000000 in
theorem rx_hV20_1 : rx_isM (rx_lawRF [((0, [(0, 63)]), 2147483664, 2147483664), ((1, []), 2147483668, 2147483668), ((2, []), 2147483649, 2147483649)] 7 675 (rx_find rx_mL 18) rx_L0 [] rx_w0 221 26609) 675 rx_L0 [.inl (.inl 1), .inl (.inl 20), .inr (.inr (.inl (some 170))), .inl (.inl 0)] 221 26609 = true := by decide +kernel
set_option maxRecDepth 1000000 in
theorem rx_nV21_0 : rx_is (rx_mRF rx_xV [] 30 0 (rx_args [.inr (.inr (.inl (some 0))), .inl (.inl 21), .inl (.inl 0)] 0) [] rx_wm) 30 (rx_KV 21 0) [] rx_wV0 0 0 = true := by decide +kernel
set_option maxRecDepth 1000000 in
theorem rx_hV21_0 : rx_isM (rx_lawRF [((0, [(0, 63)]), 2147483664, 2147483664), ((1, []), 2147483669, 2147483669), ((2, []), 2147483648, 2147483648)] 7 675 (rx_find rx_mL 18) rx_L0 [] rx_w0 221 26609) 675 rx_L0 [.inl (.inl 0), .inl (.inl 21), .inr (.inr (.inl (some 170))), .inl (.inl 0)] 221 26609 = true := by decide +kernel
set_option maxRecDepth 1000000 in
theorem rx_nV21_1 : rx_is (rx_mRF rx_xV [] 30 0 (rx_args [.inr (.inr (.inl (some 0))), .inl (.inl 21), .inl (.inl 1)] 0) [] rx_wm) 30 (rx_KV 21 1) [] rx_wV0 0 0 = true := by decide +kernel
set_option maxRecDepth 1000000 in
theorem rx_hV21_1 : rx_isM (rx_lawRF [((0, [(0, 63)]), 2147483664, 2147483664), ((1, []), 2147483669, 2147483669), ((2, []), 2147483649, 2147483649)] 7 675 (rx_find rx_mL 18) rx_L0 [] rx_w0 221 26609) 675 rx_L0 [.inl (.inl 1), .inl (.inl 21), .inr (.inr (.inl (some 170))), .inl (.inl 0)] 221 26609 = true := by decide +kernel
set_option maxRecDepth 1000000 in
theorem rx_nV22_0 : rx_is (rx_mRF rx_xV [] 30 0 (rx_args [.inr (.inr (.inl (some 0))), .inl (.inl 22), .inl (.inl 0)] 0) [] rx_wm) 30 (rx_KV 22 0) [] rx_wV0 0 0 = true := by decide +kernel
set_option maxRecDepth 1000000 in
theorem rx_hV22_0 : rx_isM (rx_lawRF [((0, [(0, 63)]), 2147483664, 2147483664), ((1, []), 2147483670, 2147483670), ((2, []), 2147483648, 2147483648)] 7 675 (rx_find rx_mL 18) rx_L0 [] rx_w0 221 26609) 675 rx_L0 [.inl (.inl 0), .inl (.inl 22), .inr (.inr (.inl (some 170))), .inl (.inl 0)] 221 26609 = true := by decide +kernel
set_option maxRecDepth 1000000 in
theorem rx_nV22_1 : rx_is (rx_mRF rx_xV [] 30 0 (rx_args [.inr (.inr (.inl (some 0))), .inl (.inl 22), .inl (.inl 1)] 0) [] rx_wm) 30 (rx_KV 22 1) [] rx_wV0 0 0 = true := by decide +kernel
set_option maxRecDepth 1000000 in
theorem rx_hV22_1 : rx_isM (rx_lawRF [((0, [(0, 63)]), 2147483664, 2147483664), ((1, []), 2147483670, 2147483670), ((2, []), 2147483649, 2147483649)] 7 675 (rx_find rx_mL 18) rx_L0 [] rx_w0 221 26609) 675 rx_L0 [.inl (.inl 1), .inl (.inl 22), .inr (.inr (.inl (some 170))), .inl (.inl 0)] 221 26609 = true := by decide +kernel
set_option maxRecDepth 1000000 in
theorem rx_nV23_0 : rx_is (rx_mRF rx_xV [] 30 0 (rx_args [.inr (.inr (.inl (some 0))), .inl (.inl 23), .inl (.inl 0)] 0) [] rx_wm) 30 (rx_KV 23 0) [] rx_wV0 0 0 = true := by decide +kernel
set_option maxRecDepth 1000000 in
theorem rx_hV23_0 : rx_isM (rx_lawRF [((0, [(0, 63)]), 2147483664, 2147483664), ((1, []), 2147483671, 2147483671), ((2, []), 2147483648, 2147483648)] 7 675 (rx_find rx_mL 18) rx_L0 [] rx_w0 221 26609) 675 rx_L0 [.inl (.inl 0), .inl (.inl 23), .inr (.inr (.inl (some 170))), .inl (.inl 0)] 221 26609 = true := by decide +kernel
set_option maxRecDepth 1000000 in
theorem rx_nV23_1 : rx_is (rx_mRF rx_xV [] 30 0 (rx_args [.inr (.inr (.inl (some 0))), .inl (.inl 23), .inl (.inl 1)] 0) [] rx_wm) 30 (rx_KV 23 1) [] rx_wV0 0 0 = true := by decide +kernel
set_option maxRecDepth 1000000 in
theorem rx_hV23_1 : rx_isM (rx_lawRF [((0, [(0, 63)]), 2147483664, 2147483664), ((1, []), 2147483671, 2147483671), ((2, []), 2147483649, 2147483649)] 7 675 (rx_find rx_mL 18) rx_L0 [] rx_w0 221 26609) 675 rx_L0 [.inl (.inl 1), .inl (.inl 23), .inr (.inr (.inl (some 170))), .inl (.inl 0)] 221 26609 = true := by decide +kernel
set_option maxRecDepth 1000000 in
theorem rx_nV24_0 : rx_is (rx_mRF rx_xV [] 30 0 (rx_args [.inr (.inr (.inl (some 0))), .inl (.inl 24), .inl (.inl 0)] 0) [] rx_wm) 30 (rx_KV 24 0) [] rx_wV0 0 0 = true := by decide +kernel
set_option maxRecDepth 1000000 in
theorem rx_hV24_0 : rx_isM (rx_lawRF [((0, [(0, 63)]), 2147483664, 2147483664), ((1, []), 2147483672, 2147483672), ((2, []), 2147483648, 2147483648)] 7 675 (rx_find rx_mL 18) rx_L0 [] rx_w0 221 26609) 675 rx_L0 [.inl (.inl 0), .inl (.inl 24), .inr (.inr (.inl (some 170))), .inl (.inl 0)] 221 26609 = true := by decide +kernel
set_option maxRecDepth 1000000 in
theorem rx_nV24_1 : rx_is (rx_mRF rx_xV [] 30 0 (rx_args [.inr (.inr (.inl (some 0))), .inl (.inl 24), .inl (.inl 1)] 0) [] rx_wm) 30 (rx_KV 24 1) [] rx_wV0 0 0 = true := by decide +kernel
set_option maxRecDepth 1000000 in
theorem rx_hV24_1 : rx_isM (rx_lawRF [((0, [(0, 63)]), 2147483664, 2147483664), ((1, []), 2147483672, 2147483672), ((2, []), 2147483649, 2147483649)] 7 675 (rx_find rx_mL 18) rx_L0 [] rx_w0 221 26609) 675 rx_L0 [.inl (.inl 1), .inl (.inl 24), .inr (.inr (.inl (some 170))), .inl (.inl 0)] 221 26609 = true := by decide +kernel
set_option maxRecDepth 1000000 in
theorem rx_nV25_0 : rx_is (rx_mRF rx_xV [] 30 0 (rx_args [.inr (.inr (.inl (some 0))), .inl (.inl 25), .inl (.inl 0)] 0) [] rx_wm) 30 (rx_KV 25 0) [] rx_wV0 0 0 = true := by decide +kernel
set_option maxRecDepth 1000000 in
theorem rx_hV25_0 : rx_isM (rx_lawRF [((0, [(0, 63)]), 2147483664, 2147483664), ((1, []), 2147483673, 2147483673), ((2, []), 2147483648, 2147483648)] 7 675 (rx_find rx_mL 18) rx_L0 [] rx_w0 221 26609) 675 rx_L0 [.inl (.inl 0), .inl (.inl 25), .inr (.inr (.inl (some 170))), .inl (.inl 0)] 221 26609 = true := by decide +kernel
set_option maxRecDepth 1000000 in
theorem rx_nV25_1 : rx_is (rx_mRF rx_xV [] 30 0 (rx_args [.inr (.inr (.inl (some 0))), .inl (.inl 25), .inl (.inl 1)] 0) [] rx_wm) 30 (rx_KV 25 1) [] rx_wV0 0 0 = true := by decide +kernel
set_option maxRecDepth 1000000 in
theorem rx_hV25_1 : rx_isM (rx_lawRF [((0, [(0, 63)]), 2147483664, 2147483664), ((1, []), 2147483673, 2147483673), ((2, []), 2147483649, 2147483649)] 7 675 (rx_find rx_mL 18) rx_L0 [] rx_w0 221 26609) 675 rx_L0 [.inl (.inl 1), .inl (.inl 25), .inr (.inr (.inl (some 170))), .inl (.inl 0)] 221 26609 = true := by decide +kernel
set_option maxRecDepth 1000000 in
theorem rx_nV26_0 : rx_is (rx_mRF rx_xV [] 30 0 (rx_args [.inr (.inr (.inl (some 0))), .inl (.inl 26), .inl (.inl 0)] 0) [] rx_wm) 30 (rx_KV 26 0) [] rx_wV0 0 0 = true := by decide +kernel
set_option maxRecDepth 1000000 in
theorem rx_hV26_0 : rx_isM (rx_lawRF [((0, [(0, 63)]), 2147483664, 2147483664), ((1, []), 2147483674, 2147483674), ((2, []), 2147483648, 2147483648)] 7 675 (rx_find rx_mL 18) rx_L0 [] rx_w0 221 26609) 675 rx_L0 [.inl (.inl 0), .inl (.inl 26), .inr (.inr (.inl (some 170))), .inl (.inl 0)] 221 26609 = true := by decide +kernel
set_option maxRecDepth 1000000 in
theorem rx_nV26_1 : rx_is (rx_mRF rx_xV [] 30 0 (rx_args [.inr (.inr (.inl (some 0))), .inl (.inl 26), .inl (.inl 1)] 0) [] rx_wm) 30 (rx_KV 26 1) [] rx_wV0 0 0 = true := by decide +kernel
set_option maxRecDepth 1000000 in
theorem rx_hV26_1 : rx_isM (rx_lawRF [((0, [(0, 63)]), 2147483664, 2147483664), ((1, []), 2147483674, 2147483674), ((2, []), 2147483649, 2147483649)] 7 675 (rx_find rx_mL 18) rx_L0 [] rx_w0 221 26609) 675 rx_L0 [.inl (.inl 1), .inl (.inl 26), .inr (.inr (.inl (some 170))), .inl (.inl 0)] 221 26609 = true := by decide +kernel
set_option maxRecDepth 1000000 in
theorem rx_nV27_0 : rx_is (rx_mRF rx_xV [] 30 0 (rx_args [.inr (.inr (.inl (some 0))), .inl (.inl 27), .inl (.inl 0)] 0) [] rx_wm) 30 (rx_KV 27 0) [] rx_wV0 0 0 = true := by decide +kernel
set_option maxRecDepth 1000000 in
theorem rx_hV27_0 : rx_isM (rx_lawRF [((0, [(0, 63)]), 2147483664, 2147483664), ((1, []), 2147483675, 2147483675), ((2, []), 2147483648, 2147483648)] 7 675 (rx_find rx_mL 18) rx_L0 [] rx_w0 221 26609) 675 rx_L0 [.inl (.inl 0), .inl (.inl 27), .inr (.inr (.inl (some 170))), .inl (.inl 0)] 221 26609 = true := by decide +kernel
set_option maxRecDepth 1000000 in
theorem rx_nV27_1 : rx_is (rx_mRF rx_xV [] 30 0 (rx_args [.inr (.inr (.inl (some 0))), .inl (.inl 27), .inl (.inl 1)] 0) [] rx_wm) 30 (rx_KV 27 1) [] rx_wV0 0 0 = true := by decide +kernel
set_option maxRecDepth 1000000 in
theorem rx_hV27_1 : rx_isM (rx_lawRF [((0, [(0, 63)]), 2147483664, 2147483664), ((1, []), 2147483675, 2147483675), ((2, []), 2147483649, 2147483649)] 7 675 (rx_find rx_mL 18) rx_L0 [] rx_w0 221 26609) 675 rx_L0 [.inl (.inl 1), .inl (.inl 27), .inr (.inr (.inl (some 170))), .inl (.inl 0)] 221 26609 = true := by decide +kernel
set_option maxRecDepth 1000000 in
theorem rx_nV28_0 : rx_is (rx_mRF rx_xV [] 30 0 (rx_args [.inr (.inr (.inl (some 0))), .inl (.inl 28), .inl (.inl 0)] 0) [] rx_wm) 30 (rx_KV 28 0) [] rx_wV0 0 0 = true := by decide +kernel
set_option maxRecDepth 1000000 in
theorem rx_hV28_0 : rx_isM (rx_lawRF [((0, [(0, 63)]), 2147483664, 2147483664), ((1, []), 2147483676, 2147483676), ((2, []), 2147483648, 2147483648)] 7 675 (rx_find rx_mL 18) rx_L0 [] rx_w0 221 26609) 675 rx_L0 [.inl (.inl 0), .inl (.inl 28), .inr (.inr (.inl (some 170))), .inl (.inl 0)] 221 26609 = true := by decide +kernel
set_option maxRecDepth 1000000 in
theorem rx_nV28_1 : rx_is (rx_mRF rx_xV [] 30 0 (rx_args [.inr (.inr (.inl (some 0))), .inl (.inl 28), .inl (.inl 1)] 0) [] rx_wm) 30 (rx_KV 28 1) [] rx_wV0 0 0 = true := by decide +kernel
set_option maxRecDepth 1000000 in
theorem rx_hV28_1 : rx_isM (rx_lawRF [((0, [(0, 63)]), 2147483664, 2147483664), ((1, []), 2147483676, 2147483676), ((2, []), 2147483649, 2147483649)] 7 675 (rx_find rx_mL 18) rx_L0 [] rx_w0 221 26609) 675 rx_L0 [.inl (.inl 1), .inl (.inl 28), .inr (.inr (.inl (some 170))), .inl (.inl 0)] 221 26609 = true := by decide +kernel
set_option maxRecDepth 1000000 in
theorem rx_nV29_0 : rx_is (rx_mRF rx_xV [] 30 0 (rx_args [.inr (.inr (.inl (some 0))), .inl (.inl 29), .inl (.inl 0)] 0) [] rx_wm) 30 (rx_KV 29 0) [] rx_wV0 0 0 = true := by decide +kernel
set_option maxRecDepth 1000000 in
theorem rx_hV29_0 : rx_isM (rx_lawRF [((0, [(0, 63)]), 2147483664, 2147483664), ((1, []), 2147483677, 2147483677), ((2, []), 2147483648, 2147483648)] 7 675 (rx_find rx_mL 18) rx_L0 [] rx_w0 221 26609) 675 rx_L0 [.inl (.inl 0), .inl (.inl 29), .inr (.inr (.inl (some 170))), .inl (.inl 0)] 221 26609 = true := by decide +kernel
set_option maxRecDepth 1000000 in
theorem rx_nV29_1 : rx_is (rx_mRF rx_xV [] 30 0 (rx_args [.inr (.inr (.inl (some 0))), .inl (.inl 29), .inl (.inl 1)] 0) [] rx_wm) 30 (rx_KV 29 1) [] rx_wV0 0 0 = true := by decide +kernel
set_option maxRecDepth 1000000 in
theorem rx_hV29_1 : rx_isM (rx_lawRF [((0, [(0, 63)]), 2147483664, 2147483664), ((1, []), 2147483677, 2147483677), ((2, []), 2147483649, 2147483649)] 7 675 (rx_find rx_mL 18) rx_L0 [] rx_w0 221 26609) 675 rx_L0 [.inl (.inl 1), .inl (.inl 29), .inr (.inr (.inl (some 170))), .inl (.inl 0)] 221 26609 = true := by decide +kernel
