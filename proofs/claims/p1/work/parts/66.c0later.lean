/-! printed by wip/p1/heavy.py: entries of later, and the law up to the call -/
set_option maxRecDepth 1000000 in
theorem rx_nV0_0 : rx_is (rx_mRF rx_xV [] 30 0 (rx_args [.inr (.inr (.inl (some 0))), .inl (.inl 0), .inl (.inl 0)] 0) [] rx_wm) 30 (rx_KV 0 0) [] rx_wV0 0 0 = true := by decide +kernel
set_option maxRecDepth 1000000 in
theorem rx_hV0_0 : rx_isM (rx_lawRF [((0, [(0, 63)]), 2147483664, 2147483664), ((1, []), 2147483648, 2147483648), ((2, []), 2147483648, 2147483648)] 7 675 (rx_find rx_mL 18) rx_L0 [] rx_w0 221 26609) 675 rx_L0 [.inl (.inl 0), .inl (.inl 0), .inr (.inr (.inl (some 170))), .inl (.inl 0)] 221 26609 = true := by decide +kernel
set_option maxRecDepth 1000000 in
theorem rx_nV0_1 : rx_is (rx_mRF rx_xV [] 30 0 (rx_args [.inr (.inr (.inl (some 0))), .inl (.inl 0), .inl (.inl 1)] 0) [] rx_wm) 30 (rx_KV 0 1) [] rx_wV0 0 0 = true := by decide +kernel
set_option maxRecDepth 1000000 in
theorem rx_hV0_1 : rx_isM (rx_lawRF [((0, [(0, 63)]), 2147483664, 2147483664), ((1, []), 2147483648, 2147483648), ((2, []), 2147483649, 2147483649)] 7 675 (rx_find rx_mL 18) rx_L0 [] rx_w0 221 26609) 675 rx_L0 [.inl (.inl 1), .inl (.inl 0), .inr (.inr (.inl (some 170))), .inl (.inl 0)] 221 26609 = true := by decide +kernel
set_option maxRecDepth 1000000 in
theorem rx_nV1_0 : rx_is (rx_mRF rx_xV [] 30 0 (rx_args [.inr (.inr (.inl (some 0))), .inl (.inl 1), .inl (.inl 0)] 0) [] rx_wm) 30 (rx_KV 1 0) [] rx_wV0 0 0 = true := by decide +kernel
set_option maxRecDepth 1000000 in
theorem rx_hV1_0 : rx_isM (rx_lawRF [((0, [(0, 63)]), 2147483664, 2147483664), ((1, []), 2147483649, 2147483649), ((2, []), 2147483648, 2147483648)] 7 675 (rx_find rx_mL 18) rx_L0 [] rx_w0 221 26609) 675 rx_L0 [.inl (.inl 0), .inl (.inl 1), .inr (.inr (.inl (some 170))), .inl (.inl 0)] 221 26609 = true := by decide +kernel
set_option maxRecDepth 1000000 in
theorem rx_nV1_1 : rx_is (rx_mRF rx_xV [] 30 0 (rx_args [.inr (.inr (.inl (some 0))), .inl (.inl 1), .inl (.inl 1)] 0) [] rx_wm) 30 (rx_KV 1 1) [] rx_wV0 0 0 = true := by decide +kernel
set_option maxRecDepth 1000000 in
theorem rx_hV1_1 : rx_isM (rx_lawRF [((0, [(0, 63)]), 2147483664, 2147483664), ((1, []), 2147483649, 2147483649), ((2, []), 2147483649, 2147483649)] 7 675 (rx_find rx_mL 18) rx_L0 [] rx_w0 221 26609) 675 rx_L0 [.inl (.inl 1), .inl (.inl 1), .inr (.inr (.inl (some 170))), .inl (.inl 0)] 221 26609 = true := by decide +kernel
set_option maxRecDepth 1000000 in
theorem rx_nV2_0 : rx_is (rx_mRF rx_xV [] 30 0 (rx_args [.inr (.inr (.inl (some 0))), .inl (.inl 2), .inl (.inl 0)] 0) [] rx_wm) 30 (rx_KV 2 0) [] rx_wV0 0 0 = true := by decide +kernel
set_option maxRecDepth 1000000 in
theorem rx_hV2_0 : rx_isM (rx_lawRF [((0, [(0, 63)]), 2147483664, 2147483664), ((1, []), 2147483650, 2147483650), ((2, []), 2147483648, 2147483648)] 7 675 (rx_find rx_mL 18) rx_L0 [] rx_w0 221 26609) 675 rx_L0 [.inl (.inl 0), .inl (.inl 2), .inr (.inr (.inl (some 170))), .inl (.inl 0)] 221 26609 = true := by decide +kernel
set_option maxRecDepth 1000000 in
theorem rx_nV2_1 : rx_is (rx_mRF rx_xV [] 30 0 (rx_args [.inr (.inr (.inl (some 0))), .inl (.inl 2), .inl (.inl 1)] 0) [] rx_wm) 30 (rx_KV 2 1) [] rx_wV0 0 0 = true := by decide +kernel
set_option maxRecDepth 1000000 in
theorem rx_hV2_1 : rx_isM (rx_lawRF [((0, [(0, 63)]), 2147483664, 2147483664), ((1, []), 2147483650, 2147483650), ((2, []), 2147483649, 2147483649)] 7 675 (rx_find rx_mL 18) rx_L0 [] rx_w0 221 26609) 675 rx_L0 [.inl (.inl 1), .inl (.inl 2), .inr (.inr (.inl (some 170))), .inl (.inl 0)] 221 26609 = true := by decide +kernel
set_option maxRecDepth 1000000 in
theorem rx_nV3_0 : rx_is (rx_mRF rx_xV [] 30 0 (rx_args [.inr (.inr (.inl (some 0))), .inl (.inl 3), .inl (.inl 0)] 0) [] rx_wm) 30 (rx_KV 3 0) [] rx_wV0 0 0 = true := by decide +kernel
set_option maxRecDepth 1000000 in
theorem rx_hV3_0 : rx_isM (rx_lawRF [((0, [(0, 63)]), 2147483664, 2147483664), ((1, []), 2147483651, 2147483651), ((2, []), 2147483648, 2147483648)] 7 675 (rx_find rx_mL 18) rx_L0 [] rx_w0 221 26609) 675 rx_L0 [.inl (.inl 0), .inl (.inl 3), .inr (.inr (.inl (some 170))), .inl (.inl 0)] 221 26609 = true := by decide +kernel
set_option maxRecDepth 1000000 in
theorem rx_nV3_1 : rx_is (rx_mRF rx_xV [] 30 0 (rx_args [.inr (.inr (.inl (some 0))), .inl (.inl 3), .inl (.inl 1)] 0) [] rx_wm) 30 (rx_KV 3 1) [] rx_wV0 0 0 = true := by decide +kernel
set_option maxRecDepth 1000000 in
theorem rx_hV3_1 : rx_isM (rx_lawRF [((0, [(0, 63)]), 2147483664, 2147483664), ((1, []), 2147483651, 2147483651), ((2, []), 2147483649, 2147483649)] 7 675 (rx_find rx_mL 18) rx_L0 [] rx_w0 221 26609) 675 rx_L0 [.inl (.inl 1), .inl (.inl 3), .inr (.inr (.inl (some 170))), .inl (.inl 0)] 221 26609 = true := by decide +kernel
set_option maxRecDepth 1000000 in
theorem rx_nV4_0 : rx_is (rx_mRF rx_xV [] 30 0 (rx_args [.inr (.inr (.inl (some 0))), .inl (.inl 4), .inl (.inl 0)] 0) [] rx_wm) 30 (rx_KV 4 0) [] rx_wV0 0 0 = true := by decide +kernel
set_option maxRecDepth 1000000 in
theorem rx_hV4_0 : rx_isM (rx_lawRF [((0, [(0, 63)]), 2147483664, 2147483664), ((1, []), 2147483652, 2147483652), ((2, []), 2147483648, 2147483648)] 7 675 (rx_find rx_mL 18) rx_L0 [] rx_w0 221 26609) 675 rx_L0 [.inl (.inl 0), .inl (.inl 4), .inr (.inr (.inl (some 170))), .inl (.inl 0)] 221 26609 = true := by decide +kernel
set_option maxRecDepth 1000000 in
theorem rx_nV4_1 : rx_is (rx_mRF rx_xV [] 30 0 (rx_args [.inr (.inr (.inl (some 0))), .inl (.inl 4), .inl (.inl 1)] 0) [] rx_wm) 30 (rx_KV 4 1) [] rx_wV0 0 0 = true := by decide +kernel
set_option maxRecDepth 1000000 in
theorem rx_hV4_1 : rx_isM (rx_lawRF [((0, [(0, 63)]), 2147483664, 2147483664), ((1, []), 2147483652, 2147483652), ((2, []), 2147483649, 2147483649)] 7 675 (rx_find rx_mL 18) rx_L0 [] rx_w0 221 26609) 675 rx_L0 [.inl (.inl 1), .inl (.inl 4), .inr (.inr (.inl (some 170))), .inl (.inl 0)] 221 26609 = true := by decide +kernel
set_option maxRecDepth 1000000 in
theorem rx_nV5_0 : rx_is (rx_mRF rx_xV [] 30 0 (rx_args [.inr (.inr (.inl (some 0))), .inl (.inl 5), .inl (.inl 0)] 0) [] rx_wm) 30 (rx_KV 5 0) [] rx_wV0 0 0 = true := by decide +kernel
set_option maxRecDepth 1000000 in
theorem rx_hV5_0 : rx_isM (rx_lawRF [((0, [(0, 63)]), 2147483664, 2147483664), ((1, []), 2147483653, 2147483653), ((2, []), 2147483648, 2147483648)] 7 675 (rx_find rx_mL 18) rx_L0 [] rx_w0 221 26609) 675 rx_L0 [.inl (.inl 0), .inl (.inl 5), .inr (.inr (.inl (some 170))), .inl (.inl 0)] 221 26609 = true := by decide +kernel
set_option maxRecDepth 1000000 in
theorem rx_nV5_1 : rx_is (rx_mRF rx_xV [] 30 0 (rx_args [.inr (.inr (.inl (some 0))), .inl (.inl 5), .inl (.inl 1)] 0) [] rx_wm) 30 (rx_KV 5 1) [] rx_wV0 0 0 = true := by decide +kernel
set_option maxRecDepth 1000000 in
theorem rx_hV5_1 : rx_isM (rx_lawRF [((0, [(0, 63)]), 2147483664, 2147483664), ((1, []), 2147483653, 2147483653), ((2, []), 2147483649, 2147483649)] 7 675 (rx_find rx_mL 18) rx_L0 [] rx_w0 221 26609) 675 rx_L0 [.inl (.inl 1), .inl (.inl 5), .inr (.inr (.inl (some 170))), .inl (.inl 0)] 221 26609 = true := by decide +kernel
set_option maxRecDepth 1000000 in
theorem rx_nV6_0 : rx_is (rx_mRF rx_xV [] 30 0 (rx_args [.inr (.inr (.inl (some 0))), .inl (.inl 6), .inl (.inl 0)] 0) [] rx_wm) 30 (rx_KV 6 0) [] rx_wV0 0 0 = true := by decide +kernel
set_option maxRecDepth 1000000 in
theorem rx_hV6_0 : rx_isM (rx_lawRF [((0, [(0, 63)]), 2147483664, 2147483664), ((1, []), 2147483654, 2147483654), ((2, []), 2147483648, 2147483648)] 7 675 (rx_find rx_mL 18) rx_L0 [] rx_w0 221 26609) 675 rx_L0 [.inl (.inl 0), .inl (.inl 6), .inr (.inr (.inl (some 170))), .inl (.inl 0)] 221 26609 = true := by decide +kernel
set_option maxRecDepth 1000000 in
theorem rx_nV6_1 : rx_is (rx_mRF rx_xV [] 30 0 (rx_args [.inr (.inr (.inl (some 0))), .inl (.inl 6), .inl (.inl 1)] 0) [] rx_wm) 30 (rx_KV 6 1) [] rx_wV0 0 0 = true := by decide +kernel
set_option maxRecDepth 1000000 in
theorem rx_hV6_1 : rx_isM (rx_lawRF [((0, [(0, 63)]), 2147483664, 2147483664), ((1, []), 2147483654, 2147483654), ((2, []), 2147483649, 2147483649)] 7 675 (rx_find rx_mL 18) rx_L0 [] rx_w0 221 26609) 675 rx_L0 [.inl (.inl 1), .inl (.inl 6), .inr (.inr (.inl (some 170))), .inl (.inl 0)] 221 26609 = true := by decide +kernel
set_option maxRecDepth 1000000 in
theorem rx_nV7_0 : rx_is (rx_mRF rx_xV [] 30 0 (rx_args [.inr (.inr (.inl (some 0))), .inl (.inl 7), .inl (.inl 0)] 0) [] rx_wm) 30 (rx_KV 7 0) [] rx_wV0 0 0 = true := by decide +kernel
set_option maxRecDepth 1000000 in
theorem rx_hV7_0 : rx_isM (rx_lawRF [((0, [(0, 63)]), 2147483664, 2147483664), ((1, []), 2147483655, 2147483655), ((2, []), 2147483648, 2147483648)] 7 675 (rx_find rx_mL 18) rx_L0 [] rx_w0 221 26609) 675 rx_L0 [.inl (.inl 0), .inl (.inl 7), .inr (.inr (.inl (some 170))), .inl (.inl 0)] 221 26609 = true := by decide +kernel
set_option maxRecDepth 1000000 in
theorem rx_nV7_1 : rx_is (rx_mRF rx_xV [] 30 0 (rx_args [.inr (.inr (.inl (some 0))), .inl (.inl 7), .inl (.inl 1)] 0) [] rx_wm) 30 (rx_KV 7 1) [] rx_wV0 0 0 = true := by decide +kernel
set_option maxRecDepth 1000000 in
theorem rx_hV7_1 : rx_isM (rx_lawRF [((0, [(0, 63)]), 2147483664, 2147483664), ((1, []), 2147483655, 2147483655), ((2, []), 2147483649, 2147483649)] 7 675 (rx_find rx_mL 18) rx_L0 [] rx_w0 221 26609) 675 rx_L0 [.inl (.inl 1), .inl (.inl 7), .inr (.inr (.inl (some 170))), .inl (.inl 0)] 221 26609 = true := by decide +kernel
set_option maxRecDepth 1000000 in
theorem rx_nV8_0 : rx_is (rx_mRF rx_xV [] 30 0 (rx_args [.inr (.inr (.inl (some 0))), .inl (.inl 8), .inl (.inl 0)] 0) [] rx_wm) 30 (rx_KV 8 0) [] rx_wV0 0 0 = true := by decide +kernel
set_option maxRecDepth 1000000 in
theorem rx_hV8_0 : rx_isM (rx_lawRF [((0, [(0, 63)]), 2147483664, 2147483664), ((1, []), 2147483656, 2147483656), ((2, []), 2147483648, 2147483648)] 7 675 (rx_find rx_mL 18) rx_L0 [] rx_w0 221 26609) 675 rx_L0 [.inl (.inl 0), .inl (.inl 8), .inr (.inr (.inl (some 170))), .inl (.inl 0)] 221 26609 = true := by decide +kernel
set_option maxRecDepth 1000000 in
theorem rx_nV8_1 : rx_is (rx_mRF rx_xV [] 30 0 (rx_args [.inr (.inr (.inl (some 0))), .inl (.inl 8), .inl (.inl 1)] 0) [] rx_wm) 30 (rx_KV 8 1) [] rx_wV0 0 0 = true := by decide +kernel
set_option maxRecDepth 1000000 in
theorem rx_hV8_1 : rx_isM (rx_lawRF [((0, [(0, 63)]), 2147483664, 2147483664), ((1, []), 2147483656, 2147483656), ((2, []), 2147483649, 2147483649)] 7 675 (rx_find rx_mL 18) rx_L0 [] rx_w0 221 26609) 675 rx_L0 [.inl (.inl 1), .inl (.inl 8), .inr (.inr (.inl (some 170))), .inl (.inl 0)] 221 26609 = true := by decide +kernel
set_option maxRecDepth 1000000 in
theorem rx_nV9_0 : rx_is (rx_mRF rx_xV [] 30 0 (rx_args [.inr (.inr (.inl (some 0))), .inl (.inl 9), .inl (.inl 0)] 0) [] rx_wm) 30 (rx_KV 9 0) [] rx_wV0 0 0 = true := by decide +kernel
set_option maxRecDepth 1000000 in
theorem rx_hV9_0 : rx_isM (rx_lawRF [((0, [(0, 63)]), 2147483664, 2147483664), ((1, []), 2147483657, 2147483657), ((2, []), 2147483648, 2147483648)] 7 675 (rx_find rx_mL 18) rx_L0 [] rx_w0 221 26609) 675 rx_L0 [.inl (.inl 0), .inl (.inl 9), .inr (.inr (.inl (some 170))), .inl (.inl 0)] 221 26609 = true := by decide +kernel
set_option maxRecDepth 1000000 in
theorem rx_nV9_1 : rx_is (rx_mRF rx_xV [] 30 0 (rx_args [.inr (.inr (.inl (some 0))), .inl (.inl 9), .inl (.inl 1)] 0) [] rx_wm) 30 (rx_KV 9 1) [] rx_wV0 0 0 = true := by decide +kernel
set_option maxRecDepth 1000000 in
theorem rx_hV9_1 : rx_isM (rx_lawRF [((0, [(0, 63)]), 2147483664, 2147483664), ((1, []), 2147483657, 2147483657), ((2, []), 2147483649, 2147483649)] 7 675 (rx_find rx_mL 18) rx_L0 [] rx_w0 221 26609) 675 rx_L0 [.inl (.inl 1), .inl (.inl 9), .inr (.inr (.inl (some 170))), .inl (.inl 0)] 221 26609 = true := by decide +kernel
