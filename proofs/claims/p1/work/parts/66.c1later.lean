/-! printed by wip/p1/heavy.py: entries of later, and the law up to the call -/
set_option maxRecDepth 1000000 in
theorem rx_nV10_0 : rx_is (rx_mRF rx_xV [] 30 0 (rx_args [.inr (.inr (.inl (some 0))), .inl (.inl 10), .inl (.inl 0)] 0) [] rx_wm) 30 (rx_KV 10 0) [] rx_wV0 0 0 = true := by decide +kernel
set_option maxRecDepth 1000000 in
theorem rx_hV10_0 : rx_isM (rx_lawRF [((0, [(0, 63)]), 2147483664, 2147483664), ((1, []), 2147483658, 2147483658), ((2, []), 2147483648, 2147483648)] 7 675 (rx_find rx_mL 18) rx_L0 [] rx_w0 221 26609) 675 rx_L0 [.inl (.inl 0), .inl (.inl 10), .inr (.inr (.inl (some 170))), .inl (.inl 0)] 221 26609 = true := by decide +kernel
set_option maxRecDepth 1000000 in
theorem rx_nV10_1 : rx_is (rx_mRF rx_xV [] 30 0 (rx_args [.inr (.inr (.inl (some 0))), .inl (.inl 10), .inl (.inl 1)] 0) [] rx_wm) 30 (rx_KV 10 1) [] rx_wV0 0 0 = true := by decide +kernel
set_option maxRecDepth 1000000 in
theorem rx_hV10_1 : rx_isM (rx_lawRF [((0, [(0, 63)]), 2147483664, 2147483664), ((1, []), 2147483658, 2147483658), ((2, []), 2147483649, 2147483649)] 7 675 (rx_find rx_mL 18) rx_L0 [] rx_w0 221 26609) 675 rx_L0 [.inl (.inl 1), .inl (.inl 10), .inr (.inr (.inl (some 170))), .inl (.inl 0)] 221 26609 = true := by decide +kernel
set_option maxRecDepth 1000000 in
theorem rx_nV11_0 : rx_is (rx_mRF rx_xV [] 30 0 (rx_args [.inr (.inr (.inl (some 0))), .inl (.inl 11), .inl (.inl 0)] 0) [] rx_wm) 30 (rx_KV 11 0) [] rx_wV0 0 0 = true := by decide +kernel
set_option maxRecDepth 1000000 in
theorem rx_hV11_0 : rx_isM (rx_lawRF [((0, [(0, 63)]), 2147483664, 2147483664), ((1, []), 2147483659, 2147483659), ((2, []), 2147483648, 2147483648)] 7 675 (rx_find rx_mL 18) rx_L0 [] rx_w0 221 26609) 675 rx_L0 [.inl (.inl 0), .inl (.inl 11), .inr (.inr (.inl (some 170))), .inl (.inl 0)] 221 26609 = true := by decide +kernel
set_option maxRecDepth 1000000 in
theorem rx_nV11_1 : rx_is (rx_mRF rx_xV [] 30 0 (rx_args [.inr (.inr (.inl (some 0))), .inl (.inl 11), .inl (.inl 1)] 0) [] rx_wm) 30 (rx_KV 11 1) [] rx_wV0 0 0 = true := by decide +kernel
set_option maxRecDepth 1000000 in
theorem rx_hV11_1 : rx_isM (rx_lawRF [((0, [(0, 63)]), 2147483664, 2147483664), ((1, []), 2147483659, 2147483659), ((2, []), 2147483649, 2147483649)] 7 675 (rx_find rx_mL 18) rx_L0 [] rx_w0 221 26609) 675 rx_L0 [.inl (.inl 1), .inl (.inl 11), .inr (.inr (.inl (some 170))), .inl (.inl 0)] 221 26609 = true := by decide +kernel
set_option maxRecDepth 1000000 in
theorem rx_nV12_0 : rx_is (rx_mRF rx_xV [] 30 0 (rx_args [.inr (.inr (.inl (some 0))), .inl (.inl 12), .inl (.inl 0)] 0) [] rx_wm) 30 (rx_KV 12 0) [] rx_wV0 0 0 = true := by decide +kernel
set_option maxRecDepth 1000000 in
theorem rx_hV12_0 : rx_isM (rx_lawRF [((0, [(0, 63)]), 2147483664, 2147483664), ((1, []), 2147483660, 2147483660), ((2, []), 2147483648, 2147483648)] 7 675 (rx_find rx_mL 18) rx_L0 [] rx_w0 221 26609) 675 rx_L0 [.inl (.inl 0), .inl (.inl 12), .inr (.inr (.inl (some 170))), .inl (.inl 0)] 221 26609 = true := by decide +kernel
set_option maxRecDepth 1000000 in
theorem rx_nV12_1 : rx_is (rx_mRF rx_xV [] 30 0 (rx_args [.inr (.inr (.inl (some 0))), .inl (.inl 12), .inl (.inl 1)] 0) [] rx_wm) 30 (rx_KV 12 1) [] rx_wV0 0 0 = true := by decide +kernel
set_option maxRecDepth 1000000 in
theorem rx_hV12_1 : rx_isM (rx_lawRF [((0, [(0, 63)]), 2147483664, 2147483664), ((1, []), 2147483660, 2147483660), ((2, []), 2147483649, 2147483649)] 7 675 (rx_find rx_mL 18) rx_L0 [] rx_w0 221 26609) 675 rx_L0 [.inl (.inl 1), .inl (.inl 12), .inr (.inr (.inl (some 170))), .inl (.inl 0)] 221 26609 = true := by decide +kernel
set_option maxRecDepth 1000000 in
theorem rx_nV13_0 : rx_is (rx_mRF rx_xV [] 30 0 (rx_args [.inr (.inr (.inl (some 0))), .inl (.inl 13), .inl (.inl 0)] 0) [] rx_wm) 30 (rx_KV 13 0) [] rx_wV0 0 0 = true := by decide +kernel
set_option maxRecDepth 1000000 in
theorem rx_hV13_0 : rx_isM (rx_lawRF [((0, [(0, 63)]), 2147483664, 2147483664), ((1, []), 2147483661, 2147483661), ((2, []), 2147483648, 2147483648)] 7 675 (rx_find rx_mL 18) rx_L0 [] rx_w0 221 26609) 675 rx_L0 [.inl (.inl 0), .inl (.inl 13), .inr (.inr (.inl (some 170))), .inl (.inl 0)] 221 26609 = true := by decide +kernel
set_option maxRecDepth 1000000 in
theorem rx_nV13_1 : rx_is (rx_mRF rx_xV [] 30 0 (rx_args [.inr (.inr (.inl (some 0))), .inl (.inl 13), .inl (.inl 1)] 0) [] rx_wm) 30 (rx_KV 13 1) [] rx_wV0 0 0 = true := by decide +kernel
set_option maxRecDepth 1000000 in
theorem rx_hV13_1 : rx_isM (rx_lawRF [((0, [(0, 63)]), 2147483664, 2147483664), ((1, []), 2147483661, 2147483661), ((2, []), 2147483649, 2147483649)] 7 675 (rx_find rx_mL 18) rx_L0 [] rx_w0 221 26609) 675 rx_L0 [.inl (.inl 1), .inl (.inl 13), .inr (.inr (.inl (some 170))), .inl (.inl 0)] 221 26609 = true := by decide +kernel
set_option maxRecDepth 1000000 in
theorem rx_nV14_0 : rx_is (rx_mRF rx_xV [] 30 0 (rx_args [.inr (.inr (.inl (some 0))), .inl (.inl 14), .inl (.inl 0)] 0) [] rx_wm) 30 (rx_KV 14 0) [] rx_wV0 0 0 = true := by decide +kernel
set_option maxRecDepth 1000000 in
theorem rx_hV14_0 : rx_isM (rx_lawRF [((0, [(0, 63)]), 2147483664, 2147483664), ((1, []), 2147483662, 2147483662), ((2, []), 2147483648, 2147483648)] 7 675 (rx_find rx_mL 18) rx_L0 [] rx_w0 221 26609) 675 rx_L0 [.inl (.inl 0), .inl (.inl 14), .inr (.inr (.inl (some 170))), .inl (.inl 0)] 221 26609 = true := by decide +kernel
set_option maxRecDepth 1000000 in
theorem rx_nV14_1 : rx_is (rx_mRF rx_xV [] 30 0 (rx_args [.inr (.inr (.inl (some 0))), .inl (.inl 14), .inl (.inl 1)] 0) [] rx_wm) 30 (rx_KV 14 1) [] rx_wV0 0 0 = true := by decide +kernel
set_option maxRecDepth 1000000 in
theorem rx_hV14_1 : rx_isM (rx_lawRF [((0, [(0, 63)]), 2147483664, 2147483664), ((1, []), 2147483662, 2147483662), ((2, []), 2147483649, 2147483649)] 7 675 (rx_find rx_mL 18) rx_L0 [] rx_w0 221 26609) 675 rx_L0 [.inl (.inl 1), .inl (.inl 14), .inr (.inr (.inl (some 170))), .inl (.inl 0)] 221 26609 = true := by decide +kernel
set_option maxRecDepth 1000000 in
theorem rx_nV15_0 : rx_is (rx_mRF rx_xV [] 30 0 (rx_args [.inr (.inr (.inl (some 0))), .inl (.inl 15), .inl (.inl 0)] 0) [] rx_wm) 30 (rx_KV 15 0) [] rx_wV0 0 0 = true := by decide +kernel
set_option maxRecDepth 1000000 in
theorem rx_hV15_0 : rx_isM (rx_lawRF [((0, [(0, 63)]), 2147483664, 2147483664), ((1, []), 2147483663, 2147483663), ((2, []), 2147483648, 2147483648)] 7 675 (rx_find rx_mL 18) rx_L0 [] rx_w0 221 26609) 675 rx_L0 [.inl (.inl 0), .inl (.inl 15), .inr (.inr (.inl (some 170))), .inl (.inl 0)] 221 26609 = true := by decide +kernel
set_option maxRecDepth 1000000 in
theorem rx_nV15_1 : rx_is (rx_mRF rx_xV [] 30 0 (rx_args [.inr (.inr (.inl (some 0))), .inl (.inl 15), .inl (.inl 1)] 0) [] rx_wm) 30 (rx_KV 15 1) [] rx_wV0 0 0 = true := by decide +kernel
set_option maxRecDepth 1000000 in
theorem rx_hV15_1 : rx_isM (rx_lawRF [((0, [(0, 63)]), 2147483664, 2147483664), ((1, []), 2147483663, 2147483663), ((2, []), 2147483649, 2147483649)] 7 675 (rx_find rx_mL 18) rx_L0 [] rx_w0 221 26609) 675 rx_L0 [.inl (.inl 1), .inl (.inl 15), .inr (.inr (.inl (some 170))), .inl (.inl 0)] 221 26609 = true := by decide +kernel
set_option maxRecDepth 1000000 in
theorem rx_nV16_0 : rx_is (rx_mRF rx_xV [] 30 0 (rx_args [.inr (.inr (.inl (some 0))), .inl (.inl 16), .inl (.inl 0)] 0) [] rx_wm) 30 (rx_KV 16 0) [] rx_wV0 0 0 = true := by decide +kernel
set_option maxRecDepth 1000000 in
theorem rx_hV16_0 : rx_isM (rx_lawRF [((0, [(0, 63)]), 2147483664, 2147483664), ((1, []), 2147483664, 2147483664), ((2, []), 2147483648, 2147483648)] 7 675 (rx_find rx_mL 18) rx_L0 [] rx_w0 221 26609) 675 rx_L0 [.inl (.inl 0), .inl (.inl 16), .inr (.inr (.inl (some 170))), .inl (.inl 0)] 221 26609 = true := by decide +kernel
set_option maxRecDepth 1000000 in
theorem rx_nV16_1 : rx_is (rx_mRF rx_xV [] 30 0 (rx_args [.inr (.inr (.inl (some 0))), .inl (.inl 16), .inl (.inl 1)] 0) [] rx_wm) 30 (rx_KV 16 1) [] rx_wV0 0 0 = true := by decide +kernel
set_option maxRecDepth 1000000 in
theorem rx_hV16_1 : rx_isM (rx_lawRF [((0, [(0, 63)]), 2147483664, 2147483664), ((1, []), 2147483664, 2147483664), ((2, []), 2147483649, 2147483649)] 7 675 (rx_find rx_mL 18) rx_L0 [] rx_w0 221 26609) 675 rx_L0 [.inl (.inl 1), .inl (.inl 16), .inr (.inr (.inl (some 170))), .inl (.inl 0)] 221 26609 = true := by decide +kernel
set_option maxRecDepth 1000000 in
theorem rx_nV17_0 : rx_is (rx_mRF rx_xV [] 30 0 (rx_args [.inr (.inr (.inl (some 0))), .inl (.inl 17), .inl (.inl 0)] 0) [] rx_wm) 30 (rx_KV 17 0) [] rx_wV0 0 0 = true := by decide +kernel
set_option maxRecDepth 1000000 in
theorem rx_hV17_0 : rx_isM (rx_lawRF [((0, [(0, 63)]), 2147483664, 2147483664), ((1, []), 2147483665, 2147483665), ((2, []), 2147483648, 2147483648)] 7 675 (rx_find rx_mL 18) rx_L0 [] rx_w0 221 26609) 675 rx_L0 [.inl (.inl 0), .inl (.inl 17), .inr (.inr (.inl (some 170))), .inl (.inl 0)] 221 26609 = true := by decide +kernel
set_option maxRecDepth 1000000 in
theorem rx_nV17_1 : rx_is (rx_mRF rx_xV [] 30 0 (rx_args [.inr (.inr (.inl (some 0))), .inl (.inl 17), .inl (.inl 1)] 0) [] rx_wm) 30 (rx_KV 17 1) [] rx_wV0 0 0 = true := by decide +kernel
set_option maxRecDepth 1000000 in
theorem rx_hV17_1 : rx_isM (rx_lawRF [((0, [(0, 63)]), 2147483664, 2147483664), ((1, []), 2147483665, 2147483665), ((2, []), 2147483649, 2147483649)] 7 675 (rx_find rx_mL 18) rx_L0 [] rx_w0 221 26609) 675 rx_L0 [.inl (.inl 1), .inl (.inl 17), .inr (.inr (.inl (some 170))), .inl (.inl 0)] 221 26609 = true := by decide +kernel
set_option maxRecDepth 1000000 in
theorem rx_nV18_0 : rx_is (rx_mRF rx_xV [] 30 0 (rx_args [.inr (.inr (.inl (some 0))), .inl (.inl 18), .inl (.inl 0)] 0) [] rx_wm) 30 (rx_KV 18 0) [] rx_wV0 0 0 = true := by decide +kernel
set_option maxRecDepth 1000000 in
theorem rx_hV18_0 : rx_isM (rx_lawRF [((0, [(0, 63)]), 2147483664, 2147483664), ((1, []), 2147483666, 2147483666), ((2, []), 2147483648, 2147483648)] 7 675 (rx_find rx_mL 18) rx_L0 [] rx_w0 221 26609) 675 rx_L0 [.inl (.inl 0), .inl (.inl 18), .inr (.inr (.inl (some 170))), .inl (.inl 0)] 221 26609 = true := by decide +kernel
set_option maxRecDepth 1000000 in
theorem rx_nV18_1 : rx_is (rx_mRF rx_xV [] 30 0 (rx_args [.inr (.inr (.inl (some 0))), .inl (.inl 18), .inl (.inl 1)] 0) [] rx_wm) 30 (rx_KV 18 1) [] rx_wV0 0 0 = true := by decide +kernel
set_option maxRecDepth 1000000 in
theorem rx_hV18_1 : rx_isM (rx_lawRF [((0, [(0, 63)]), 2147483664, 2147483664), ((1, []), 2147483666, 2147483666), ((2, []), 2147483649, 2147483649)] 7 675 (rx_find rx_mL 18) rx_L0 [] rx_w0 221 26609) 675 rx_L0 [.inl (.inl 1), .inl (.inl 18), .inr (.inr (.inl (some 170))), .inl (.inl 0)] 221 26609 = true := by decide +kernel
set_option maxRecDepth 1000000 in
theorem rx_nV19_0 : rx_is (rx_mRF rx_xV [] 30 0 (rx_args [.inr (.inr (.inl (some 0))), .inl (.inl 19), .inl (.inl 0)] 0) [] rx_wm) 30 (rx_KV 19 0) [] rx_wV0 0 0 = true := by decide +kernel
set_option maxRecDepth 1000000 in
theorem rx_hV19_0 : rx_isM (rx_lawRF [((0, [(0, 63)]), 2147483664, 2147483664), ((1, []), 2147483667, 2147483667), ((2, []), 2147483648, 2147483648)] 7 675 (rx_find rx_mL 18) rx_L0 [] rx_w0 221 26609) 675 rx_L0 [.inl (.inl 0), .inl (.inl 19), .inr (.inr (.inl (some 170))), .inl (.inl 0)] 221 26609 = true := by decide +kernel
set_option maxRecDepth 1000000 in
theorem rx_nV19_1 : rx_is (rx_mRF rx_xV [] 30 0 (rx_args [.inr (.inr (.inl (some 0))), .inl (.inl 19), .inl (.inl 1)] 0) [] rx_wm) 30 (rx_KV 19 1) [] rx_wV0 0 0 = true := by decide +kernel
set_option maxRecDepth 1000000 in
theorem rx_hV19_1 : rx_isM (rx_lawRF [((0, [(0, 63)]), 2147483664, 2147483664), ((1, []), 2147483667, 2147483667), ((2, []), 2147483649, 2147483649)] 7 675 (rx_find rx_mL 18) rx_L0 [] rx_w0 221 26609) 675 rx_L0 [.inl (.inl 1), .inl (.inl 19), .inr (.inr (.inl (some 170))), .inl (.inl 0)] 221 26609 = true := by decide +kernel
