/-! printed by wip/p1/heavy.py: entries of later, and the law up to the call -/
set_option maxRecDepth 1000000 in
theorem rx_nV30_0 : rx_is (rx_mRF rx_xV [] 30 0 (rx_args [.inr (.inr (.inl (some 0))), .inl (.inl 30), .inl (.inl 0)] 0) [] rx_wm) 30 (rx_KV 30 0) [] rx_wV0 0 0 = true := by decide +kernel
set_option maxRecDepth 1000000 in
theorem rx_hV30_0 : rx_isM (rx_lawRF [((0, [(0, 63)]), 2147483664, 2147483664), ((1, []), 2147483678, 2147483678), ((2, []), 2147483648, 2147483648)] 7 675 (rx_find rx_mL 18) rx_L0 [] rx_w0 221 26609) 675 rx_L0 [.inl (.inl 0), .inl (.inl 30), .inr (.inr (.inl (some 170))), .inl (.inl 0)] 221 26609 = true := by decide +kernel
set_option maxRecDepth 1000000 in
theorem rx_nV30_1 : rx_is (rx_mRF rx_xV [] 30 0 (rx_args [.inr (.inr (.inl (some 0))), .inl (.inl 30), .inl (.inl 1)] 0) [] rx_wm) 30 (rx_KV 30 1) [] rx_wV0 0 0 = true := by decide +kernel
set_option maxRecDepth 1000000 in
theorem rx_hV30_1 : rx_isM (rx_lawRF [((0, [(0, 63)]), 2147483664, 2147483664), ((1, []), 2147483678, 2147483678), ((2, []), 2147483649, 2147483649)] 7 675 (rx_find rx_mL 18) rx_L0 [] rx_w0 221 26609) 675 rx_L0 [.inl (.inl 1), .inl (.inl 30), .inr (.inr (.inl (some 170))), .inl (.inl 0)] 221 26609 = true := by decide +kernel
set_option maxRecDepth 1000000 in
theorem rx_nV31_0 : rx_is (rx_mRF rx_xV [] 30 0 (rx_args [.inr (.inr (.inl (some 0))), .inl (.inl 31), .inl (.inl 0)] 0) [] rx_wm) 30 (rx_KV 31 0) [] rx_wV0 0 0 = true := by decide +kernel
set_option maxRecDepth 1000000 in
theorem rx_hV31_0 : rx_isM (rx_lawRF [((0, [(0, 63)]), 2147483664, 2147483664), ((1, []), 2147483679, 2147483679), ((2, []), 2147483648, 2147483648)] 7 675 (rx_find rx_mL 18) rx_L0 [] rx_w0 221 26609) 675 rx_L0 [.inl (.inl 0), .inl (.inl 31), .inr (.inr (.inl (some 170))), .inl (.inl 0)] 221 26609 = true := by decide +kernel
set_option maxRecDepth 1000000 in
theorem rx_nV31_1 : rx_is (rx_mRF rx_xV [] 30 0 (rx_args [.inr (.inr (.inl (some 0))), .inl (.inl 31), .inl (.inl 1)] 0) [] rx_wm) 30 (rx_KV 31 1) [] rx_wV0 0 0 = true := by decide +kernel
set_option maxRecDepth 1000000 in
theorem rx_hV31_1 : rx_isM (rx_lawRF [((0, [(0, 63)]), 2147483664, 2147483664), ((1, []), 2147483679, 2147483679), ((2, []), 2147483649, 2147483649)] 7 675 (rx_find rx_mL 18) rx_L0 [] rx_w0 221 26609) 675 rx_L0 [.inl (.inl 1), .inl (.inl 31), .inr (.inr (.inl (some 170))), .inl (.inl 0)] 221 26609 = true := by decide +kernel
set_option maxRecDepth 1000000 in
theorem rx_nV32_0 : rx_is (rx_mRF rx_xV [] 30 0 (rx_args [.inr (.inr (.inl (some 0))), .inl (.inl 32), .inl (.inl 0)] 0) [] rx_wm) 30 (rx_KV 32 0) [] rx_wV0 0 0 = true := by decide +kernel
set_option maxRecDepth 1000000 in
theorem rx_hV32_0 : rx_isM (rx_lawRF [((0, [(0, 63)]), 2147483664, 2147483664), ((1, []), 2147483680, 2147483680), ((2, []), 2147483648, 2147483648)] 7 675 (rx_find rx_mL 18) rx_L0 [] rx_w0 221 26609) 675 rx_L0 [.inl (.inl 0), .inl (.inl 32), .inr (.inr (.inl (some 170))), .inl (.inl 0)] 221 26609 = true := by decide +kernel
set_option maxRecDepth 1000000 in
theorem rx_nV32_1 : rx_is (rx_mRF rx_xV [] 30 0 (rx_args [.inr (.inr (.inl (some 0))), .inl (.inl 32), .inl (.inl 1)] 0) [] rx_wm) 30 (rx_KV 32 1) [] rx_wV0 0 0 = true := by decide +kernel
set_option maxRecDepth 1000000 in
theorem rx_hV32_1 : rx_isM (rx_lawRF [((0, [(0, 63)]), 2147483664, 2147483664), ((1, []), 2147483680, 2147483680), ((2, []), 2147483649, 2147483649)] 7 675 (rx_find rx_mL 18) rx_L0 [] rx_w0 221 26609) 675 rx_L0 [.inl (.inl 1), .inl (.inl 32), .inr (.inr (.inl (some 170))), .inl (.inl 0)] 221 26609 = true := by decide +kernel
set_option maxRecDepth 1000000 in
theorem rx_nV33_0 : rx_is (rx_mRF rx_xV [] 30 0 (rx_args [.inr (.inr (.inl (some 0))), .inl (.inl 33), .inl (.inl 0)] 0) [] rx_wm) 30 (rx_KV 33 0) [] rx_wV0 0 0 = true := by decide +kernel
set_option maxRecDepth 1000000 in
theorem rx_hV33_0 : rx_isM (rx_lawRF [((0, [(0, 63)]), 2147483664, 2147483664), ((1, []), 2147483681, 2147483681), ((2, []), 2147483648, 2147483648)] 7 675 (rx_find rx_mL 18) rx_L0 [] rx_w0 221 26609) 675 rx_L0 [.inl (.inl 0), .inl (.inl 33), .inr (.inr (.inl (some 170))), .inl (.inl 0)] 221 26609 = true := by decide +kernel
set_option maxRecDepth 1000000 in
theorem rx_nV33_1 : rx_is (rx_mRF rx_xV [] 30 0 (rx_args [.inr (.inr (.inl (some 0))), .inl (.inl 33), .inl (.inl 1)] 0) [] rx_wm) 30 (rx_KV 33 1) [] rx_wV0 0 0 = true := by decide +kernel
set_option maxRecDepth 1000000 in
theorem rx_hV33_1 : rx_isM (rx_lawRF [((0, [(0, 63)]), 2147483664, 2147483664), ((1, []), 2147483681, 2147483681), ((2, []), 2147483649, 2147483649)] 7 675 (rx_find rx_mL 18) rx_L0 [] rx_w0 221 26609) 675 rx_L0 [.inl (.inl 1), .inl (.inl 33), .inr (.inr (.inl (some 170))), .inl (.inl 0)] 221 26609 = true := by decide +kernel
set_option maxRecDepth 1000000 in
theorem rx_nV34_0 : rx_is (rx_mRF rx_xV [] 30 0 (rx_args [.inr (.inr (.inl (some 0))), .inl (.inl 34), .inl (.inl 0)] 0) [] rx_wm) 30 (rx_KV 34 0) [] rx_wV0 0 0 = true := by decide +kernel
set_option maxRecDepth 1000000 in
theorem rx_hV34_0 : rx_isM (rx_lawRF [((0, [(0, 63)]), 2147483664, 2147483664), ((1, []), 2147483682, 2147483682), ((2, []), 2147483648, 2147483648)] 7 675 (rx_find rx_mL 18) rx_L0 [] rx_w0 221 26609) 675 rx_L0 [.inl (.inl 0), .inl (.inl 34), .inr (.inr (.inl (some 170))), .inl (.inl 0)] 221 26609 = true := by decide +kernel
set_option maxRecDepth 1000000 in
theorem rx_nV34_1 : rx_is (rx_mRF rx_xV [] 30 0 (rx_args [.inr (.inr (.inl (some 0))), .inl (.inl 34), .inl (.inl 1)] 0) [] rx_wm) 30 (rx_KV 34 1) [] rx_wV0 0 0 = true := by decide +kernel
set_option maxRecDepth 1000000 in
theorem rx_hV34_1 : rx_isM (rx_lawRF [((0, [(0, 63)]), 2147483664, 2147483664), ((1, []), 2147483682, 2147483682), ((2, []), 2147483649, 2147483649)] 7 675 (rx_find rx_mL 18) rx_L0 [] rx_w0 221 26609) 675 rx_L0 [.inl (.inl 1), .inl (.inl 34), .inr (.inr (.inl (some 170))), .inl (.inl 0)] 221 26609 = true := by decide +kernel
set_option maxRecDepth 1000000 in
theorem rx_nV35_0 : rx_is (rx_mRF rx_xV [] 30 0 (rx_args [.inr (.inr (.inl (some 0))), .inl (.inl 35), .inl (.inl 0)] 0) [] rx_wm) 30 (rx_KV 35 0) [] rx_wV0 0 0 = true := by decide +kernel
set_option maxRecDepth 1000000 in
theorem rx_hV35_0 : rx_isM (rx_lawRF [((0, [(0, 63)]), 2147483664, 2147483664), ((1, []), 2147483683, 2147483683), ((2, []), 2147483648, 2147483648)] 7 675 (rx_find rx_mL 18) rx_L0 [] rx_w0 221 26609) 675 rx_L0 [.inl (.inl 0), .inl (.inl 35), .inr (.inr (.inl (some 170))), .inl (.inl 0)] 221 26609 = true := by decide +kernel
set_option maxRecDepth 1000000 in
theorem rx_nV35_1 : rx_is (rx_mRF rx_xV [] 30 0 (rx_args [.inr (.inr (.inl (some 0))), .inl (.inl 35), .inl (.inl 1)] 0) [] rx_wm) 30 (rx_KV 35 1) [] rx_wV0 0 0 = true := by decide +kernel
set_option maxRecDepth 1000000 in
theorem rx_hV35_1 : rx_isM (rx_lawRF [((0, [(0, 63)]), 2147483664, 2147483664), ((1, []), 2147483683, 2147483683), ((2, []), 2147483649, 2147483649)] 7 675 (rx_find rx_mL 18) rx_L0 [] rx_w0 221 26609) 675 rx_L0 [.inl (.inl 1), .inl (.inl 35), .inr (.inr (.inl (some 170))), .inl (.inl 0)] 221 26609 = true := by decide +kernel
set_option maxRecDepth 1000000 in
theorem rx_nV36_0 : rx_is (rx_mRF rx_xV [] 30 0 (rx_args [.inr (.inr (.inl (some 0))), .inl (.inl 36), .inl (.inl 0)] 0) [] rx_wm) 30 (rx_KV 36 0) [] rx_wV0 0 0 = true := by decide +kernel
set_option maxRecDepth 1000000 in
theorem rx_hV36_0 : rx_isM (rx_lawRF [((0, [(0, 63)]), 2147483664, 2147483664), ((1, []), 2147483684, 2147483684), ((2, []), 2147483648, 2147483648)] 7 675 (rx_find rx_mL 18) rx_L0 [] rx_w0 221 26609) 675 rx_L0 [.inl (.inl 0), .inl (.inl 36), .inr (.inr (.inl (some 170))), .inl (.inl 0)] 221 26609 = true := by decide +kernel
set_option maxRecDepth 1000000 in
theorem rx_nV36_1 : rx_is (rx_mRF rx_xV [] 30 0 (rx_args [.inr (.inr (.inl (some 0))), .inl (.inl 36), .inl (.inl 1)] 0) [] rx_wm) 30 (rx_KV 36 1) [] rx_wV0 0 0 = true := by decide +kernel
set_option maxRecDepth 1000000 in
theorem rx_hV36_1 : rx_isM (rx_lawRF [((0, [(0, 63)]), 2147483664, 2147483664), ((1, []), 2147483684, 2147483684), ((2, []), 2147483649, 2147483649)] 7 675 (rx_find rx_mL 18) rx_L0 [] rx_w0 221 26609) 675 rx_L0 [.inl (.inl 1), .inl (.inl 36), .inr (.inr (.inl (some 170))), .inl (.inl 0)] 221 26609 = true := by decide +kernel
set_option maxRecDepth 1000000 in
theorem rx_nV37_0 : rx_is (rx_mRF rx_xV [] 30 0 (rx_args [.inr (.inr (.inl (some 0))), .inl (.inl 37), .inl (.inl 0)] 0) [] rx_wm) 30 (rx_KV 37 0) [] rx_wV0 0 0 = true := by decide +kernel
set_option maxRecDepth 1000000 in
theorem rx_hV37_0 : rx_isM (rx_lawRF [((0, [(0, 63)]), 2147483664, 2147483664), ((1, []), 2147483685, 2147483685), ((2, []), 2147483648, 2147483648)] 7 675 (rx_find rx_mL 18) rx_L0 [] rx_w0 221 26609) 675 rx_L0 [.inl (.inl 0), .inl (.inl 37), .inr (.inr (.inl (some 170))), .inl (.inl 0)] 221 26609 = true := by decide +kernel
set_option maxRecDepth 1000000 in
theorem rx_nV37_1 : rx_is (rx_mRF rx_xV [] 30 0 (rx_args [.inr (.inr (.inl (some 0))), .inl (.inl 37), .inl (.inl 1)] 0) [] rx_wm) 30 (rx_KV 37 1) [] rx_wV0 0 0 = true := by decide +kernel
set_option maxRecDepth 1000000 in
theorem rx_hV37_1 : rx_isM (rx_lawRF [((0, [(0, 63)]), 2147483664, 2147483664), ((1, []), 2147483685, 2147483685), ((2, []), 2147483649, 2147483649)] 7 675 (rx_find rx_mL 18) rx_L0 [] rx_w0 221 26609) 675 rx_L0 [.inl (.inl 1), .inl (.inl 37), .inr (.inr (.inl (some 170))), .inl (.inl 0)] 221 26609 = true := by decide +kernel
set_option maxRecDepth 1000000 in
theorem rx_nV38_0 : rx_is (rx_mRF rx_xV [] 30 0 (rx_args [.inr (.inr (.inl (some 0))), .inl (.inl 38), .inl (.inl 0)] 0) [] rx_wm) 30 (rx_KV 38 0) [] rx_wV0 0 0 = true := by decide +kernel
set_option maxRecDepth 1000000 in
theorem rx_hV38_0 : rx_isM (rx_lawRF [((0, [(0, 63)]), 2147483664, 2147483664), ((1, []), 2147483686, 2147483686), ((2, []), 2147483648, 2147483648)] 7 675 (rx_find rx_mL 18) rx_L0 [] rx_w0 221 26609) 675 rx_L0 [.inl (.inl 0), .inl (.inl 38), .inr (.inr (.inl (some 170))), .inl (.inl 0)] 221 26609 = true := by decide +kernel
set_option maxRecDepth 1000000 in
theorem rx_nV38_1 : rx_is (rx_mRF rx_xV [] 30 0 (rx_args [.inr (.inr (.inl (some 0))), .inl (.inl 38), .inl (.inl 1)] 0) [] rx_wm) 30 (rx_KV 38 1) [] rx_wV0 0 0 = true := by decide +kernel
set_option maxRecDepth 1000000 in
theorem rx_hV38_1 : rx_isM (rx_lawRF [((0, [(0, 63)]), 2147483664, 2147483664), ((1, []), 2147483686, 2147483686), ((2, []), 2147483649, 2147483649)] 7 675 (rx_find rx_mL 18) rx_L0 [] rx_w0 221 26609) 675 rx_L0 [.inl (.inl 1), .inl (.inl 38), .inr (.inr (.inl (some 170))), .inl (.inl 0)] 221 26609 = true := by decide +kernel
set_option maxRecDepth 1000000 in
theorem rx_nV39_0 : rx_is (rx_mRF rx_xV [] 30 0 (rx_args [.inr (.inr (.inl (some 0))), .inl (.inl 39), .inl (.inl 0)] 0) [] rx_wm) 30 (rx_KV 39 0) [] rx_wV0 0 0 = true := by decide +kernel
set_option maxRecDepth 1000000 in
theorem rx_hV39_0 : rx_isM (rx_lawRF [((0, [(0, 63)]), 2147483664, 2147483664), ((1, []), 2147483687, 2147483687), ((2, []), 2147483648, 2147483648)] 7 675 (rx_find rx_mL 18) rx_L0 [] rx_w0 221 26609) 675 rx_L0 [.inl (.inl 0), .inl (.inl 39), .inr (.inr (.inl (some 170))), .inl (.inl 0)] 221 26609 = true := by decide +kernel
set_option maxRecDepth 1000000 in
theorem rx_nV39_1 : rx_is (rx_mRF rx_xV [] 30 0 (rx_args [.inr (.inr (.inl (some 0))), .inl (.inl 39), .inl (.inl 1)] 0) [] rx_wm) 30 (rx_KV 39 1) [] rx_wV0 0 0 = true := by decide +kernel
set_option maxRecDepth 1000000 in
theorem rx_hV39_1 : rx_isM (rx_lawRF [((0, [(0, 63)]), 2147483664, 2147483664), ((1, []), 2147483687, 2147483687), ((2, []), 2147483649, 2147483649)] 7 675 (rx_find rx_mL 18) rx_L0 [] rx_w0 221 26609) 675 rx_L0 [.inl (.inl 1), .inl (.inl 39), .inr (.inr (.inl (some 170))), .inl (.inl 0)] 221 26609 = true := by decide +kernel
