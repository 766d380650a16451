/-! printed by wip/p1/heavy.py: entries of chance, and the law up to the call -/
set_option maxRecDepth 1000000 in
theorem rx_nZ31 : rx_is (rx_mRF rx_xZ [] 25 0 (rx_args [.inr (.inr (.inl (some 0))), .inl (.inl 31)] 0) [] rx_wm) 25 (rx_KZ 31) [] rx_wZ0 0 0 = true := by decide +kernel
set_option maxRecDepth 1000000 in
theorem rx_hZ31 : rx_isM (rx_lawRF [((0, [(0, 63)]), 2147483672, 2147483672), ((1, []), 2147483679, 2147483679)] 7 859 (rx_find rx_mL 18) rx_L0 [] rx_w0 221 26609) 859 rx_L0 [.inl (.inl 31), .inr (.inr (.inl (some 170))), .inl (.inl 0)] 221 26609 = true := by decide +kernel
set_option maxRecDepth 1000000 in
theorem rx_nZ32 : rx_is (rx_mRF rx_xZ [] 25 0 (rx_args [.inr (.inr (.inl (some 0))), .inl (.inl 32)] 0) [] rx_wm) 25 (rx_KZ 32) [] rx_wZ0 0 0 = true := by decide +kernel
set_option maxRecDepth 1000000 in
theorem rx_hZ32 : rx_isM (rx_lawRF [((0, [(0, 63)]), 2147483672, 2147483672), ((1, []), 2147483680, 2147483680)] 7 859 (rx_find rx_mL 18) rx_L0 [] rx_w0 221 26609) 859 rx_L0 [.inl (.inl 32), .inr (.inr (.inl (some 170))), .inl (.inl 0)] 221 26609 = true := by decide +kernel
set_option maxRecDepth 1000000 in
theorem rx_nZ33 : rx_is (rx_mRF rx_xZ [] 25 0 (rx_args [.inr (.inr (.inl (some 0))), .inl (.inl 33)] 0) [] rx_wm) 25 (rx_KZ 33) [] rx_wZ0 0 0 = true := by decide +kernel
set_option maxRecDepth 1000000 in
theorem rx_hZ33 : rx_isM (rx_lawRF [((0, [(0, 63)]), 2147483672, 2147483672), ((1, []), 2147483681, 2147483681)] 7 859 (rx_find rx_mL 18) rx_L0 [] rx_w0 221 26609) 859 rx_L0 [.inl (.inl 33), .inr (.inr (.inl (some 170))), .inl (.inl 0)] 221 26609 = true := by decide +kernel
set_option maxRecDepth 1000000 in
theorem rx_nZ34 : rx_is (rx_mRF rx_xZ [] 25 0 (rx_args [.inr (.inr (.inl (some 0))), .inl (.inl 34)] 0) [] rx_wm) 25 (rx_KZ 34) [] rx_wZ0 0 0 = true := by decide +kernel
set_option maxRecDepth 1000000 in
theorem rx_hZ34 : rx_isM (rx_lawRF [((0, [(0, 63)]), 2147483672, 2147483672), ((1, []), 2147483682, 2147483682)] 7 859 (rx_find rx_mL 18) rx_L0 [] rx_w0 221 26609) 859 rx_L0 [.inl (.inl 34), .inr (.inr (.inl (some 170))), .inl (.inl 0)] 221 26609 = true := by decide +kernel
set_option maxRecDepth 1000000 in
theorem rx_nZ35 : rx_is (rx_mRF rx_xZ [] 25 0 (rx_args [.inr (.inr (.inl (some 0))), .inl (.inl 35)] 0) [] rx_wm) 25 (rx_KZ 35) [] rx_wZ0 0 0 = true := by decide +kernel
set_option maxRecDepth 1000000 in
theorem rx_hZ35 : rx_isM (rx_lawRF [((0, [(0, 63)]), 2147483672, 2147483672), ((1, []), 2147483683, 2147483683)] 7 859 (rx_find rx_mL 18) rx_L0 [] rx_w0 221 26609) 859 rx_L0 [.inl (.inl 35), .inr (.inr (.inl (some 170))), .inl (.inl 0)] 221 26609 = true := by decide +kernel
set_option maxRecDepth 1000000 in
theorem rx_nZ36 : rx_is (rx_mRF rx_xZ [] 25 0 (rx_args [.inr (.inr (.inl (some 0))), .inl (.inl 36)] 0) [] rx_wm) 25 (rx_KZ 36) [] rx_wZ0 0 0 = true := by decide +kernel
set_option maxRecDepth 1000000 in
theorem rx_hZ36 : rx_isM (rx_lawRF [((0, [(0, 63)]), 2147483672, 2147483672), ((1, []), 2147483684, 2147483684)] 7 859 (rx_find rx_mL 18) rx_L0 [] rx_w0 221 26609) 859 rx_L0 [.inl (.inl 36), .inr (.inr (.inl (some 170))), .inl (.inl 0)] 221 26609 = true := by decide +kernel
set_option maxRecDepth 1000000 in
theorem rx_nZ37 : rx_is (rx_mRF rx_xZ [] 25 0 (rx_args [.inr (.inr (.inl (some 0))), .inl (.inl 37)] 0) [] rx_wm) 25 (rx_KZ 37) [] rx_wZ0 0 0 = true := by decide +kernel
set_option maxRecDepth 1000000 in
theorem rx_hZ37 : rx_isM (rx_lawRF [((0, [(0, 63)]), 2147483672, 2147483672), ((1, []), 2147483685, 2147483685)] 7 859 (rx_find rx_mL 18) rx_L0 [] rx_w0 221 26609) 859 rx_L0 [.inl (.inl 37), .inr (.inr (.inl (some 170))), .inl (.inl 0)] 221 26609 = true := by decide +kernel
set_option maxRecDepth 1000000 in
theorem rx_nZ38 : rx_is (rx_mRF rx_xZ [] 25 0 (rx_args [.inr (.inr (.inl (some 0))), .inl (.inl 38)] 0) [] rx_wm) 25 (rx_KZ 38) [] rx_wZ0 0 0 = true := by decide +kernel
set_option maxRecDepth 1000000 in
theorem rx_hZ38 : rx_isM (rx_lawRF [((0, [(0, 63)]), 2147483672, 2147483672), ((1, []), 2147483686, 2147483686)] 7 859 (rx_find rx_mL 18) rx_L0 [] rx_w0 221 26609) 859 rx_L0 [.inl (.inl 38), .inr (.inr (.inl (some 170))), .inl (.inl 0)] 221 26609 = true := by decide +kernel
set_option maxRecDepth 1000000 in
theorem rx_nZ39 : rx_is (rx_mRF rx_xZ [] 25 0 (rx_args [.inr (.inr (.inl (some 0))), .inl (.inl 39)] 0) [] rx_wm) 25 (rx_KZ 39) [] rx_wZ0 0 0 = true := by decide +kernel
set_option maxRecDepth 1000000 in
theorem rx_hZ39 : rx_isM (rx_lawRF [((0, [(0, 63)]), 2147483672, 2147483672), ((1, []), 2147483687, 2147483687)] 7 859 (rx_find rx_mL 18) rx_L0 [] rx_w0 221 26609) 859 rx_L0 [.inl (.inl 39), .inr (.inr (.inl (some 170))), .inl (.inl 0)] 221 26609 = true := by decide +kernel
set_option maxRecDepth 1000000 in
theorem rx_nZ40 : rx_is (rx_mRF rx_xZ [] 25 0 (rx_args [.inr (.inr (.inl (some 0))), .inl (.inl 40)] 0) [] rx_wm) 25 (rx_KZ 40) [] rx_wZ0 0 0 = true := by decide +kernel
set_option maxRecDepth 1000000 in
theorem rx_hZ40 : rx_isM (rx_lawRF [((0, [(0, 63)]), 2147483672, 2147483672), ((1, []), 2147483688, 2147483688)] 7 859 (rx_find rx_mL 18) rx_L0 [] rx_w0 221 26609) 859 rx_L0 [.inl (.inl 40), .inr (.inr (.inl (some 170))), .inl (.inl 0)] 221 26609 = true := by decide +kernel
