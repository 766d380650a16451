/-! printed by wip/p1/regs.py: closed runs of the law, a region of scripts each -/
set_option maxRecDepth 1000000 in
theorem rx_r13_0 : rx_isE (rx_lawRF [((0, [(0, 63)]), 2147483661, 2147483661), ((1, []), 0, 2147483647)] 7 99999999 (rx_find rx_mL 18) rx_L0 [] rx_w0 221 26609) = true := by decide +kernel
set_option maxRecDepth 1000000 in
theorem rx_r13_1 : rx_isE (rx_lawRF [((0, [(0, 63)]), 2147483661, 2147483661), ((1, []), 2147483648, 2147483708)] 7 99999999 (rx_find rx_mL 18) rx_L0 [] rx_w0 221 26609) = true := by decide +kernel
set_option maxRecDepth 1000000 in
theorem rx_r13_2 : rx_isE (rx_lawRF [((0, [(0, 63)]), 2147483661, 2147483661), ((1, []), 2147483709, 4294967295)] 7 99999999 (rx_find rx_mL 18) rx_L0 [] rx_w0 221 26609) = true := by decide +kernel
set_option maxRecDepth 1000000 in
theorem rx_r14_0 : rx_isE (rx_lawRF [((0, [(0, 63)]), 2147483662, 2147483662), ((1, []), 0, 2147483647)] 7 99999999 (rx_find rx_mL 18) rx_L0 [] rx_w0 221 26609) = true := by decide +kernel
set_option maxRecDepth 1000000 in
theorem rx_r14_1 : rx_isE (rx_lawRF [((0, [(0, 63)]), 2147483662, 2147483662), ((1, []), 2147483648, 4294967295)] 7 99999999 (rx_find rx_mL 18) rx_L0 [] rx_w0 221 26609) = true := by decide +kernel
set_option maxRecDepth 1000000 in
theorem rx_r15_0 : rx_isE (rx_lawRF [((0, [(0, 63)]), 2147483663, 2147483663), ((1, []), 0, 2147483648)] 7 99999999 (rx_find rx_mL 18) rx_L0 [] rx_w0 221 26609) = true := by decide +kernel
set_option maxRecDepth 1000000 in
theorem rx_r15_1 : rx_isE (rx_lawRF [((0, [(0, 63)]), 2147483663, 2147483663), ((1, []), 2147483649, 2147483651)] 7 99999999 (rx_find rx_mL 18) rx_L0 [] rx_w0 221 26609) = true := by decide +kernel
set_option maxRecDepth 1000000 in
theorem rx_r15_2 : rx_isE (rx_lawRF [((0, [(0, 63)]), 2147483663, 2147483663), ((1, []), 2147483652, 4294967295)] 7 99999999 (rx_find rx_mL 18) rx_L0 [] rx_w0 221 26609) = true := by decide +kernel
set_option maxRecDepth 1000000 in
theorem rx_r17_0 : rx_isE (rx_lawRF [((0, [(0, 63)]), 2147483665, 2147483665), ((1, []), 0, 2147483647)] 7 99999999 (rx_find rx_mL 18) rx_L0 [] rx_w0 221 26609) = true := by decide +kernel
set_option maxRecDepth 1000000 in
theorem rx_r17_1 : rx_isE (rx_lawRF [((0, [(0, 63)]), 2147483665, 2147483665), ((1, []), 2147483648, 4294967295)] 7 99999999 (rx_find rx_mL 18) rx_L0 [] rx_w0 221 26609) = true := by decide +kernel
set_option maxRecDepth 1000000 in
theorem rx_r18_0 : rx_isE (rx_lawRF [((0, [(0, 63)]), 2147483666, 2147483666)] 7 99999999 (rx_find rx_mL 18) rx_L0 [] rx_w0 221 26609) = true := by decide +kernel
