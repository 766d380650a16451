/-! printed by wip/p1/regs.py: closed runs of the law, a region of scripts each -/
set_option maxRecDepth 1000000 in
theorem rx_r10_4 : rx_isE (rx_lawRF [((0, [(0, 63)]), 2147483658, 2147483658), ((1, []), 2147483651, 2147483651)] 7 99999999 (rx_find rx_mL 18) rx_L0 [] rx_w0 221 26609) = true := by decide +kernel
set_option maxRecDepth 1000000 in
theorem rx_r10_5 : rx_isE (rx_lawRF [((0, [(0, 63)]), 2147483658, 2147483658), ((1, []), 2147483652, 4294967295)] 7 99999999 (rx_find rx_mL 18) rx_L0 [] rx_w0 221 26609) = true := by decide +kernel
set_option maxRecDepth 1000000 in
theorem rx_r11_0 : rx_isE (rx_lawRF [((0, [(0, 63)]), 2147483659, 2147483659), ((1, []), 0, 2147483647), ((2, []), 0, 2147483647)] 7 99999999 (rx_find rx_mL 18) rx_L0 [] rx_w0 221 26609) = true := by decide +kernel
set_option maxRecDepth 1000000 in
theorem rx_r11_1 : rx_isE (rx_lawRF [((0, [(0, 63)]), 2147483659, 2147483659), ((1, []), 0, 2147483647), ((2, []), 2147483648, 2147483650)] 7 99999999 (rx_find rx_mL 18) rx_L0 [] rx_w0 221 26609) = true := by decide +kernel
