/-! printed by wip/p1/regs.py: closed runs of the law, a region of scripts each -/
set_option maxRecDepth 1000000 in
theorem rx_r11_2 : rx_isE (rx_lawRF [((0, [(0, 63)]), 2147483659, 2147483659), ((1, []), 0, 2147483647), ((2, []), 2147483651, 4294967295)] 7 99999999 (rx_find rx_mL 18) rx_L0 [] rx_w0 221 26609) = true := by decide +kernel
set_option maxRecDepth 1000000 in
theorem rx_r11_3 : rx_isE (rx_lawRF [((0, [(0, 63)]), 2147483659, 2147483659), ((1, []), 2147483648, 4294967295), ((2, []), 0, 2147483647)] 7 99999999 (rx_find rx_mL 18) rx_L0 [] rx_w0 221 26609) = true := by decide +kernel
set_option maxRecDepth 1000000 in
theorem rx_r11_4 : rx_isE (rx_lawRF [((0, [(0, 63)]), 2147483659, 2147483659), ((1, []), 2147483648, 4294967295), ((2, []), 2147483648, 2147483650)] 7 99999999 (rx_find rx_mL 18) rx_L0 [] rx_w0 221 26609) = true := by decide +kernel
set_option maxRecDepth 1000000 in
theorem rx_r11_5 : rx_isE (rx_lawRF [((0, [(0, 63)]), 2147483659, 2147483659), ((1, []), 2147483648, 4294967295), ((2, []), 2147483651, 4294967295)] 7 99999999 (rx_find rx_mL 18) rx_L0 [] rx_w0 221 26609) = true := by decide +kernel
set_option maxRecDepth 1000000 in
theorem rx_r12_0 : rx_isE (rx_lawRF [((0, [(0, 63)]), 2147483660, 2147483660)] 7 99999999 (rx_find rx_mL 18) rx_L0 [] rx_w0 221 26609) = true := by decide +kernel
