/-! printed by wip/p1/regs.py: closed runs of the law, a region of scripts each -/
set_option maxRecDepth 1000000 in
theorem rx_r10_2 : rx_isE (rx_lawRF [((0, [(0, 63)]), 2147483658, 2147483658), ((1, []), 2147483649, 2147483649)] 7 99999999 (rx_find rx_mL 18) rx_L0 [] rx_w0 221 26609) = true := by decide +kernel
set_option maxRecDepth 1000000 in
theorem rx_r10_3 : rx_isE (rx_lawRF [((0, [(0, 63)]), 2147483658, 2147483658), ((1, []), 2147483650, 2147483650)] 7 99999999 (rx_find rx_mL 18) rx_L0 [] rx_w0 221 26609) = true := by decide +kernel
