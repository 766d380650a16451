/-! printed by wip/p1/regs.py: closed runs of the law, a region of scripts each -/
set_option maxRecDepth 1000000 in
theorem rx_r35_1 : rx_isE (rx_lawRF [((0, [(0, 63)]), 2147483683, 2147483683), ((1, []), 2147483648, 2147483648)] 7 99999999 (rx_find rx_mL 18) rx_L0 [] rx_w0 221 26609) = true := by decide +kernel
set_option maxRecDepth 1000000 in
theorem rx_r35_2 : rx_isE (rx_lawRF [((0, [(0, 63)]), 2147483683, 2147483683), ((1, []), 2147483649, 2147483649)] 7 99999999 (rx_find rx_mL 18) rx_L0 [] rx_w0 221 26609) = true := by decide +kernel
set_option maxRecDepth 1000000 in
theorem rx_r35_3 : rx_isE (rx_lawRF [((0, [(0, 63)]), 2147483683, 2147483683), ((1, []), 2147483650, 2147483650)] 7 99999999 (rx_find rx_mL 18) rx_L0 [] rx_w0 221 26609) = true := by decide +kernel
set_option maxRecDepth 1000000 in
theorem rx_r35_4 : rx_isE (rx_lawRF [((0, [(0, 63)]), 2147483683, 2147483683), ((1, []), 2147483651, 2147483651)] 7 99999999 (rx_find rx_mL 18) rx_L0 [] rx_w0 221 26609) = true := by decide +kernel
set_option maxRecDepth 1000000 in
theorem rx_r35_5 : rx_isE (rx_lawRF [((0, [(0, 63)]), 2147483683, 2147483683), ((1, []), 2147483652, 2147483652)] 7 99999999 (rx_find rx_mL 18) rx_L0 [] rx_w0 221 26609) = true := by decide +kernel
set_option maxRecDepth 1000000 in
theorem rx_r35_6 : rx_isE (rx_lawRF [((0, [(0, 63)]), 2147483683, 2147483683), ((1, []), 2147483653, 2147483653)] 7 99999999 (rx_find rx_mL 18) rx_L0 [] rx_w0 221 26609) = true := by decide +kernel
set_option maxRecDepth 1000000 in
theorem rx_r35_7 : rx_isE (rx_lawRF [((0, [(0, 63)]), 2147483683, 2147483683), ((1, []), 2147483654, 4294967295)] 7 99999999 (rx_find rx_mL 18) rx_L0 [] rx_w0 221 26609) = true := by decide +kernel
set_option maxRecDepth 1000000 in
theorem rx_r36_0 : rx_isE (rx_lawRF [((0, [(0, 63)]), 2147483684, 2147483711)] 7 99999999 (rx_find rx_mL 18) rx_L0 [] rx_w0 221 26609) = true := by decide +kernel
