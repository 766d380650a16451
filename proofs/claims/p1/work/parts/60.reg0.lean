/-! printed by wip/p1/regs.py: closed runs of the law, a region of scripts each -/
set_option maxRecDepth 1000000 in
theorem rx_r0_0 : rx_isE (rx_lawRF [((0, [(0, 63)]), 2147483648, 2147483648)] 7 99999999 (rx_find rx_mL 18) rx_L0 [] rx_w0 221 26609) = true := by decide +kernel
set_option maxRecDepth 1000000 in
theorem rx_r1_0 : rx_isE (rx_lawRF [((0, [(0, 63)]), 2147483649, 2147483649), ((1, []), 0, 2147483647)] 7 99999999 (rx_find rx_mL 18) rx_L0 [] rx_w0 221 26609) = true := by decide +kernel
set_option maxRecDepth 1000000 in
theorem rx_r1_1 : rx_isE (rx_lawRF [((0, [(0, 63)]), 2147483649, 2147483649), ((1, []), 2147483648, 2147483648)] 7 99999999 (rx_find rx_mL 18) rx_L0 [] rx_w0 221 26609) = true := by decide +kernel
set_option maxRecDepth 1000000 in
theorem rx_r1_2 : rx_isE (rx_lawRF [((0, [(0, 63)]), 2147483649, 2147483649), ((1, []), 2147483649, 4294967295)] 7 99999999 (rx_find rx_mL 18) rx_L0 [] rx_w0 221 26609) = true := by decide +kernel
set_option maxRecDepth 1000000 in
theorem rx_r2_0 : rx_isE (rx_lawRF [((0, [(0, 63)]), 2147483650, 2147483650)] 7 99999999 (rx_find rx_mL 18) rx_L0 [] rx_w0 221 26609) = true := by decide +kernel
set_option maxRecDepth 1000000 in
theorem rx_r3_0 : rx_isE (rx_lawRF [((0, [(0, 63)]), 2147483651, 2147483651), ((1, []), 0, 2147483647)] 7 99999999 (rx_find rx_mL 18) rx_L0 [] rx_w0 221 26609) = true := by decide +kernel
set_option maxRecDepth 1000000 in
theorem rx_r3_1 : rx_isE (rx_lawRF [((0, [(0, 63)]), 2147483651, 2147483651), ((1, []), 2147483648, 2147483648)] 7 99999999 (rx_find rx_mL 18) rx_L0 [] rx_w0 221 26609) = true := by decide +kernel
set_option maxRecDepth 1000000 in
theorem rx_r3_2 : rx_isE (rx_lawRF [((0, [(0, 63)]), 2147483651, 2147483651), ((1, []), 2147483649, 2147483649)] 7 99999999 (rx_find rx_mL 18) rx_L0 [] rx_w0 221 26609) = true := by decide +kernel
set_option maxRecDepth 1000000 in
theorem rx_r3_3 : rx_isE (rx_lawRF [((0, [(0, 63)]), 2147483651, 2147483651), ((1, []), 2147483650, 4294967295)] 7 99999999 (rx_find rx_mL 18) rx_L0 [] rx_w0 221 26609) = true := by decide +kernel
set_option maxRecDepth 1000000 in
theorem rx_r4_0 : rx_isE (rx_lawRF [((0, [(0, 63)]), 2147483652, 2147483652), ((1, []), 0, 2147483647)] 7 99999999 (rx_find rx_mL 18) rx_L0 [] rx_w0 221 26609) = true := by decide +kernel
set_option maxRecDepth 1000000 in
theorem rx_r4_1 : rx_isE (rx_lawRF [((0, [(0, 63)]), 2147483652, 2147483652), ((1, []), 2147483648, 2147483648)] 7 99999999 (rx_find rx_mL 18) rx_L0 [] rx_w0 221 26609) = true := by decide +kernel
set_option maxRecDepth 1000000 in
theorem rx_r4_2 : rx_isE (rx_lawRF [((0, [(0, 63)]), 2147483652, 2147483652), ((1, []), 2147483649, 2147483649)] 7 99999999 (rx_find rx_mL 18) rx_L0 [] rx_w0 221 26609) = true := by decide +kernel
set_option maxRecDepth 1000000 in
theorem rx_r4_3 : rx_isE (rx_lawRF [((0, [(0, 63)]), 2147483652, 2147483652), ((1, []), 2147483650, 2147483650)] 7 99999999 (rx_find rx_mL 18) rx_L0 [] rx_w0 221 26609) = true := by decide +kernel
set_option maxRecDepth 1000000 in
theorem rx_r4_4 : rx_isE (rx_lawRF [((0, [(0, 63)]), 2147483652, 2147483652), ((1, []), 2147483651, 2147483651)] 7 99999999 (rx_find rx_mL 18) rx_L0 [] rx_w0 221 26609) = true := by decide +kernel
set_option maxRecDepth 1000000 in
theorem rx_r4_5 : rx_isE (rx_lawRF [((0, [(0, 63)]), 2147483652, 2147483652), ((1, []), 2147483652, 2147483652)] 7 99999999 (rx_find rx_mL 18) rx_L0 [] rx_w0 221 26609) = true := by decide +kernel
set_option maxRecDepth 1000000 in
theorem rx_r4_6 : rx_isE (rx_lawRF [((0, [(0, 63)]), 2147483652, 2147483652), ((1, []), 2147483653, 2147483653)] 7 99999999 (rx_find rx_mL 18) rx_L0 [] rx_w0 221 26609) = true := by decide +kernel
set_option maxRecDepth 1000000 in
theorem rx_r4_7 : rx_isE (rx_lawRF [((0, [(0, 63)]), 2147483652, 2147483652), ((1, []), 2147483654, 2147483654)] 7 99999999 (rx_find rx_mL 18) rx_L0 [] rx_w0 221 26609) = true := by decide +kernel
set_option maxRecDepth 1000000 in
theorem rx_r4_8 : rx_isE (rx_lawRF [((0, [(0, 63)]), 2147483652, 2147483652), ((1, []), 2147483655, 2147483655)] 7 99999999 (rx_find rx_mL 18) rx_L0 [] rx_w0 221 26609) = true := by decide +kernel
set_option maxRecDepth 1000000 in
theorem rx_r4_9 : rx_isE (rx_lawRF [((0, [(0, 63)]), 2147483652, 2147483652), ((1, []), 2147483656, 2147483656)] 7 99999999 (rx_find rx_mL 18) rx_L0 [] rx_w0 221 26609) = true := by decide +kernel
set_option maxRecDepth 1000000 in
theorem rx_r4_10 : rx_isE (rx_lawRF [((0, [(0, 63)]), 2147483652, 2147483652), ((1, []), 2147483657, 2147483657)] 7 99999999 (rx_find rx_mL 18) rx_L0 [] rx_w0 221 26609) = true := by decide +kernel
set_option maxRecDepth 1000000 in
theorem rx_r4_11 : rx_isE (rx_lawRF [((0, [(0, 63)]), 2147483652, 2147483652), ((1, []), 2147483658, 4294967295)] 7 99999999 (rx_find rx_mL 18) rx_L0 [] rx_w0 221 26609) = true := by decide +kernel
set_option maxRecDepth 1000000 in
theorem rx_r5_0 : rx_isE (rx_lawRF [((0, [(0, 63)]), 2147483653, 2147483653), ((3, []), 0, 2147483647), ((1, []), 0, 2147483647)] 7 99999999 (rx_find rx_mL 18) rx_L0 [] rx_w0 221 26609) = true := by decide +kernel
set_option maxRecDepth 1000000 in
theorem rx_r5_1 : rx_isE (rx_lawRF [((0, [(0, 63)]), 2147483653, 2147483653), ((3, []), 0, 2147483647), ((1, []), 2147483648, 2147483648), ((2, []), 0, 2147483647)] 7 99999999 (rx_find rx_mL 18) rx_L0 [] rx_w0 221 26609) = true := by decide +kernel
set_option maxRecDepth 1000000 in
theorem rx_r5_2 : rx_isE (rx_lawRF [((0, [(0, 63)]), 2147483653, 2147483653), ((3, []), 0, 2147483647), ((1, []), 2147483648, 2147483648), ((2, []), 2147483648, 4294967295)] 7 99999999 (rx_find rx_mL 18) rx_L0 [] rx_w0 221 26609) = true := by decide +kernel
set_option maxRecDepth 1000000 in
theorem rx_r5_3 : rx_isE (rx_lawRF [((0, [(0, 63)]), 2147483653, 2147483653), ((3, []), 0, 2147483647), ((1, []), 2147483649, 2147483649), ((2, []), 0, 2147483647)] 7 99999999 (rx_find rx_mL 18) rx_L0 [] rx_w0 221 26609) = true := by decide +kernel
set_option maxRecDepth 1000000 in
theorem rx_r5_4 : rx_isE (rx_lawRF [((0, [(0, 63)]), 2147483653, 2147483653), ((3, []), 0, 2147483647), ((1, []), 2147483649, 2147483649), ((2, []), 2147483648, 4294967295)] 7 99999999 (rx_find rx_mL 18) rx_L0 [] rx_w0 221 26609) = true := by decide +kernel
set_option maxRecDepth 1000000 in
theorem rx_r5_5 : rx_isE (rx_lawRF [((0, [(0, 63)]), 2147483653, 2147483653), ((3, []), 0, 2147483647), ((1, []), 2147483650, 4294967295)] 7 99999999 (rx_find rx_mL 18) rx_L0 [] rx_w0 221 26609) = true := by decide +kernel
set_option maxRecDepth 1000000 in
theorem rx_r5_6 : rx_isE (rx_lawRF [((0, [(0, 63)]), 2147483653, 2147483653), ((3, []), 2147483648, 2147483653), ((1, []), 0, 2147483647)] 7 99999999 (rx_find rx_mL 18) rx_L0 [] rx_w0 221 26609) = true := by decide +kernel
set_option maxRecDepth 1000000 in
theorem rx_r5_7 : rx_isE (rx_lawRF [((0, [(0, 63)]), 2147483653, 2147483653), ((3, []), 2147483648, 2147483653), ((1, []), 2147483648, 2147483648), ((2, []), 0, 2147483647)] 7 99999999 (rx_find rx_mL 18) rx_L0 [] rx_w0 221 26609) = true := by decide +kernel
set_option maxRecDepth 1000000 in
theorem rx_r5_8 : rx_isE (rx_lawRF [((0, [(0, 63)]), 2147483653, 2147483653), ((3, []), 2147483648, 2147483653), ((1, []), 2147483648, 2147483648), ((2, []), 2147483648, 4294967295)] 7 99999999 (rx_find rx_mL 18) rx_L0 [] rx_w0 221 26609) = true := by decide +kernel
set_option maxRecDepth 1000000 in
theorem rx_r5_9 : rx_isE (rx_lawRF [((0, [(0, 63)]), 2147483653, 2147483653), ((3, []), 2147483648, 2147483653), ((1, []), 2147483649, 2147483649), ((2, []), 0, 2147483647)] 7 99999999 (rx_find rx_mL 18) rx_L0 [] rx_w0 221 26609) = true := by decide +kernel
set_option maxRecDepth 1000000 in
theorem rx_r5_10 : rx_isE (rx_lawRF [((0, [(0, 63)]), 2147483653, 2147483653), ((3, []), 2147483648, 2147483653), ((1, []), 2147483649, 2147483649), ((2, []), 2147483648, 4294967295)] 7 99999999 (rx_find rx_mL 18) rx_L0 [] rx_w0 221 26609) = true := by decide +kernel
set_option maxRecDepth 1000000 in
theorem rx_r5_11 : rx_isE (rx_lawRF [((0, [(0, 63)]), 2147483653, 2147483653), ((3, []), 2147483648, 2147483653), ((1, []), 2147483650, 4294967295)] 7 99999999 (rx_find rx_mL 18) rx_L0 [] rx_w0 221 26609) = true := by decide +kernel
set_option maxRecDepth 1000000 in
theorem rx_r5_12 : rx_isE (rx_lawRF [((0, [(0, 63)]), 2147483653, 2147483653), ((3, []), 2147483654, 4294967295), ((1, []), 0, 2147483647)] 7 99999999 (rx_find rx_mL 18) rx_L0 [] rx_w0 221 26609) = true := by decide +kernel
set_option maxRecDepth 1000000 in
theorem rx_r5_13 : rx_isE (rx_lawRF [((0, [(0, 63)]), 2147483653, 2147483653), ((3, []), 2147483654, 4294967295), ((1, []), 2147483648, 2147483648), ((2, []), 0, 2147483647)] 7 99999999 (rx_find rx_mL 18) rx_L0 [] rx_w0 221 26609) = true := by decide +kernel
set_option maxRecDepth 1000000 in
theorem rx_r5_14 : rx_isE (rx_lawRF [((0, [(0, 63)]), 2147483653, 2147483653), ((3, []), 2147483654, 4294967295), ((1, []), 2147483648, 2147483648), ((2, []), 2147483648, 4294967295)] 7 99999999 (rx_find rx_mL 18) rx_L0 [] rx_w0 221 26609) = true := by decide +kernel
set_option maxRecDepth 1000000 in
theorem rx_r5_15 : rx_isE (rx_lawRF [((0, [(0, 63)]), 2147483653, 2147483653), ((3, []), 2147483654, 4294967295), ((1, []), 2147483649, 2147483649), ((2, []), 0, 2147483647)] 7 99999999 (rx_find rx_mL 18) rx_L0 [] rx_w0 221 26609) = true := by decide +kernel
set_option maxRecDepth 1000000 in
theorem rx_r5_16 : rx_isE (rx_lawRF [((0, [(0, 63)]), 2147483653, 2147483653), ((3, []), 2147483654, 4294967295), ((1, []), 2147483649, 2147483649), ((2, []), 2147483648, 4294967295)] 7 99999999 (rx_find rx_mL 18) rx_L0 [] rx_w0 221 26609) = true := by decide +kernel
set_option maxRecDepth 1000000 in
theorem rx_r5_17 : rx_isE (rx_lawRF [((0, [(0, 63)]), 2147483653, 2147483653), ((3, []), 2147483654, 4294967295), ((1, []), 2147483650, 4294967295)] 7 99999999 (rx_find rx_mL 18) rx_L0 [] rx_w0 221 26609) = true := by decide +kernel
set_option maxRecDepth 1000000 in
theorem rx_r6_0 : rx_isE (rx_lawRF [((0, [(0, 63)]), 2147483654, 2147483654), ((1, []), 0, 2147483647)] 7 99999999 (rx_find rx_mL 18) rx_L0 [] rx_w0 221 26609) = true := by decide +kernel
set_option maxRecDepth 1000000 in
theorem rx_r6_1 : rx_isE (rx_lawRF [((0, [(0, 63)]), 2147483654, 2147483654), ((1, []), 2147483648, 4294967295)] 7 99999999 (rx_find rx_mL 18) rx_L0 [] rx_w0 221 26609) = true := by decide +kernel
set_option maxRecDepth 1000000 in
theorem rx_r7_0 : rx_isE (rx_lawRF [((0, [(0, 63)]), 2147483655, 2147483655), ((1, []), 0, 2147483647)] 7 99999999 (rx_find rx_mL 18) rx_L0 [] rx_w0 221 26609) = true := by decide +kernel
set_option maxRecDepth 1000000 in
theorem rx_r7_1 : rx_isE (rx_lawRF [((0, [(0, 63)]), 2147483655, 2147483655), ((1, []), 2147483648, 4294967295)] 7 99999999 (rx_find rx_mL 18) rx_L0 [] rx_w0 221 26609) = true := by decide +kernel
set_option maxRecDepth 1000000 in
theorem rx_r8_0 : rx_isE (rx_lawRF [((0, [(0, 63)]), 2147483656, 2147483656), ((1, []), 0, 2147483647)] 7 99999999 (rx_find rx_mL 18) rx_L0 [] rx_w0 221 26609) = true := by decide +kernel
set_option maxRecDepth 1000000 in
theorem rx_r8_1 : rx_isE (rx_lawRF [((0, [(0, 63)]), 2147483656, 2147483656), ((1, []), 2147483648, 4294967295)] 7 99999999 (rx_find rx_mL 18) rx_L0 [] rx_w0 221 26609) = true := by decide +kernel
set_option maxRecDepth 1000000 in
theorem rx_r9_0 : rx_isE (rx_lawRF [((0, [(0, 63)]), 2147483657, 2147483657), ((1, []), 0, 2147483647)] 7 99999999 (rx_find rx_mL 18) rx_L0 [] rx_w0 221 26609) = true := by decide +kernel
set_option maxRecDepth 1000000 in
theorem rx_r9_1 : rx_isE (rx_lawRF [((0, [(0, 63)]), 2147483657, 2147483657), ((1, []), 2147483648, 4294967295)] 7 99999999 (rx_find rx_mL 18) rx_L0 [] rx_w0 221 26609) = true := by decide +kernel
set_option maxRecDepth 1000000 in
theorem rx_r10_0 : rx_isE (rx_lawRF [((0, [(0, 63)]), 2147483658, 2147483658), ((1, []), 0, 2147483647)] 7 99999999 (rx_find rx_mL 18) rx_L0 [] rx_w0 221 26609) = true := by decide +kernel
set_option maxRecDepth 1000000 in
theorem rx_r10_1 : rx_isE (rx_lawRF [((0, [(0, 63)]), 2147483658, 2147483658), ((1, []), 2147483648, 2147483648)] 7 99999999 (rx_find rx_mL 18) rx_L0 [] rx_w0 221 26609) = true := by decide +kernel
