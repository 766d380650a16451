/-! printed by wip/p1/regs.py: closed runs of the law, a region of scripts each -/
set_option maxRecDepth 1000000 in
theorem rx_r19_0 : rx_isE (rx_lawRF [((0, [(0, 63)]), 2147483667, 2147483667)] 7 99999999 (rx_find rx_mL 18) rx_L0 [] rx_w0 221 26609) = true := by decide +kernel
set_option maxRecDepth 1000000 in
theorem rx_r20_0 : rx_isE (rx_lawRF [((0, [(0, 63)]), 2147483668, 2147483668), ((1, []), 0, 2147483648)] 7 99999999 (rx_find rx_mL 18) rx_L0 [] rx_w0 221 26609) = true := by decide +kernel
set_option maxRecDepth 1000000 in
theorem rx_r20_1 : rx_isE (rx_lawRF [((0, [(0, 63)]), 2147483668, 2147483668), ((1, []), 2147483649, 2147483649)] 7 99999999 (rx_find rx_mL 18) rx_L0 [] rx_w0 221 26609) = true := by decide +kernel
set_option maxRecDepth 1000000 in
theorem rx_r20_2 : rx_isE (rx_lawRF [((0, [(0, 63)]), 2147483668, 2147483668), ((1, []), 2147483650, 2147483650)] 7 99999999 (rx_find rx_mL 18) rx_L0 [] rx_w0 221 26609) = true := by decide +kernel
set_option maxRecDepth 1000000 in
theorem rx_r20_3 : rx_isE (rx_lawRF [((0, [(0, 63)]), 2147483668, 2147483668), ((1, []), 2147483651, 2147483651)] 7 99999999 (rx_find rx_mL 18) rx_L0 [] rx_w0 221 26609) = true := by decide +kernel
set_option maxRecDepth 1000000 in
theorem rx_r20_4 : rx_isE (rx_lawRF [((0, [(0, 63)]), 2147483668, 2147483668), ((1, []), 2147483652, 2147483652)] 7 99999999 (rx_find rx_mL 18) rx_L0 [] rx_w0 221 26609) = true := by decide +kernel
set_option maxRecDepth 1000000 in
theorem rx_r20_5 : rx_isE (rx_lawRF [((0, [(0, 63)]), 2147483668, 2147483668), ((1, []), 2147483653, 2147483653)] 7 99999999 (rx_find rx_mL 18) rx_L0 [] rx_w0 221 26609) = true := by decide +kernel
set_option maxRecDepth 1000000 in
theorem rx_r20_6 : rx_isE (rx_lawRF [((0, [(0, 63)]), 2147483668, 2147483668), ((1, []), 2147483654, 2147483654)] 7 99999999 (rx_find rx_mL 18) rx_L0 [] rx_w0 221 26609) = true := by decide +kernel
set_option maxRecDepth 1000000 in
theorem rx_r20_7 : rx_isE (rx_lawRF [((0, [(0, 63)]), 2147483668, 2147483668), ((1, []), 2147483655, 2147483655)] 7 99999999 (rx_find rx_mL 18) rx_L0 [] rx_w0 221 26609) = true := by decide +kernel
set_option maxRecDepth 1000000 in
theorem rx_r20_8 : rx_isE (rx_lawRF [((0, [(0, 63)]), 2147483668, 2147483668), ((1, []), 2147483656, 2147483656)] 7 99999999 (rx_find rx_mL 18) rx_L0 [] rx_w0 221 26609) = true := by decide +kernel
set_option maxRecDepth 1000000 in
theorem rx_r20_9 : rx_isE (rx_lawRF [((0, [(0, 63)]), 2147483668, 2147483668), ((1, []), 2147483657, 2147483657)] 7 99999999 (rx_find rx_mL 18) rx_L0 [] rx_w0 221 26609) = true := by decide +kernel
set_option maxRecDepth 1000000 in
theorem rx_r20_10 : rx_isE (rx_lawRF [((0, [(0, 63)]), 2147483668, 2147483668), ((1, []), 2147483658, 2147483658)] 7 99999999 (rx_find rx_mL 18) rx_L0 [] rx_w0 221 26609) = true := by decide +kernel
set_option maxRecDepth 1000000 in
theorem rx_r20_11 : rx_isE (rx_lawRF [((0, [(0, 63)]), 2147483668, 2147483668), ((1, []), 2147483659, 2147483659)] 7 99999999 (rx_find rx_mL 18) rx_L0 [] rx_w0 221 26609) = true := by decide +kernel
set_option maxRecDepth 1000000 in
theorem rx_r20_12 : rx_isE (rx_lawRF [((0, [(0, 63)]), 2147483668, 2147483668), ((1, []), 2147483660, 2147483660)] 7 99999999 (rx_find rx_mL 18) rx_L0 [] rx_w0 221 26609) = true := by decide +kernel
set_option maxRecDepth 1000000 in
theorem rx_r20_13 : rx_isE (rx_lawRF [((0, [(0, 63)]), 2147483668, 2147483668), ((1, []), 2147483661, 2147483661)] 7 99999999 (rx_find rx_mL 18) rx_L0 [] rx_w0 221 26609) = true := by decide +kernel
set_option maxRecDepth 1000000 in
theorem rx_r20_14 : rx_isE (rx_lawRF [((0, [(0, 63)]), 2147483668, 2147483668), ((1, []), 2147483662, 2147483662)] 7 99999999 (rx_find rx_mL 18) rx_L0 [] rx_w0 221 26609) = true := by decide +kernel
set_option maxRecDepth 1000000 in
theorem rx_r20_15 : rx_isE (rx_lawRF [((0, [(0, 63)]), 2147483668, 2147483668), ((1, []), 2147483663, 2147483663)] 7 99999999 (rx_find rx_mL 18) rx_L0 [] rx_w0 221 26609) = true := by decide +kernel
set_option maxRecDepth 1000000 in
theorem rx_r20_16 : rx_isE (rx_lawRF [((0, [(0, 63)]), 2147483668, 2147483668), ((1, []), 2147483664, 2147483664)] 7 99999999 (rx_find rx_mL 18) rx_L0 [] rx_w0 221 26609) = true := by decide +kernel
set_option maxRecDepth 1000000 in
theorem rx_r20_17 : rx_isE (rx_lawRF [((0, [(0, 63)]), 2147483668, 2147483668), ((1, []), 2147483665, 2147483665)] 7 99999999 (rx_find rx_mL 18) rx_L0 [] rx_w0 221 26609) = true := by decide +kernel
set_option maxRecDepth 1000000 in
theorem rx_r20_18 : rx_isE (rx_lawRF [((0, [(0, 63)]), 2147483668, 2147483668), ((1, []), 2147483666, 2147483666)] 7 99999999 (rx_find rx_mL 18) rx_L0 [] rx_w0 221 26609) = true := by decide +kernel
set_option maxRecDepth 1000000 in
theorem rx_r20_19 : rx_isE (rx_lawRF [((0, [(0, 63)]), 2147483668, 2147483668), ((1, []), 2147483667, 2147483667)] 7 99999999 (rx_find rx_mL 18) rx_L0 [] rx_w0 221 26609) = true := by decide +kernel
set_option maxRecDepth 1000000 in
theorem rx_r20_20 : rx_isE (rx_lawRF [((0, [(0, 63)]), 2147483668, 2147483668), ((1, []), 2147483668, 2147483668)] 7 99999999 (rx_find rx_mL 18) rx_L0 [] rx_w0 221 26609) = true := by decide +kernel
set_option maxRecDepth 1000000 in
theorem rx_r20_21 : rx_isE (rx_lawRF [((0, [(0, 63)]), 2147483668, 2147483668), ((1, []), 2147483669, 4294967295)] 7 99999999 (rx_find rx_mL 18) rx_L0 [] rx_w0 221 26609) = true := by decide +kernel
set_option maxRecDepth 1000000 in
theorem rx_r21_0 : rx_isE (rx_lawRF [((0, [(0, 63)]), 2147483669, 2147483669), ((1, []), 0, 2147483648)] 7 99999999 (rx_find rx_mL 18) rx_L0 [] rx_w0 221 26609) = true := by decide +kernel
set_option maxRecDepth 1000000 in
theorem rx_r21_1 : rx_isE (rx_lawRF [((0, [(0, 63)]), 2147483669, 2147483669), ((1, []), 2147483649, 2147483649), ((2, []), 0, 2147483647)] 7 99999999 (rx_find rx_mL 18) rx_L0 [] rx_w0 221 26609) = true := by decide +kernel
set_option maxRecDepth 1000000 in
theorem rx_r21_2 : rx_isE (rx_lawRF [((0, [(0, 63)]), 2147483669, 2147483669), ((1, []), 2147483650, 2147483650), ((2, []), 0, 2147483647)] 7 99999999 (rx_find rx_mL 18) rx_L0 [] rx_w0 221 26609) = true := by decide +kernel
set_option maxRecDepth 1000000 in
theorem rx_r21_3 : rx_isE (rx_lawRF [((0, [(0, 63)]), 2147483669, 2147483669), ((1, []), 2147483651, 2147483651), ((2, []), 0, 2147483647)] 7 99999999 (rx_find rx_mL 18) rx_L0 [] rx_w0 221 26609) = true := by decide +kernel
set_option maxRecDepth 1000000 in
theorem rx_r21_4 : rx_isE (rx_lawRF [((0, [(0, 63)]), 2147483669, 2147483669), ((1, []), 2147483652, 2147483652), ((2, []), 0, 2147483647)] 7 99999999 (rx_find rx_mL 18) rx_L0 [] rx_w0 221 26609) = true := by decide +kernel
set_option maxRecDepth 1000000 in
theorem rx_r21_5 : rx_isE (rx_lawRF [((0, [(0, 63)]), 2147483669, 2147483669), ((1, []), 2147483653, 2147483653), ((2, []), 0, 2147483647)] 7 99999999 (rx_find rx_mL 18) rx_L0 [] rx_w0 221 26609) = true := by decide +kernel
set_option maxRecDepth 1000000 in
theorem rx_r21_6 : rx_isE (rx_lawRF [((0, [(0, 63)]), 2147483669, 2147483669), ((1, []), 2147483654, 2147483654), ((2, []), 0, 2147483647)] 7 99999999 (rx_find rx_mL 18) rx_L0 [] rx_w0 221 26609) = true := by decide +kernel
set_option maxRecDepth 1000000 in
theorem rx_r21_7 : rx_isE (rx_lawRF [((0, [(0, 63)]), 2147483669, 2147483669), ((1, []), 2147483655, 2147483655), ((2, []), 0, 2147483647)] 7 99999999 (rx_find rx_mL 18) rx_L0 [] rx_w0 221 26609) = true := by decide +kernel
set_option maxRecDepth 1000000 in
theorem rx_r21_8 : rx_isE (rx_lawRF [((0, [(0, 63)]), 2147483669, 2147483669), ((1, []), 2147483656, 2147483656), ((2, []), 0, 2147483647)] 7 99999999 (rx_find rx_mL 18) rx_L0 [] rx_w0 221 26609) = true := by decide +kernel
set_option maxRecDepth 1000000 in
theorem rx_r21_9 : rx_isE (rx_lawRF [((0, [(0, 63)]), 2147483669, 2147483669), ((1, []), 2147483657, 2147483657), ((2, []), 0, 2147483647)] 7 99999999 (rx_find rx_mL 18) rx_L0 [] rx_w0 221 26609) = true := by decide +kernel
set_option maxRecDepth 1000000 in
theorem rx_r21_10 : rx_isE (rx_lawRF [((0, [(0, 63)]), 2147483669, 2147483669), ((1, []), 2147483658, 2147483658), ((2, []), 0, 2147483647)] 7 99999999 (rx_find rx_mL 18) rx_L0 [] rx_w0 221 26609) = true := by decide +kernel
set_option maxRecDepth 1000000 in
theorem rx_r21_11 : rx_isE (rx_lawRF [((0, [(0, 63)]), 2147483669, 2147483669), ((1, []), 2147483659, 2147483659), ((2, []), 0, 2147483647)] 7 99999999 (rx_find rx_mL 18) rx_L0 [] rx_w0 221 26609) = true := by decide +kernel
set_option maxRecDepth 1000000 in
theorem rx_r21_12 : rx_isE (rx_lawRF [((0, [(0, 63)]), 2147483669, 2147483669), ((1, []), 2147483660, 2147483660), ((2, []), 0, 2147483647)] 7 99999999 (rx_find rx_mL 18) rx_L0 [] rx_w0 221 26609) = true := by decide +kernel
set_option maxRecDepth 1000000 in
theorem rx_r21_13 : rx_isE (rx_lawRF [((0, [(0, 63)]), 2147483669, 2147483669), ((1, []), 2147483661, 2147483661), ((2, []), 0, 2147483647)] 7 99999999 (rx_find rx_mL 18) rx_L0 [] rx_w0 221 26609) = true := by decide +kernel
set_option maxRecDepth 1000000 in
theorem rx_r21_14 : rx_isE (rx_lawRF [((0, [(0, 63)]), 2147483669, 2147483669), ((1, []), 2147483662, 2147483662), ((2, []), 0, 2147483647)] 7 99999999 (rx_find rx_mL 18) rx_L0 [] rx_w0 221 26609) = true := by decide +kernel
set_option maxRecDepth 1000000 in
theorem rx_r21_15 : rx_isE (rx_lawRF [((0, [(0, 63)]), 2147483669, 2147483669), ((1, []), 2147483663, 2147483663), ((2, []), 0, 2147483647)] 7 99999999 (rx_find rx_mL 18) rx_L0 [] rx_w0 221 26609) = true := by decide +kernel
set_option maxRecDepth 1000000 in
theorem rx_r21_16 : rx_isE (rx_lawRF [((0, [(0, 63)]), 2147483669, 2147483669), ((1, []), 2147483664, 2147483664), ((2, []), 0, 2147483647)] 7 99999999 (rx_find rx_mL 18) rx_L0 [] rx_w0 221 26609) = true := by decide +kernel
set_option maxRecDepth 1000000 in
theorem rx_r21_17 : rx_isE (rx_lawRF [((0, [(0, 63)]), 2147483669, 2147483669), ((1, []), 2147483665, 2147483665), ((2, []), 0, 2147483647)] 7 99999999 (rx_find rx_mL 18) rx_L0 [] rx_w0 221 26609) = true := by decide +kernel
set_option maxRecDepth 1000000 in
theorem rx_r21_18 : rx_isE (rx_lawRF [((0, [(0, 63)]), 2147483669, 2147483669), ((1, []), 2147483666, 2147483666), ((2, []), 0, 2147483647)] 7 99999999 (rx_find rx_mL 18) rx_L0 [] rx_w0 221 26609) = true := by decide +kernel
set_option maxRecDepth 1000000 in
theorem rx_r21_19 : rx_isE (rx_lawRF [((0, [(0, 63)]), 2147483669, 2147483669), ((1, []), 2147483667, 2147483667), ((2, []), 0, 2147483647)] 7 99999999 (rx_find rx_mL 18) rx_L0 [] rx_w0 221 26609) = true := by decide +kernel
set_option maxRecDepth 1000000 in
theorem rx_r21_20 : rx_isE (rx_lawRF [((0, [(0, 63)]), 2147483669, 2147483669), ((1, []), 2147483668, 2147483668), ((2, []), 0, 2147483647)] 7 99999999 (rx_find rx_mL 18) rx_L0 [] rx_w0 221 26609) = true := by decide +kernel
set_option maxRecDepth 1000000 in
theorem rx_r21_21 : rx_isE (rx_lawRF [((0, [(0, 63)]), 2147483669, 2147483669), ((1, []), 2147483649, 2147483649), ((2, []), 2147483648, 2147483648)] 7 99999999 (rx_find rx_mL 18) rx_L0 [] rx_w0 221 26609) = true := by decide +kernel
set_option maxRecDepth 1000000 in
theorem rx_r21_22 : rx_isE (rx_lawRF [((0, [(0, 63)]), 2147483669, 2147483669), ((1, []), 2147483649, 2147483649), ((2, []), 2147483649, 4294967295)] 7 99999999 (rx_find rx_mL 18) rx_L0 [] rx_w0 221 26609) = true := by decide +kernel
set_option maxRecDepth 1000000 in
theorem rx_r21_23 : rx_isE (rx_lawRF [((0, [(0, 63)]), 2147483669, 2147483669), ((1, []), 2147483650, 2147483650), ((2, []), 2147483648, 2147483649)] 7 99999999 (rx_find rx_mL 18) rx_L0 [] rx_w0 221 26609) = true := by decide +kernel
set_option maxRecDepth 1000000 in
theorem rx_r21_24 : rx_isE (rx_lawRF [((0, [(0, 63)]), 2147483669, 2147483669), ((1, []), 2147483650, 2147483650), ((2, []), 2147483650, 4294967295)] 7 99999999 (rx_find rx_mL 18) rx_L0 [] rx_w0 221 26609) = true := by decide +kernel
set_option maxRecDepth 1000000 in
theorem rx_r21_25 : rx_isE (rx_lawRF [((0, [(0, 63)]), 2147483669, 2147483669), ((1, []), 2147483651, 2147483651), ((2, []), 2147483648, 2147483650)] 7 99999999 (rx_find rx_mL 18) rx_L0 [] rx_w0 221 26609) = true := by decide +kernel
set_option maxRecDepth 1000000 in
theorem rx_r21_26 : rx_isE (rx_lawRF [((0, [(0, 63)]), 2147483669, 2147483669), ((1, []), 2147483651, 2147483651), ((2, []), 2147483651, 4294967295)] 7 99999999 (rx_find rx_mL 18) rx_L0 [] rx_w0 221 26609) = true := by decide +kernel
set_option maxRecDepth 1000000 in
theorem rx_r21_27 : rx_isE (rx_lawRF [((0, [(0, 63)]), 2147483669, 2147483669), ((1, []), 2147483652, 2147483652), ((2, []), 2147483648, 2147483651)] 7 99999999 (rx_find rx_mL 18) rx_L0 [] rx_w0 221 26609) = true := by decide +kernel
set_option maxRecDepth 1000000 in
theorem rx_r21_28 : rx_isE (rx_lawRF [((0, [(0, 63)]), 2147483669, 2147483669), ((1, []), 2147483652, 2147483652), ((2, []), 2147483652, 4294967295)] 7 99999999 (rx_find rx_mL 18) rx_L0 [] rx_w0 221 26609) = true := by decide +kernel
set_option maxRecDepth 1000000 in
theorem rx_r21_29 : rx_isE (rx_lawRF [((0, [(0, 63)]), 2147483669, 2147483669), ((1, []), 2147483653, 2147483653), ((2, []), 2147483648, 2147483652)] 7 99999999 (rx_find rx_mL 18) rx_L0 [] rx_w0 221 26609) = true := by decide +kernel
set_option maxRecDepth 1000000 in
theorem rx_r21_30 : rx_isE (rx_lawRF [((0, [(0, 63)]), 2147483669, 2147483669), ((1, []), 2147483653, 2147483653), ((2, []), 2147483653, 4294967295)] 7 99999999 (rx_find rx_mL 18) rx_L0 [] rx_w0 221 26609) = true := by decide +kernel
set_option maxRecDepth 1000000 in
theorem rx_r21_31 : rx_isE (rx_lawRF [((0, [(0, 63)]), 2147483669, 2147483669), ((1, []), 2147483654, 2147483654), ((2, []), 2147483648, 2147483653)] 7 99999999 (rx_find rx_mL 18) rx_L0 [] rx_w0 221 26609) = true := by decide +kernel
set_option maxRecDepth 1000000 in
theorem rx_r21_32 : rx_isE (rx_lawRF [((0, [(0, 63)]), 2147483669, 2147483669), ((1, []), 2147483654, 2147483654), ((2, []), 2147483654, 4294967295)] 7 99999999 (rx_find rx_mL 18) rx_L0 [] rx_w0 221 26609) = true := by decide +kernel
set_option maxRecDepth 1000000 in
theorem rx_r21_33 : rx_isE (rx_lawRF [((0, [(0, 63)]), 2147483669, 2147483669), ((1, []), 2147483655, 2147483655), ((2, []), 2147483648, 2147483654)] 7 99999999 (rx_find rx_mL 18) rx_L0 [] rx_w0 221 26609) = true := by decide +kernel
set_option maxRecDepth 1000000 in
theorem rx_r21_34 : rx_isE (rx_lawRF [((0, [(0, 63)]), 2147483669, 2147483669), ((1, []), 2147483655, 2147483655), ((2, []), 2147483655, 4294967295)] 7 99999999 (rx_find rx_mL 18) rx_L0 [] rx_w0 221 26609) = true := by decide +kernel
set_option maxRecDepth 1000000 in
theorem rx_r21_35 : rx_isE (rx_lawRF [((0, [(0, 63)]), 2147483669, 2147483669), ((1, []), 2147483656, 2147483656), ((2, []), 2147483648, 2147483655)] 7 99999999 (rx_find rx_mL 18) rx_L0 [] rx_w0 221 26609) = true := by decide +kernel
set_option maxRecDepth 1000000 in
theorem rx_r21_36 : rx_isE (rx_lawRF [((0, [(0, 63)]), 2147483669, 2147483669), ((1, []), 2147483656, 2147483656), ((2, []), 2147483656, 4294967295)] 7 99999999 (rx_find rx_mL 18) rx_L0 [] rx_w0 221 26609) = true := by decide +kernel
set_option maxRecDepth 1000000 in
theorem rx_r21_37 : rx_isE (rx_lawRF [((0, [(0, 63)]), 2147483669, 2147483669), ((1, []), 2147483657, 2147483657), ((2, []), 2147483648, 2147483656)] 7 99999999 (rx_find rx_mL 18) rx_L0 [] rx_w0 221 26609) = true := by decide +kernel
set_option maxRecDepth 1000000 in
theorem rx_r21_38 : rx_isE (rx_lawRF [((0, [(0, 63)]), 2147483669, 2147483669), ((1, []), 2147483657, 2147483657), ((2, []), 2147483657, 4294967295)] 7 99999999 (rx_find rx_mL 18) rx_L0 [] rx_w0 221 26609) = true := by decide +kernel
set_option maxRecDepth 1000000 in
theorem rx_r21_39 : rx_isE (rx_lawRF [((0, [(0, 63)]), 2147483669, 2147483669), ((1, []), 2147483658, 2147483658), ((2, []), 2147483648, 2147483657)] 7 99999999 (rx_find rx_mL 18) rx_L0 [] rx_w0 221 26609) = true := by decide +kernel
set_option maxRecDepth 1000000 in
theorem rx_r21_40 : rx_isE (rx_lawRF [((0, [(0, 63)]), 2147483669, 2147483669), ((1, []), 2147483658, 2147483658), ((2, []), 2147483658, 4294967295)] 7 99999999 (rx_find rx_mL 18) rx_L0 [] rx_w0 221 26609) = true := by decide +kernel
set_option maxRecDepth 1000000 in
theorem rx_r21_41 : rx_isE (rx_lawRF [((0, [(0, 63)]), 2147483669, 2147483669), ((1, []), 2147483659, 2147483659), ((2, []), 2147483648, 2147483658)] 7 99999999 (rx_find rx_mL 18) rx_L0 [] rx_w0 221 26609) = true := by decide +kernel
set_option maxRecDepth 1000000 in
theorem rx_r21_42 : rx_isE (rx_lawRF [((0, [(0, 63)]), 2147483669, 2147483669), ((1, []), 2147483659, 2147483659), ((2, []), 2147483659, 4294967295)] 7 99999999 (rx_find rx_mL 18) rx_L0 [] rx_w0 221 26609) = true := by decide +kernel
set_option maxRecDepth 1000000 in
theorem rx_r21_43 : rx_isE (rx_lawRF [((0, [(0, 63)]), 2147483669, 2147483669), ((1, []), 2147483660, 2147483660), ((2, []), 2147483648, 2147483659)] 7 99999999 (rx_find rx_mL 18) rx_L0 [] rx_w0 221 26609) = true := by decide +kernel
