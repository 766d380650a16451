/-! printed by wip/p1/regs.py: closed runs of the law, a region of scripts each -/
set_option maxRecDepth 1000000 in
theorem rx_r21_44 : rx_isE (rx_lawRF [((0, [(0, 63)]), 2147483669, 2147483669), ((1, []), 2147483660, 2147483660), ((2, []), 2147483660, 4294967295)] 7 99999999 (rx_find rx_mL 18) rx_L0 [] rx_w0 221 26609) = true := by decide +kernel
set_option maxRecDepth 1000000 in
theorem rx_r21_45 : rx_isE (rx_lawRF [((0, [(0, 63)]), 2147483669, 2147483669), ((1, []), 2147483661, 2147483661), ((2, []), 2147483648, 2147483660)] 7 99999999 (rx_find rx_mL 18) rx_L0 [] rx_w0 221 26609) = true := by decide +kernel
set_option maxRecDepth 1000000 in
theorem rx_r21_46 : rx_isE (rx_lawRF [((0, [(0, 63)]), 2147483669, 2147483669), ((1, []), 2147483661, 2147483661), ((2, []), 2147483661, 4294967295)] 7 99999999 (rx_find rx_mL 18) rx_L0 [] rx_w0 221 26609) = true := by decide +kernel
set_option maxRecDepth 1000000 in
theorem rx_r21_47 : rx_isE (rx_lawRF [((0, [(0, 63)]), 2147483669, 2147483669), ((1, []), 2147483662, 2147483662), ((2, []), 2147483648, 2147483661)] 7 99999999 (rx_find rx_mL 18) rx_L0 [] rx_w0 221 26609) = true := by decide +kernel
set_option maxRecDepth 1000000 in
theorem rx_r21_48 : rx_isE (rx_lawRF [((0, [(0, 63)]), 2147483669, 2147483669), ((1, []), 2147483662, 2147483662), ((2, []), 2147483662, 4294967295)] 7 99999999 (rx_find rx_mL 18) rx_L0 [] rx_w0 221 26609) = true := by decide +kernel
set_option maxRecDepth 1000000 in
theorem rx_r21_49 : rx_isE (rx_lawRF [((0, [(0, 63)]), 2147483669, 2147483669), ((1, []), 2147483663, 2147483663), ((2, []), 2147483648, 2147483662)] 7 99999999 (rx_find rx_mL 18) rx_L0 [] rx_w0 221 26609) = true := by decide +kernel
set_option maxRecDepth 1000000 in
theorem rx_r21_50 : rx_isE (rx_lawRF [((0, [(0, 63)]), 2147483669, 2147483669), ((1, []), 2147483663, 2147483663), ((2, []), 2147483663, 4294967295)] 7 99999999 (rx_find rx_mL 18) rx_L0 [] rx_w0 221 26609) = true := by decide +kernel
set_option maxRecDepth 1000000 in
theorem rx_r21_51 : rx_isE (rx_lawRF [((0, [(0, 63)]), 2147483669, 2147483669), ((1, []), 2147483664, 2147483664), ((2, []), 2147483648, 2147483663)] 7 99999999 (rx_find rx_mL 18) rx_L0 [] rx_w0 221 26609) = true := by decide +kernel
set_option maxRecDepth 1000000 in
theorem rx_r21_52 : rx_isE (rx_lawRF [((0, [(0, 63)]), 2147483669, 2147483669), ((1, []), 2147483664, 2147483664), ((2, []), 2147483664, 4294967295)] 7 99999999 (rx_find rx_mL 18) rx_L0 [] rx_w0 221 26609) = true := by decide +kernel
set_option maxRecDepth 1000000 in
theorem rx_r21_53 : rx_isE (rx_lawRF [((0, [(0, 63)]), 2147483669, 2147483669), ((1, []), 2147483665, 2147483665), ((2, []), 2147483648, 2147483664)] 7 99999999 (rx_find rx_mL 18) rx_L0 [] rx_w0 221 26609) = true := by decide +kernel
set_option maxRecDepth 1000000 in
theorem rx_r21_54 : rx_isE (rx_lawRF [((0, [(0, 63)]), 2147483669, 2147483669), ((1, []), 2147483665, 2147483665), ((2, []), 2147483665, 4294967295)] 7 99999999 (rx_find rx_mL 18) rx_L0 [] rx_w0 221 26609) = true := by decide +kernel
set_option maxRecDepth 1000000 in
theorem rx_r21_55 : rx_isE (rx_lawRF [((0, [(0, 63)]), 2147483669, 2147483669), ((1, []), 2147483666, 2147483666), ((2, []), 2147483648, 2147483665)] 7 99999999 (rx_find rx_mL 18) rx_L0 [] rx_w0 221 26609) = true := by decide +kernel
set_option maxRecDepth 1000000 in
theorem rx_r21_56 : rx_isE (rx_lawRF [((0, [(0, 63)]), 2147483669, 2147483669), ((1, []), 2147483666, 2147483666), ((2, []), 2147483666, 4294967295)] 7 99999999 (rx_find rx_mL 18) rx_L0 [] rx_w0 221 26609) = true := by decide +kernel
set_option maxRecDepth 1000000 in
theorem rx_r21_57 : rx_isE (rx_lawRF [((0, [(0, 63)]), 2147483669, 2147483669), ((1, []), 2147483667, 2147483667), ((2, []), 2147483648, 2147483666)] 7 99999999 (rx_find rx_mL 18) rx_L0 [] rx_w0 221 26609) = true := by decide +kernel
set_option maxRecDepth 1000000 in
theorem rx_r21_58 : rx_isE (rx_lawRF [((0, [(0, 63)]), 2147483669, 2147483669), ((1, []), 2147483667, 2147483667), ((2, []), 2147483667, 4294967295)] 7 99999999 (rx_find rx_mL 18) rx_L0 [] rx_w0 221 26609) = true := by decide +kernel
set_option maxRecDepth 1000000 in
theorem rx_r21_59 : rx_isE (rx_lawRF [((0, [(0, 63)]), 2147483669, 2147483669), ((1, []), 2147483668, 2147483668), ((2, []), 2147483648, 2147483667)] 7 99999999 (rx_find rx_mL 18) rx_L0 [] rx_w0 221 26609) = true := by decide +kernel
set_option maxRecDepth 1000000 in
theorem rx_r21_60 : rx_isE (rx_lawRF [((0, [(0, 63)]), 2147483669, 2147483669), ((1, []), 2147483668, 2147483668), ((2, []), 2147483668, 4294967295)] 7 99999999 (rx_find rx_mL 18) rx_L0 [] rx_w0 221 26609) = true := by decide +kernel
set_option maxRecDepth 1000000 in
theorem rx_r21_61 : rx_isE (rx_lawRF [((0, [(0, 63)]), 2147483669, 2147483669), ((1, []), 2147483669, 4294967295)] 7 99999999 (rx_find rx_mL 18) rx_L0 [] rx_w0 221 26609) = true := by decide +kernel
set_option maxRecDepth 1000000 in
theorem rx_r22_0 : rx_isE (rx_lawRF [((0, [(0, 63)]), 2147483670, 2147483670), ((1, []), 0, 2147483648)] 7 99999999 (rx_find rx_mL 18) rx_L0 [] rx_w0 221 26609) = true := by decide +kernel
set_option maxRecDepth 1000000 in
theorem rx_r22_1 : rx_isE (rx_lawRF [((0, [(0, 63)]), 2147483670, 2147483670), ((1, []), 2147483649, 2147483668), ((2, []), 0, 2147483647)] 7 99999999 (rx_find rx_mL 18) rx_L0 [] rx_w0 221 26609) = true := by decide +kernel
set_option maxRecDepth 1000000 in
theorem rx_r22_2 : rx_isE (rx_lawRF [((0, [(0, 63)]), 2147483670, 2147483670), ((1, []), 2147483649, 2147483649), ((2, []), 2147483648, 2147483649)] 7 99999999 (rx_find rx_mL 18) rx_L0 [] rx_w0 221 26609) = true := by decide +kernel
set_option maxRecDepth 1000000 in
theorem rx_r22_3 : rx_isE (rx_lawRF [((0, [(0, 63)]), 2147483670, 2147483670), ((1, []), 2147483650, 2147483650), ((2, []), 2147483648, 2147483649)] 7 99999999 (rx_find rx_mL 18) rx_L0 [] rx_w0 221 26609) = true := by decide +kernel
set_option maxRecDepth 1000000 in
theorem rx_r22_4 : rx_isE (rx_lawRF [((0, [(0, 63)]), 2147483670, 2147483670), ((1, []), 2147483651, 2147483651), ((2, []), 2147483648, 2147483649)] 7 99999999 (rx_find rx_mL 18) rx_L0 [] rx_w0 221 26609) = true := by decide +kernel
set_option maxRecDepth 1000000 in
theorem rx_r22_5 : rx_isE (rx_lawRF [((0, [(0, 63)]), 2147483670, 2147483670), ((1, []), 2147483652, 2147483652), ((2, []), 2147483648, 2147483649)] 7 99999999 (rx_find rx_mL 18) rx_L0 [] rx_w0 221 26609) = true := by decide +kernel
set_option maxRecDepth 1000000 in
theorem rx_r22_6 : rx_isE (rx_lawRF [((0, [(0, 63)]), 2147483670, 2147483670), ((1, []), 2147483653, 2147483653), ((2, []), 2147483648, 2147483649)] 7 99999999 (rx_find rx_mL 18) rx_L0 [] rx_w0 221 26609) = true := by decide +kernel
set_option maxRecDepth 1000000 in
theorem rx_r22_7 : rx_isE (rx_lawRF [((0, [(0, 63)]), 2147483670, 2147483670), ((1, []), 2147483654, 2147483654), ((2, []), 2147483648, 2147483649)] 7 99999999 (rx_find rx_mL 18) rx_L0 [] rx_w0 221 26609) = true := by decide +kernel
set_option maxRecDepth 1000000 in
theorem rx_r22_8 : rx_isE (rx_lawRF [((0, [(0, 63)]), 2147483670, 2147483670), ((1, []), 2147483655, 2147483655), ((2, []), 2147483648, 2147483649)] 7 99999999 (rx_find rx_mL 18) rx_L0 [] rx_w0 221 26609) = true := by decide +kernel
set_option maxRecDepth 1000000 in
theorem rx_r22_9 : rx_isE (rx_lawRF [((0, [(0, 63)]), 2147483670, 2147483670), ((1, []), 2147483656, 2147483656), ((2, []), 2147483648, 2147483649)] 7 99999999 (rx_find rx_mL 18) rx_L0 [] rx_w0 221 26609) = true := by decide +kernel
set_option maxRecDepth 1000000 in
theorem rx_r22_10 : rx_isE (rx_lawRF [((0, [(0, 63)]), 2147483670, 2147483670), ((1, []), 2147483657, 2147483657), ((2, []), 2147483648, 2147483649)] 7 99999999 (rx_find rx_mL 18) rx_L0 [] rx_w0 221 26609) = true := by decide +kernel
set_option maxRecDepth 1000000 in
theorem rx_r22_11 : rx_isE (rx_lawRF [((0, [(0, 63)]), 2147483670, 2147483670), ((1, []), 2147483658, 2147483658), ((2, []), 2147483648, 2147483649)] 7 99999999 (rx_find rx_mL 18) rx_L0 [] rx_w0 221 26609) = true := by decide +kernel
set_option maxRecDepth 1000000 in
theorem rx_r22_12 : rx_isE (rx_lawRF [((0, [(0, 63)]), 2147483670, 2147483670), ((1, []), 2147483659, 2147483659), ((2, []), 2147483648, 2147483649)] 7 99999999 (rx_find rx_mL 18) rx_L0 [] rx_w0 221 26609) = true := by decide +kernel
set_option maxRecDepth 1000000 in
theorem rx_r22_13 : rx_isE (rx_lawRF [((0, [(0, 63)]), 2147483670, 2147483670), ((1, []), 2147483660, 2147483660), ((2, []), 2147483648, 2147483649)] 7 99999999 (rx_find rx_mL 18) rx_L0 [] rx_w0 221 26609) = true := by decide +kernel
set_option maxRecDepth 1000000 in
theorem rx_r22_14 : rx_isE (rx_lawRF [((0, [(0, 63)]), 2147483670, 2147483670), ((1, []), 2147483661, 2147483661), ((2, []), 2147483648, 2147483649)] 7 99999999 (rx_find rx_mL 18) rx_L0 [] rx_w0 221 26609) = true := by decide +kernel
set_option maxRecDepth 1000000 in
theorem rx_r22_15 : rx_isE (rx_lawRF [((0, [(0, 63)]), 2147483670, 2147483670), ((1, []), 2147483662, 2147483662), ((2, []), 2147483648, 2147483649)] 7 99999999 (rx_find rx_mL 18) rx_L0 [] rx_w0 221 26609) = true := by decide +kernel
set_option maxRecDepth 1000000 in
theorem rx_r22_16 : rx_isE (rx_lawRF [((0, [(0, 63)]), 2147483670, 2147483670), ((1, []), 2147483663, 2147483663), ((2, []), 2147483648, 2147483649)] 7 99999999 (rx_find rx_mL 18) rx_L0 [] rx_w0 221 26609) = true := by decide +kernel
set_option maxRecDepth 1000000 in
theorem rx_r22_17 : rx_isE (rx_lawRF [((0, [(0, 63)]), 2147483670, 2147483670), ((1, []), 2147483664, 2147483664), ((2, []), 2147483648, 2147483649)] 7 99999999 (rx_find rx_mL 18) rx_L0 [] rx_w0 221 26609) = true := by decide +kernel
set_option maxRecDepth 1000000 in
theorem rx_r22_18 : rx_isE (rx_lawRF [((0, [(0, 63)]), 2147483670, 2147483670), ((1, []), 2147483665, 2147483665), ((2, []), 2147483648, 2147483649)] 7 99999999 (rx_find rx_mL 18) rx_L0 [] rx_w0 221 26609) = true := by decide +kernel
set_option maxRecDepth 1000000 in
theorem rx_r22_19 : rx_isE (rx_lawRF [((0, [(0, 63)]), 2147483670, 2147483670), ((1, []), 2147483666, 2147483666), ((2, []), 2147483648, 2147483649)] 7 99999999 (rx_find rx_mL 18) rx_L0 [] rx_w0 221 26609) = true := by decide +kernel
set_option maxRecDepth 1000000 in
theorem rx_r22_20 : rx_isE (rx_lawRF [((0, [(0, 63)]), 2147483670, 2147483670), ((1, []), 2147483667, 2147483667), ((2, []), 2147483648, 2147483649)] 7 99999999 (rx_find rx_mL 18) rx_L0 [] rx_w0 221 26609) = true := by decide +kernel
set_option maxRecDepth 1000000 in
theorem rx_r22_21 : rx_isE (rx_lawRF [((0, [(0, 63)]), 2147483670, 2147483670), ((1, []), 2147483668, 2147483668), ((2, []), 2147483648, 2147483649)] 7 99999999 (rx_find rx_mL 18) rx_L0 [] rx_w0 221 26609) = true := by decide +kernel
set_option maxRecDepth 1000000 in
theorem rx_r22_22 : rx_isE (rx_lawRF [((0, [(0, 63)]), 2147483670, 2147483670), ((1, []), 2147483649, 2147483668), ((2, []), 2147483650, 4294967295)] 7 99999999 (rx_find rx_mL 18) rx_L0 [] rx_w0 221 26609) = true := by decide +kernel
set_option maxRecDepth 1000000 in
theorem rx_r22_23 : rx_isE (rx_lawRF [((0, [(0, 63)]), 2147483670, 2147483670), ((1, []), 2147483669, 4294967295)] 7 99999999 (rx_find rx_mL 18) rx_L0 [] rx_w0 221 26609) = true := by decide +kernel
set_option maxRecDepth 1000000 in
theorem rx_r25_0 : rx_isE (rx_lawRF [((0, [(0, 63)]), 2147483673, 2147483673), ((1, []), 0, 2147483647)] 7 99999999 (rx_find rx_mL 18) rx_L0 [] rx_w0 221 26609) = true := by decide +kernel
set_option maxRecDepth 1000000 in
theorem rx_r25_1 : rx_isE (rx_lawRF [((0, [(0, 63)]), 2147483673, 2147483673), ((1, []), 2147483648, 4294967295)] 7 99999999 (rx_find rx_mL 18) rx_L0 [] rx_w0 221 26609) = true := by decide +kernel
set_option maxRecDepth 1000000 in
theorem rx_r26_0 : rx_isE (rx_lawRF [((0, [(0, 63)]), 2147483674, 2147483674), ((1, []), 0, 2147483647)] 7 99999999 (rx_find rx_mL 18) rx_L0 [] rx_w0 221 26609) = true := by decide +kernel
set_option maxRecDepth 1000000 in
theorem rx_r26_1 : rx_isE (rx_lawRF [((0, [(0, 63)]), 2147483674, 2147483674), ((1, []), 2147483648, 4294967295)] 7 99999999 (rx_find rx_mL 18) rx_L0 [] rx_w0 221 26609) = true := by decide +kernel
set_option maxRecDepth 1000000 in
theorem rx_r27_0 : rx_isE (rx_lawRF [((0, [(0, 63)]), 2147483675, 2147483675), ((1, []), 0, 2147483647)] 7 99999999 (rx_find rx_mL 18) rx_L0 [] rx_w0 221 26609) = true := by decide +kernel
set_option maxRecDepth 1000000 in
theorem rx_r27_1 : rx_isE (rx_lawRF [((0, [(0, 63)]), 2147483675, 2147483675), ((1, []), 2147483648, 4294967295)] 7 99999999 (rx_find rx_mL 18) rx_L0 [] rx_w0 221 26609) = true := by decide +kernel
set_option maxRecDepth 1000000 in
theorem rx_r28_0 : rx_isE (rx_lawRF [((0, [(0, 63)]), 2147483676, 2147483676)] 7 99999999 (rx_find rx_mL 18) rx_L0 [] rx_w0 221 26609) = true := by decide +kernel
set_option maxRecDepth 1000000 in
theorem rx_r29_0 : rx_isE (rx_lawRF [((0, [(0, 63)]), 2147483677, 2147483677)] 7 99999999 (rx_find rx_mL 18) rx_L0 [] rx_w0 221 26609) = true := by decide +kernel
set_option maxRecDepth 1000000 in
theorem rx_r30_0 : rx_isE (rx_lawRF [((0, [(0, 63)]), 2147483678, 2147483678), ((1, []), 0, 2147483647)] 7 99999999 (rx_find rx_mL 18) rx_L0 [] rx_w0 221 26609) = true := by decide +kernel
set_option maxRecDepth 1000000 in
theorem rx_r30_1 : rx_isE (rx_lawRF [((0, [(0, 63)]), 2147483678, 2147483678), ((1, []), 2147483648, 4294967295)] 7 99999999 (rx_find rx_mL 18) rx_L0 [] rx_w0 221 26609) = true := by decide +kernel
set_option maxRecDepth 1000000 in
theorem rx_r31_0 : rx_isE (rx_lawRF [((0, [(0, 63)]), 2147483679, 2147483679), ((1, []), 0, 2147483647)] 7 99999999 (rx_find rx_mL 18) rx_L0 [] rx_w0 221 26609) = true := by decide +kernel
set_option maxRecDepth 1000000 in
theorem rx_r31_1 : rx_isE (rx_lawRF [((0, [(0, 63)]), 2147483679, 2147483679), ((1, []), 2147483648, 4294967295)] 7 99999999 (rx_find rx_mL 18) rx_L0 [] rx_w0 221 26609) = true := by decide +kernel
set_option maxRecDepth 1000000 in
theorem rx_r32_0 : rx_isE (rx_lawRF [((0, [(0, 63)]), 2147483680, 2147483680)] 7 99999999 (rx_find rx_mL 18) rx_L0 [] rx_w0 221 26609) = true := by decide +kernel
set_option maxRecDepth 1000000 in
theorem rx_r33_0 : rx_isE (rx_lawRF [((0, [(0, 63)]), 2147483681, 2147483681), ((1, []), 0, 2147483647)] 7 99999999 (rx_find rx_mL 18) rx_L0 [] rx_w0 221 26609) = true := by decide +kernel
set_option maxRecDepth 1000000 in
theorem rx_r33_1 : rx_isE (rx_lawRF [((0, [(0, 63)]), 2147483681, 2147483681), ((1, []), 2147483648, 4294967295)] 7 99999999 (rx_find rx_mL 18) rx_L0 [] rx_w0 221 26609) = true := by decide +kernel
set_option maxRecDepth 1000000 in
theorem rx_r34_0 : rx_isE (rx_lawRF [((0, [(0, 63)]), 2147483682, 2147483682)] 7 99999999 (rx_find rx_mL 18) rx_L0 [] rx_w0 221 26609) = true := by decide +kernel
set_option maxRecDepth 1000000 in
theorem rx_r35_0 : rx_isE (rx_lawRF [((0, [(0, 63)]), 2147483683, 2147483683), ((1, []), 0, 2147483647)] 7 99999999 (rx_find rx_mL 18) rx_L0 [] rx_w0 221 26609) = true := by decide +kernel
