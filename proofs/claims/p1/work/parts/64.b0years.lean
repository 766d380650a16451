/-! printed by wip/p1/heavy.py: runs of years -/
set_option maxRecDepth 1000000 in
theorem rx_tY0 : rx_is (rx_mRF rx_xY [((1, []), 2147483649, 2147483688)] 30 25 rx_LY0 [] rx_wY0) 30 rx_LY0 [] rx_wY0 0 0 = true := by decide +kernel
set_option maxRecDepth 1000000 in
theorem rx_rY0 : rx_is (rx_mRF rx_xY [] 25 30 rx_LY0 [] rx_wY0) 25 rx_LY1 [] rx_wY1 0 0 = true := by decide +kernel
set_option maxRecDepth 1000000 in
theorem rx_eY1 : rx_isR (rx_mRF rx_xY [((1, []), 2147483649, 2147483649)] 99999999 25 rx_LY1 [] rx_wY1) 0 0 0 = true := by decide +kernel
set_option maxRecDepth 1000000 in
theorem rx_tY1 : rx_is (rx_mRF rx_xY [((1, []), 2147483650, 2147483688)] 30 25 rx_LY1 [] rx_wY1) 30 rx_LY1 [] rx_wY1 0 0 = true := by decide +kernel
set_option maxRecDepth 1000000 in
theorem rx_rY1 : rx_is (rx_mRF rx_xY [] 25 30 rx_LY1 [] rx_wY1) 25 rx_LY2 [] rx_wY2 0 0 = true := by decide +kernel
set_option maxRecDepth 1000000 in
theorem rx_eY2 : rx_isR (rx_mRF rx_xY [((1, []), 2147483650, 2147483650)] 99999999 25 rx_LY2 [] rx_wY2) 0 0 0 = true := by decide +kernel
set_option maxRecDepth 1000000 in
theorem rx_tY2 : rx_is (rx_mRF rx_xY [((1, []), 2147483651, 2147483688)] 30 25 rx_LY2 [] rx_wY2) 30 rx_LY2 [] rx_wY2 0 0 = true := by decide +kernel
set_option maxRecDepth 1000000 in
theorem rx_rY2 : rx_is (rx_mRF rx_xY [] 25 30 rx_LY2 [] rx_wY2) 25 rx_LY3 [] rx_wY3 0 0 = true := by decide +kernel
set_option maxRecDepth 1000000 in
theorem rx_eY3 : rx_isR (rx_mRF rx_xY [((1, []), 2147483651, 2147483651)] 99999999 25 rx_LY3 [] rx_wY3) 0 0 0 = true := by decide +kernel
set_option maxRecDepth 1000000 in
theorem rx_tY3 : rx_is (rx_mRF rx_xY [((1, []), 2147483652, 2147483688)] 30 25 rx_LY3 [] rx_wY3) 30 rx_LY3 [] rx_wY3 0 0 = true := by decide +kernel
set_option maxRecDepth 1000000 in
theorem rx_rY3 : rx_is (rx_mRF rx_xY [] 25 30 rx_LY3 [] rx_wY3) 25 rx_LY4 [] rx_wY4 0 0 = true := by decide +kernel
set_option maxRecDepth 1000000 in
theorem rx_eY4 : rx_isR (rx_mRF rx_xY [((1, []), 2147483652, 2147483652)] 99999999 25 rx_LY4 [] rx_wY4) 0 0 0 = true := by decide +kernel
set_option maxRecDepth 1000000 in
theorem rx_tY4 : rx_is (rx_mRF rx_xY [((1, []), 2147483653, 2147483688)] 30 25 rx_LY4 [] rx_wY4) 30 rx_LY4 [] rx_wY4 0 0 = true := by decide +kernel
set_option maxRecDepth 1000000 in
theorem rx_rY4 : rx_is (rx_mRF rx_xY [] 25 30 rx_LY4 [] rx_wY4) 25 rx_LY5 [] rx_wY5 0 0 = true := by decide +kernel
set_option maxRecDepth 1000000 in
theorem rx_eY5 : rx_isR (rx_mRF rx_xY [((1, []), 2147483653, 2147483653)] 99999999 25 rx_LY5 [] rx_wY5) 0 0 0 = true := by decide +kernel
set_option maxRecDepth 1000000 in
theorem rx_tY5 : rx_is (rx_mRF rx_xY [((1, []), 2147483654, 2147483688)] 30 25 rx_LY5 [] rx_wY5) 30 rx_LY5 [] rx_wY5 0 0 = true := by decide +kernel
set_option maxRecDepth 1000000 in
theorem rx_rY5 : rx_is (rx_mRF rx_xY [] 25 30 rx_LY5 [] rx_wY5) 25 rx_LY6 [] rx_wY6 0 0 = true := by decide +kernel
set_option maxRecDepth 1000000 in
theorem rx_eY6 : rx_isR (rx_mRF rx_xY [((1, []), 2147483654, 2147483654)] 99999999 25 rx_LY6 [] rx_wY6) 0 0 0 = true := by decide +kernel
set_option maxRecDepth 1000000 in
theorem rx_tY6 : rx_is (rx_mRF rx_xY [((1, []), 2147483655, 2147483688)] 30 25 rx_LY6 [] rx_wY6) 30 rx_LY6 [] rx_wY6 0 0 = true := by decide +kernel
set_option maxRecDepth 1000000 in
theorem rx_rY6 : rx_is (rx_mRF rx_xY [] 25 30 rx_LY6 [] rx_wY6) 25 rx_LY7 [] rx_wY7 0 0 = true := by decide +kernel
set_option maxRecDepth 1000000 in
theorem rx_eY7 : rx_isR (rx_mRF rx_xY [((1, []), 2147483655, 2147483655)] 99999999 25 rx_LY7 [] rx_wY7) 0 0 0 = true := by decide +kernel
set_option maxRecDepth 1000000 in
theorem rx_tY7 : rx_is (rx_mRF rx_xY [((1, []), 2147483656, 2147483688)] 30 25 rx_LY7 [] rx_wY7) 30 rx_LY7 [] rx_wY7 0 0 = true := by decide +kernel
set_option maxRecDepth 1000000 in
theorem rx_rY7 : rx_is (rx_mRF rx_xY [] 25 30 rx_LY7 [] rx_wY7) 25 rx_LY8 [] rx_wY8 0 0 = true := by decide +kernel
set_option maxRecDepth 1000000 in
theorem rx_eY8 : rx_isR (rx_mRF rx_xY [((1, []), 2147483656, 2147483656)] 99999999 25 rx_LY8 [] rx_wY8) 0 0 0 = true := by decide +kernel
set_option maxRecDepth 1000000 in
theorem rx_tY8 : rx_is (rx_mRF rx_xY [((1, []), 2147483657, 2147483688)] 30 25 rx_LY8 [] rx_wY8) 30 rx_LY8 [] rx_wY8 0 0 = true := by decide +kernel
set_option maxRecDepth 1000000 in
theorem rx_rY8 : rx_is (rx_mRF rx_xY [] 25 30 rx_LY8 [] rx_wY8) 25 rx_LY9 [] rx_wY9 0 0 = true := by decide +kernel
set_option maxRecDepth 1000000 in
theorem rx_eY9 : rx_isR (rx_mRF rx_xY [((1, []), 2147483657, 2147483657)] 99999999 25 rx_LY9 [] rx_wY9) 0 0 0 = true := by decide +kernel
set_option maxRecDepth 1000000 in
theorem rx_tY9 : rx_is (rx_mRF rx_xY [((1, []), 2147483658, 2147483688)] 30 25 rx_LY9 [] rx_wY9) 30 rx_LY9 [] rx_wY9 0 0 = true := by decide +kernel
set_option maxRecDepth 1000000 in
theorem rx_rY9 : rx_is (rx_mRF rx_xY [] 25 30 rx_LY9 [] rx_wY9) 25 rx_LY10 [] rx_wY10 0 0 = true := by decide +kernel
set_option maxRecDepth 1000000 in
theorem rx_eY10 : rx_isR (rx_mRF rx_xY [((1, []), 2147483658, 2147483658)] 99999999 25 rx_LY10 [] rx_wY10) 0 0 0 = true := by decide +kernel
set_option maxRecDepth 1000000 in
theorem rx_tY10 : rx_is (rx_mRF rx_xY [((1, []), 2147483659, 2147483688)] 30 25 rx_LY10 [] rx_wY10) 30 rx_LY10 [] rx_wY10 0 0 = true := by decide +kernel
set_option maxRecDepth 1000000 in
theorem rx_rY10 : rx_is (rx_mRF rx_xY [] 25 30 rx_LY10 [] rx_wY10) 25 rx_LY11 [] rx_wY11 0 0 = true := by decide +kernel
