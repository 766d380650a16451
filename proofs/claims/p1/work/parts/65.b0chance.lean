/-! printed by wip/p1/heavy.py: runs of chance -/
set_option maxRecDepth 1000000 in
theorem rx_tZ0 : rx_is (rx_mRF rx_xZ [((1, []), 2147483649, 2147483688)] 30 25 rx_LZ0 [] rx_wZ0) 30 rx_LZ0 [] rx_wZ0 0 0 = true := by decide +kernel
set_option maxRecDepth 1000000 in
theorem rx_rZ0 : rx_is (rx_mRF rx_xZ [] 25 30 rx_LZ0 [] rx_wZ0) 25 rx_LZ1 [] rx_wZ1 0 0 = true := by decide +kernel
set_option maxRecDepth 1000000 in
theorem rx_eZ1 : rx_isR (rx_mRF rx_xZ [((1, []), 2147483649, 2147483649)] 99999999 25 rx_LZ1 [] rx_wZ1) 0 0 0 = true := by decide +kernel
set_option maxRecDepth 1000000 in
theorem rx_tZ1 : rx_is (rx_mRF rx_xZ [((1, []), 2147483650, 2147483688)] 30 25 rx_LZ1 [] rx_wZ1) 30 rx_LZ1 [] rx_wZ1 0 0 = true := by decide +kernel
set_option maxRecDepth 1000000 in
theorem rx_rZ1 : rx_is (rx_mRF rx_xZ [] 25 30 rx_LZ1 [] rx_wZ1) 25 rx_LZ2 [] rx_wZ2 0 0 = true := by decide +kernel
set_option maxRecDepth 1000000 in
theorem rx_eZ2 : rx_isR (rx_mRF rx_xZ [((1, []), 2147483650, 2147483650)] 99999999 25 rx_LZ2 [] rx_wZ2) 0 0 0 = true := by decide +kernel
set_option maxRecDepth 1000000 in
theorem rx_tZ2 : rx_is (rx_mRF rx_xZ [((1, []), 2147483651, 2147483688)] 30 25 rx_LZ2 [] rx_wZ2) 30 rx_LZ2 [] rx_wZ2 0 0 = true := by decide +kernel
set_option maxRecDepth 1000000 in
theorem rx_rZ2 : rx_is (rx_mRF rx_xZ [] 25 30 rx_LZ2 [] rx_wZ2) 25 rx_LZ3 [] rx_wZ3 0 0 = true := by decide +kernel
set_option maxRecDepth 1000000 in
theorem rx_eZ3 : rx_isR (rx_mRF rx_xZ [((1, []), 2147483651, 2147483651)] 99999999 25 rx_LZ3 [] rx_wZ3) 0 0 0 = true := by decide +kernel
set_option maxRecDepth 1000000 in
theorem rx_tZ3 : rx_is (rx_mRF rx_xZ [((1, []), 2147483652, 2147483688)] 30 25 rx_LZ3 [] rx_wZ3) 30 rx_LZ3 [] rx_wZ3 0 0 = true := by decide +kernel
set_option maxRecDepth 1000000 in
theorem rx_rZ3 : rx_is (rx_mRF rx_xZ [] 25 30 rx_LZ3 [] rx_wZ3) 25 rx_LZ4 [] rx_wZ4 0 0 = true := by decide +kernel
set_option maxRecDepth 1000000 in
theorem rx_eZ4 : rx_isR (rx_mRF rx_xZ [((1, []), 2147483652, 2147483652)] 99999999 25 rx_LZ4 [] rx_wZ4) 0 0 0 = true := by decide +kernel
set_option maxRecDepth 1000000 in
theorem rx_tZ4 : rx_is (rx_mRF rx_xZ [((1, []), 2147483653, 2147483688)] 30 25 rx_LZ4 [] rx_wZ4) 30 rx_LZ4 [] rx_wZ4 0 0 = true := by decide +kernel
set_option maxRecDepth 1000000 in
theorem rx_rZ4 : rx_is (rx_mRF rx_xZ [] 25 30 rx_LZ4 [] rx_wZ4) 25 rx_LZ5 [] rx_wZ5 0 0 = true := by decide +kernel
set_option maxRecDepth 1000000 in
theorem rx_eZ5 : rx_isR (rx_mRF rx_xZ [((1, []), 2147483653, 2147483653)] 99999999 25 rx_LZ5 [] rx_wZ5) 0 0 0 = true := by decide +kernel
set_option maxRecDepth 1000000 in
theorem rx_tZ5 : rx_is (rx_mRF rx_xZ [((1, []), 2147483654, 2147483688)] 30 25 rx_LZ5 [] rx_wZ5) 30 rx_LZ5 [] rx_wZ5 0 0 = true := by decide +kernel
set_option maxRecDepth 1000000 in
theorem rx_rZ5 : rx_is (rx_mRF rx_xZ [] 25 30 rx_LZ5 [] rx_wZ5) 25 rx_LZ6 [] rx_wZ6 0 0 = true := by decide +kernel
set_option maxRecDepth 1000000 in
theorem rx_eZ6 : rx_isR (rx_mRF rx_xZ [((1, []), 2147483654, 2147483654)] 99999999 25 rx_LZ6 [] rx_wZ6) 0 0 0 = true := by decide +kernel
set_option maxRecDepth 1000000 in
theorem rx_tZ6 : rx_is (rx_mRF rx_xZ [((1, []), 2147483655, 2147483688)] 30 25 rx_LZ6 [] rx_wZ6) 30 rx_LZ6 [] rx_wZ6 0 0 = true := by decide +kernel
set_option maxRecDepth 1000000 in
theorem rx_rZ6 : rx_is (rx_mRF rx_xZ [] 25 30 rx_LZ6 [] rx_wZ6) 25 rx_LZ7 [] rx_wZ7 0 0 = true := by decide +kernel
set_option maxRecDepth 1000000 in
theorem rx_eZ7 : rx_isR (rx_mRF rx_xZ [((1, []), 2147483655, 2147483655)] 99999999 25 rx_LZ7 [] rx_wZ7) 0 0 0 = true := by decide +kernel
set_option maxRecDepth 1000000 in
theorem rx_tZ7 : rx_is (rx_mRF rx_xZ [((1, []), 2147483656, 2147483688)] 30 25 rx_LZ7 [] rx_wZ7) 30 rx_LZ7 [] rx_wZ7 0 0 = true := by decide +kernel
set_option maxRecDepth 1000000 in
theorem rx_rZ7 : rx_is (rx_mRF rx_xZ [] 25 30 rx_LZ7 [] rx_wZ7) 25 rx_LZ8 [] rx_wZ8 0 0 = true := by decide +kernel
set_option maxRecDepth 1000000 in
theorem rx_eZ8 : rx_isR (rx_mRF rx_xZ [((1, []), 2147483656, 2147483656)] 99999999 25 rx_LZ8 [] rx_wZ8) 0 0 0 = true := by decide +kernel
set_option maxRecDepth 1000000 in
theorem rx_tZ8 : rx_is (rx_mRF rx_xZ [((1, []), 2147483657, 2147483688)] 30 25 rx_LZ8 [] rx_wZ8) 30 rx_LZ8 [] rx_wZ8 0 0 = true := by decide +kernel
set_option maxRecDepth 1000000 in
theorem rx_rZ8 : rx_is (rx_mRF rx_xZ [] 25 30 rx_LZ8 [] rx_wZ8) 25 rx_LZ9 [] rx_wZ9 0 0 = true := by decide +kernel
set_option maxRecDepth 1000000 in
theorem rx_eZ9 : rx_isR (rx_mRF rx_xZ [((1, []), 2147483657, 2147483657)] 99999999 25 rx_LZ9 [] rx_wZ9) 0 0 0 = true := by decide +kernel
set_option maxRecDepth 1000000 in
theorem rx_tZ9 : rx_is (rx_mRF rx_xZ [((1, []), 2147483658, 2147483688)] 30 25 rx_LZ9 [] rx_wZ9) 30 rx_LZ9 [] rx_wZ9 0 0 = true := by decide +kernel
set_option maxRecDepth 1000000 in
theorem rx_rZ9 : rx_is (rx_mRF rx_xZ [] 25 30 rx_LZ9 [] rx_wZ9) 25 rx_LZ10 [] rx_wZ10 0 0 = true := by decide +kernel
set_option maxRecDepth 1000000 in
theorem rx_eZ10 : rx_isR (rx_mRF rx_xZ [((1, []), 2147483658, 2147483658)] 99999999 25 rx_LZ10 [] rx_wZ10) 0 0 0 = true := by decide +kernel
set_option maxRecDepth 1000000 in
theorem rx_tZ10 : rx_is (rx_mRF rx_xZ [((1, []), 2147483659, 2147483688)] 30 25 rx_LZ10 [] rx_wZ10) 30 rx_LZ10 [] rx_wZ10 0 0 = true := by decide +kernel
set_option maxRecDepth 1000000 in
theorem rx_rZ10 : rx_is (rx_mRF rx_xZ [] 25 30 rx_LZ10 [] rx_wZ10) 25 rx_LZ11 [] rx_wZ11 0 0 = true := by decide +kernel
