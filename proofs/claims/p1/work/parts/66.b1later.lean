/-! printed by wip/p1/heavy.py: runs of later -/
set_option maxRecDepth 1000000 in
theorem rx_eV5 : rx_isX rx_xV (rx_mRF rx_xV [((1, []), 2147483653, 2147483653)] 61 30 rx_LV5 [] rx_wV5) 61 [((2, []), 2147483648, 2147483648)] [((2, []), 2147483649, 2147483649)] 0 = true := by decide +kernel
set_option maxRecDepth 1000000 in
theorem rx_tV5 : rx_is (rx_mRF rx_xV [((1, []), 2147483654, 2147483687)] 35 30 rx_LV5 [] rx_wV5) 35 rx_LV5 [] rx_wV5 0 0 = true := by decide +kernel
set_option maxRecDepth 1000000 in
theorem rx_rV5 : rx_is (rx_mRF rx_xV [] 30 35 rx_LV5 [] rx_wV5) 30 rx_LV6 [] rx_wV6 0 0 = true := by decide +kernel
set_option maxRecDepth 1000000 in
theorem rx_eV6 : rx_isX rx_xV (rx_mRF rx_xV [((1, []), 2147483654, 2147483654)] 61 30 rx_LV6 [] rx_wV6) 61 [((2, []), 2147483648, 2147483648)] [((2, []), 2147483649, 2147483649)] 0 = true := by decide +kernel
set_option maxRecDepth 1000000 in
theorem rx_tV6 : rx_is (rx_mRF rx_xV [((1, []), 2147483655, 2147483687)] 35 30 rx_LV6 [] rx_wV6) 35 rx_LV6 [] rx_wV6 0 0 = true := by decide +kernel
set_option maxRecDepth 1000000 in
theorem rx_rV6 : rx_is (rx_mRF rx_xV [] 30 35 rx_LV6 [] rx_wV6) 30 rx_LV7 [] rx_wV7 0 0 = true := by decide +kernel
set_option maxRecDepth 1000000 in
theorem rx_eV7 : rx_isX rx_xV (rx_mRF rx_xV [((1, []), 2147483655, 2147483655)] 61 30 rx_LV7 [] rx_wV7) 61 [((2, []), 2147483648, 2147483648)] [((2, []), 2147483649, 2147483649)] 0 = true := by decide +kernel
set_option maxRecDepth 1000000 in
theorem rx_tV7 : rx_is (rx_mRF rx_xV [((1, []), 2147483656, 2147483687)] 35 30 rx_LV7 [] rx_wV7) 35 rx_LV7 [] rx_wV7 0 0 = true := by decide +kernel
set_option maxRecDepth 1000000 in
theorem rx_rV7 : rx_is (rx_mRF rx_xV [] 30 35 rx_LV7 [] rx_wV7) 30 rx_LV8 [] rx_wV8 0 0 = true := by decide +kernel
set_option maxRecDepth 1000000 in
theorem rx_eV8 : rx_isX rx_xV (rx_mRF rx_xV [((1, []), 2147483656, 2147483656)] 61 30 rx_LV8 [] rx_wV8) 61 [((2, []), 2147483648, 2147483648)] [((2, []), 2147483649, 2147483649)] 0 = true := by decide +kernel
set_option maxRecDepth 1000000 in
theorem rx_tV8 : rx_is (rx_mRF rx_xV [((1, []), 2147483657, 2147483687)] 35 30 rx_LV8 [] rx_wV8) 35 rx_LV8 [] rx_wV8 0 0 = true := by decide +kernel
set_option maxRecDepth 1000000 in
theorem rx_rV8 : rx_is (rx_mRF rx_xV [] 30 35 rx_LV8 [] rx_wV8) 30 rx_LV9 [] rx_wV9 0 0 = true := by decide +kernel
set_option maxRecDepth 1000000 in
theorem rx_eV9 : rx_isX rx_xV (rx_mRF rx_xV [((1, []), 2147483657, 2147483657)] 61 30 rx_LV9 [] rx_wV9) 61 [((2, []), 2147483648, 2147483648)] [((2, []), 2147483649, 2147483649)] 0 = true := by decide +kernel
set_option maxRecDepth 1000000 in
theorem rx_tV9 : rx_is (rx_mRF rx_xV [((1, []), 2147483658, 2147483687)] 35 30 rx_LV9 [] rx_wV9) 35 rx_LV9 [] rx_wV9 0 0 = true := by decide +kernel
set_option maxRecDepth 1000000 in
theorem rx_rV9 : rx_is (rx_mRF rx_xV [] 30 35 rx_LV9 [] rx_wV9) 30 rx_LV10 [] rx_wV10 0 0 = true := by decide +kernel
