/-! printed by wip/p1/heavy.py: runs of later -/
set_option maxRecDepth 1000000 in
theorem rx_eV15 : rx_isX rx_xV (rx_mRF rx_xV [((1, []), 2147483663, 2147483663)] 61 30 rx_LV15 [] rx_wV15) 61 [((2, []), 2147483648, 2147483648)] [((2, []), 2147483649, 2147483649)] 0 = true := by decide +kernel
set_option maxRecDepth 1000000 in
theorem rx_tV15 : rx_is (rx_mRF rx_xV [((1, []), 2147483664, 2147483687)] 35 30 rx_LV15 [] rx_wV15) 35 rx_LV15 [] rx_wV15 0 0 = true := by decide +kernel
set_option maxRecDepth 1000000 in
theorem rx_rV15 : rx_is (rx_mRF rx_xV [] 30 35 rx_LV15 [] rx_wV15) 30 rx_LV16 [] rx_wV16 0 0 = true := by decide +kernel
set_option maxRecDepth 1000000 in
theorem rx_eV16 : rx_isX rx_xV (rx_mRF rx_xV [((1, []), 2147483664, 2147483664)] 61 30 rx_LV16 [] rx_wV16) 61 [((2, []), 2147483648, 2147483648)] [((2, []), 2147483649, 2147483649)] 0 = true := by decide +kernel
set_option maxRecDepth 1000000 in
theorem rx_tV16 : rx_is (rx_mRF rx_xV [((1, []), 2147483665, 2147483687)] 35 30 rx_LV16 [] rx_wV16) 35 rx_LV16 [] rx_wV16 0 0 = true := by decide +kernel
set_option maxRecDepth 1000000 in
theorem rx_rV16 : rx_is (rx_mRF rx_xV [] 30 35 rx_LV16 [] rx_wV16) 30 rx_LV17 [] rx_wV17 0 0 = true := by decide +kernel
set_option maxRecDepth 1000000 in
theorem rx_eV17 : rx_isX rx_xV (rx_mRF rx_xV [((1, []), 2147483665, 2147483665)] 61 30 rx_LV17 [] rx_wV17) 61 [((2, []), 2147483648, 2147483648)] [((2, []), 2147483649, 2147483649)] 0 = true := by decide +kernel
set_option maxRecDepth 1000000 in
theorem rx_tV17 : rx_is (rx_mRF rx_xV [((1, []), 2147483666, 2147483687)] 35 30 rx_LV17 [] rx_wV17) 35 rx_LV17 [] rx_wV17 0 0 = true := by decide +kernel
set_option maxRecDepth 1000000 in
theorem rx_rV17 : rx_is (rx_mRF rx_xV [] 30 35 rx_LV17 [] rx_wV17) 30 rx_LV18 [] rx_wV18 0 0 = true := by decide +kernel
set_option maxRecDepth 1000000 in
theorem rx_eV18 : rx_isX rx_xV (rx_mRF rx_xV [((1, []), 2147483666, 2147483666)] 61 30 rx_LV18 [] rx_wV18) 61 [((2, []), 2147483648, 2147483648)] [((2, []), 2147483649, 2147483649)] 0 = true := by decide +kernel
set_option maxRecDepth 1000000 in
theorem rx_tV18 : rx_is (rx_mRF rx_xV [((1, []), 2147483667, 2147483687)] 35 30 rx_LV18 [] rx_wV18) 35 rx_LV18 [] rx_wV18 0 0 = true := by decide +kernel
set_option maxRecDepth 1000000 in
theorem rx_rV18 : rx_is (rx_mRF rx_xV [] 30 35 rx_LV18 [] rx_wV18) 30 rx_LV19 [] rx_wV19 0 0 = true := by decide +kernel
set_option maxRecDepth 1000000 in
theorem rx_eV19 : rx_isX rx_xV (rx_mRF rx_xV [((1, []), 2147483667, 2147483667)] 61 30 rx_LV19 [] rx_wV19) 61 [((2, []), 2147483648, 2147483648)] [((2, []), 2147483649, 2147483649)] 0 = true := by decide +kernel
set_option maxRecDepth 1000000 in
theorem rx_tV19 : rx_is (rx_mRF rx_xV [((1, []), 2147483668, 2147483687)] 35 30 rx_LV19 [] rx_wV19) 35 rx_LV19 [] rx_wV19 0 0 = true := by decide +kernel
set_option maxRecDepth 1000000 in
theorem rx_rV19 : rx_is (rx_mRF rx_xV [] 30 35 rx_LV19 [] rx_wV19) 30 rx_LV20 [] rx_wV20 0 0 = true := by decide +kernel
