/-! printed by wip/p1/heavy.py: runs of later -/
set_option maxRecDepth 1000000 in
theorem rx_eV35 : rx_isX rx_xV (rx_mRF rx_xV [((1, []), 2147483683, 2147483683)] 61 30 rx_LV35 [] rx_wV35) 61 [((2, []), 2147483648, 2147483648)] [((2, []), 2147483649, 2147483649)] 0 = true := by decide +kernel
set_option maxRecDepth 1000000 in
theorem rx_tV35 : rx_is (rx_mRF rx_xV [((1, []), 2147483684, 2147483687)] 35 30 rx_LV35 [] rx_wV35) 35 rx_LV35 [] rx_wV35 0 0 = true := by decide +kernel
set_option maxRecDepth 1000000 in
theorem rx_rV35 : rx_is (rx_mRF rx_xV [] 30 35 rx_LV35 [] rx_wV35) 30 rx_LV36 [] rx_wV36 0 0 = true := by decide +kernel
set_option maxRecDepth 1000000 in
theorem rx_eV36 : rx_isX rx_xV (rx_mRF rx_xV [((1, []), 2147483684, 2147483684)] 61 30 rx_LV36 [] rx_wV36) 61 [((2, []), 2147483648, 2147483648)] [((2, []), 2147483649, 2147483649)] 0 = true := by decide +kernel
set_option maxRecDepth 1000000 in
theorem rx_tV36 : rx_is (rx_mRF rx_xV [((1, []), 2147483685, 2147483687)] 35 30 rx_LV36 [] rx_wV36) 35 rx_LV36 [] rx_wV36 0 0 = true := by decide +kernel
set_option maxRecDepth 1000000 in
theorem rx_rV36 : rx_is (rx_mRF rx_xV [] 30 35 rx_LV36 [] rx_wV36) 30 rx_LV37 [] rx_wV37 0 0 = true := by decide +kernel
set_option maxRecDepth 1000000 in
theorem rx_eV37 : rx_isX rx_xV (rx_mRF rx_xV [((1, []), 2147483685, 2147483685)] 61 30 rx_LV37 [] rx_wV37) 61 [((2, []), 2147483648, 2147483648)] [((2, []), 2147483649, 2147483649)] 0 = true := by decide +kernel
set_option maxRecDepth 1000000 in
theorem rx_tV37 : rx_is (rx_mRF rx_xV [((1, []), 2147483686, 2147483687)] 35 30 rx_LV37 [] rx_wV37) 35 rx_LV37 [] rx_wV37 0 0 = true := by decide +kernel
set_option maxRecDepth 1000000 in
theorem rx_rV37 : rx_is (rx_mRF rx_xV [] 30 35 rx_LV37 [] rx_wV37) 30 rx_LV38 [] rx_wV38 0 0 = true := by decide +kernel
set_option maxRecDepth 1000000 in
theorem rx_eV38 : rx_isX rx_xV (rx_mRF rx_xV [((1, []), 2147483686, 2147483686)] 61 30 rx_LV38 [] rx_wV38) 61 [((2, []), 2147483648, 2147483648)] [((2, []), 2147483649, 2147483649)] 0 = true := by decide +kernel
set_option maxRecDepth 1000000 in
theorem rx_tV38 : rx_is (rx_mRF rx_xV [((1, []), 2147483687, 2147483687)] 35 30 rx_LV38 [] rx_wV38) 35 rx_LV38 [] rx_wV38 0 0 = true := by decide +kernel
set_option maxRecDepth 1000000 in
theorem rx_rV38 : rx_is (rx_mRF rx_xV [] 30 35 rx_LV38 [] rx_wV38) 30 rx_LV39 [] rx_wV39 0 0 = true := by decide +kernel
set_option maxRecDepth 1000000 in
theorem rx_eV39 : rx_isX rx_xV (rx_mRF rx_xV [((1, []), 2147483687, 2147483687)] 61 30 rx_LV39 [] rx_wV39) 61 [((2, []), 2147483648, 2147483648)] [((2, []), 2147483649, 2147483649)] 0 = true := by decide +kernel
