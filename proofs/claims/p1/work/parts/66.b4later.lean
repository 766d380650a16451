/-! printed by wip/p1/heavy.py: runs of later -/
set_option maxRecDepth 1000000 in
theorem rx_eV20 : rx_isX rx_xV (rx_mRF rx_xV [((1, []), 2147483668, 2147483668)] 61 30 rx_LV20 [] rx_wV20) 61 [((2, []), 2147483648, 2147483648)] [((2, []), 2147483649, 2147483649)] 0 = true := by decide +kernel
set_option maxRecDepth 1000000 in
theorem rx_tV20 : rx_is (rx_mRF rx_xV [((1, []), 2147483669, 2147483687)] 35 30 rx_LV20 [] rx_wV20) 35 rx_LV20 [] rx_wV20 0 0 = true := by decide +kernel
set_option maxRecDepth 1000000 in
theorem rx_rV20 : rx_is (rx_mRF rx_xV [] 30 35 rx_LV20 [] rx_wV20) 30 rx_LV21 [] rx_wV21 0 0 = true := by decide +kernel
set_option maxRecDepth 1000000 in
theorem rx_eV21 : rx_isX rx_xV (rx_mRF rx_xV [((1, []), 2147483669, 2147483669)] 61 30 rx_LV21 [] rx_wV21) 61 [((2, []), 2147483648, 2147483648)] [((2, []), 2147483649, 2147483649)] 0 = true := by decide +kernel
set_option maxRecDepth 1000000 in
theorem rx_tV21 : rx_is (rx_mRF rx_xV [((1, []), 2147483670, 2147483687)] 35 30 rx_LV21 [] rx_wV21) 35 rx_LV21 [] rx_wV21 0 0 = true := by decide +kernel
set_option maxRecDepth 1000000 in
theorem rx_rV21 : rx_is (rx_mRF rx_xV [] 30 35 rx_LV21 [] rx_wV21) 30 rx_LV22 [] rx_wV22 0 0 = true := by decide +kernel
set_option maxRecDepth 1000000 in
theorem rx_eV22 : rx_isX rx_xV (rx_mRF rx_xV [((1, []), 2147483670, 2147483670)] 61 30 rx_LV22 [] rx_wV22) 61 [((2, []), 2147483648, 2147483648)] [((2, []), 2147483649, 2147483649)] 0 = true := by decide +kernel
set_option maxRecDepth 1000000 in
theorem rx_tV22 : rx_is (rx_mRF rx_xV [((1, []), 2147483671, 2147483687)] 35 30 rx_LV22 [] rx_wV22) 35 rx_LV22 [] rx_wV22 0 0 = true := by decide +kernel
set_option maxRecDepth 1000000 in
theorem rx_rV22 : rx_is (rx_mRF rx_xV [] 30 35 rx_LV22 [] rx_wV22) 30 rx_LV23 [] rx_wV23 0 0 = true := by decide +kernel
set_option maxRecDepth 1000000 in
theorem rx_eV23 : rx_isX rx_xV (rx_mRF rx_xV [((1, []), 2147483671, 2147483671)] 61 30 rx_LV23 [] rx_wV23) 61 [((2, []), 2147483648, 2147483648)] [((2, []), 2147483649, 2147483649)] 0 = true := by decide +kernel
set_option maxRecDepth 1000000 in
theorem rx_tV23 : rx_is (rx_mRF rx_xV [((1, []), 2147483672, 2147483687)] 35 30 rx_LV23 [] rx_wV23) 35 rx_LV23 [] rx_wV23 0 0 = true := by decide +kernel
set_option maxRecDepth 1000000 in
theorem rx_rV23 : rx_is (rx_mRF rx_xV [] 30 35 rx_LV23 [] rx_wV23) 30 rx_LV24 [] rx_wV24 0 0 = true := by decide +kernel
set_option maxRecDepth 1000000 in
theorem rx_eV24 : rx_isX rx_xV (rx_mRF rx_xV [((1, []), 2147483672, 2147483672)] 61 30 rx_LV24 [] rx_wV24) 61 [((2, []), 2147483648, 2147483648)] [((2, []), 2147483649, 2147483649)] 0 = true := by decide +kernel
set_option maxRecDepth 1000000 in
theorem rx_tV24 : rx_is (rx_mRF rx_xV [((1, []), 2147483673, 2147483687)] 35 30 rx_LV24 [] rx_wV24) 35 rx_LV24 [] rx_wV24 0 0 = true := by decide +kernel
set_option maxRecDepth 1000000 in
theorem rx_rV24 : rx_is (rx_mRF rx_xV [] 30 35 rx_LV24 [] rx_wV24) 30 rx_LV25 [] rx_wV25 0 0 = true := by decide +kernel
