/-! printed by wip/p1/heavy.py: runs of later -/
set_option maxRecDepth 1000000 in
theorem rx_eV10 : rx_isX rx_xV (rx_mRF rx_xV [((1, []), 2147483658, 2147483658)] 61 30 rx_LV10 [] rx_wV10) 61 [((2, []), 2147483648, 2147483648)] [((2, []), 2147483649, 2147483649)] 0 = true := by decide +kernel
set_option maxRecDepth 1000000 in
theorem rx_tV10 : rx_is (rx_mRF rx_xV [((1, []), 2147483659, 2147483687)] 35 30 rx_LV10 [] rx_wV10) 35 rx_LV10 [] rx_wV10 0 0 = true := by decide +kernel
set_option maxRecDepth 1000000 in
theorem rx_rV10 : rx_is (rx_mRF rx_xV [] 30 35 rx_LV10 [] rx_wV10) 30 rx_LV11 [] rx_wV11 0 0 = true := by decide +kernel
set_option maxRecDepth 1000000 in
theorem rx_eV11 : rx_isX rx_xV (rx_mRF rx_xV [((1, []), 2147483659, 2147483659)] 61 30 rx_LV11 [] rx_wV11) 61 [((2, []), 2147483648, 2147483648)] [((2, []), 2147483649, 2147483649)] 0 = true := by decide +kernel
set_option maxRecDepth 1000000 in
theorem rx_tV11 : rx_is (rx_mRF rx_xV [((1, []), 2147483660, 2147483687)] 35 30 rx_LV11 [] rx_wV11) 35 rx_LV11 [] rx_wV11 0 0 = true := by decide +kernel
set_option maxRecDepth 1000000 in
theorem rx_rV11 : rx_is (rx_mRF rx_xV [] 30 35 rx_LV11 [] rx_wV11) 30 rx_LV12 [] rx_wV12 0 0 = true := by decide +kernel
set_option maxRecDepth 1000000 in
theorem rx_eV12 : rx_isX rx_xV (rx_mRF rx_xV [((1, []), 2147483660, 2147483660)] 61 30 rx_LV12 [] rx_wV12) 61 [((2, []), 2147483648, 2147483648)] [((2, []), 2147483649, 2147483649)] 0 = true := by decide +kernel
set_option maxRecDepth 1000000 in
theorem rx_tV12 : rx_is (rx_mRF rx_xV [((1, []), 2147483661, 2147483687)] 35 30 rx_LV12 [] rx_wV12) 35 rx_LV12 [] rx_wV12 0 0 = true := by decide +kernel
set_option maxRecDepth 1000000 in
theorem rx_rV12 : rx_is (rx_mRF rx_xV [] 30 35 rx_LV12 [] rx_wV12) 30 rx_LV13 [] rx_wV13 0 0 = true := by decide +kernel
set_option maxRecDepth 1000000 in
theorem rx_eV13 : rx_isX rx_xV (rx_mRF rx_xV [((1, []), 2147483661, 2147483661)] 61 30 rx_LV13 [] rx_wV13) 61 [((2, []), 2147483648, 2147483648)] [((2, []), 2147483649, 2147483649)] 0 = true := by decide +kernel
set_option maxRecDepth 1000000 in
theorem rx_tV13 : rx_is (rx_mRF rx_xV [((1, []), 2147483662, 2147483687)] 35 30 rx_LV13 [] rx_wV13) 35 rx_LV13 [] rx_wV13 0 0 = true := by decide +kernel
set_option maxRecDepth 1000000 in
theorem rx_rV13 : rx_is (rx_mRF rx_xV [] 30 35 rx_LV13 [] rx_wV13) 30 rx_LV14 [] rx_wV14 0 0 = true := by decide +kernel
set_option maxRecDepth 1000000 in
theorem rx_eV14 : rx_isX rx_xV (rx_mRF rx_xV [((1, []), 2147483662, 2147483662)] 61 30 rx_LV14 [] rx_wV14) 61 [((2, []), 2147483648, 2147483648)] [((2, []), 2147483649, 2147483649)] 0 = true := by decide +kernel
set_option maxRecDepth 1000000 in
theorem rx_tV14 : rx_is (rx_mRF rx_xV [((1, []), 2147483663, 2147483687)] 35 30 rx_LV14 [] rx_wV14) 35 rx_LV14 [] rx_wV14 0 0 = true := by decide +kernel
set_option maxRecDepth 1000000 in
theorem rx_rV14 : rx_is (rx_mRF rx_xV [] 30 35 rx_LV14 [] rx_wV14) 30 rx_LV15 [] rx_wV15 0 0 = true := by decide +kernel
