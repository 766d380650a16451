/-! printed by wip/p1/heavy.py: runs of later -/
set_option maxRecDepth 1000000 in
theorem rx_eV0 : rx_isX rx_xV (rx_mRF rx_xV [((1, []), 2147483648, 2147483648)] 61 30 rx_LV0 [] rx_wV0) 61 [((2, []), 2147483648, 2147483648)] [((2, []), 2147483649, 2147483649)] 0 = true := by decide +kernel
set_option maxRecDepth 1000000 in
theorem rx_tV0 : rx_is (rx_mRF rx_xV [((1, []), 2147483649, 2147483687)] 35 30 rx_LV0 [] rx_wV0) 35 rx_LV0 [] rx_wV0 0 0 = true := by decide +kernel
set_option maxRecDepth 1000000 in
theorem rx_rV0 : rx_is (rx_mRF rx_xV [] 30 35 rx_LV0 [] rx_wV0) 30 rx_LV1 [] rx_wV1 0 0 = true := by decide +kernel
set_option maxRecDepth 1000000 in
theorem rx_eV1 : rx_isX rx_xV (rx_mRF rx_xV [((1, []), 2147483649, 2147483649)] 61 30 rx_LV1 [] rx_wV1) 61 [((2, []), 2147483648, 2147483648)] [((2, []), 2147483649, 2147483649)] 0 = true := by decide +kernel
set_option maxRecDepth 1000000 in
theorem rx_tV1 : rx_is (rx_mRF rx_xV [((1, []), 2147483650, 2147483687)] 35 30 rx_LV1 [] rx_wV1) 35 rx_LV1 [] rx_wV1 0 0 = true := by decide +kernel
set_option maxRecDepth 1000000 in
theorem rx_rV1 : rx_is (rx_mRF rx_xV [] 30 35 rx_LV1 [] rx_wV1) 30 rx_LV2 [] rx_wV2 0 0 = true := by decide +kernel
set_option maxRecDepth 1000000 in
theorem rx_eV2 : rx_isX rx_xV (rx_mRF rx_xV [((1, []), 2147483650, 2147483650)] 61 30 rx_LV2 [] rx_wV2) 61 [((2, []), 2147483648, 2147483648)] [((2, []), 2147483649, 2147483649)] 0 = true := by decide +kernel
set_option maxRecDepth 1000000 in
theorem rx_tV2 : rx_is (rx_mRF rx_xV [((1, []), 2147483651, 2147483687)] 35 30 rx_LV2 [] rx_wV2) 35 rx_LV2 [] rx_wV2 0 0 = true := by decide +kernel
set_option maxRecDepth 1000000 in
theorem rx_rV2 : rx_is (rx_mRF rx_xV [] 30 35 rx_LV2 [] rx_wV2) 30 rx_LV3 [] rx_wV3 0 0 = true := by decide +kernel
set_option maxRecDepth 1000000 in
theorem rx_eV3 : rx_isX rx_xV (rx_mRF rx_xV [((1, []), 2147483651, 2147483651)] 61 30 rx_LV3 [] rx_wV3) 61 [((2, []), 2147483648, 2147483648)] [((2, []), 2147483649, 2147483649)] 0 = true := by decide +kernel
set_option maxRecDepth 1000000 in
theorem rx_tV3 : rx_is (rx_mRF rx_xV [((1, []), 2147483652, 2147483687)] 35 30 rx_LV3 [] rx_wV3) 35 rx_LV3 [] rx_wV3 0 0 = true := by decide +kernel
set_option maxRecDepth 1000000 in
theorem rx_rV3 : rx_is (rx_mRF rx_xV [] 30 35 rx_LV3 [] rx_wV3) 30 rx_LV4 [] rx_wV4 0 0 = true := by decide +kernel
set_option maxRecDepth 1000000 in
theorem rx_eV4 : rx_isX rx_xV (rx_mRF rx_xV [((1, []), 2147483652, 2147483652)] 61 30 rx_LV4 [] rx_wV4) 61 [((2, []), 2147483648, 2147483648)] [((2, []), 2147483649, 2147483649)] 0 = true := by decide +kernel
set_option maxRecDepth 1000000 in
theorem rx_tV4 : rx_is (rx_mRF rx_xV [((1, []), 2147483653, 2147483687)] 35 30 rx_LV4 [] rx_wV4) 35 rx_LV4 [] rx_wV4 0 0 = true := by decide +kernel
set_option maxRecDepth 1000000 in
theorem rx_rV4 : rx_is (rx_mRF rx_xV [] 30 35 rx_LV4 [] rx_wV4) 30 rx_LV5 [] rx_wV5 0 0 = true := by decide +kernel
