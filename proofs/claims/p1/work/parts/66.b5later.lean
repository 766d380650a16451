/-! printed by wip/p1/heavy.py: runs of later -/
set_option maxRecDepth 1000000 in
theorem rx_eV25 : rx_isX rx_xV (rx_mRF rx_xV [((1, []), 2147483673, 2147483673)] 61 30 rx_LV25 [] rx_wV25) 61 [((2, []), 2147483648, 2147483648)] [((2, []), 2147483649, 2147483649)] 0 = true := by decide +kernel
set_option maxRecDepth 1000000 in
theorem rx_tV25 : rx_is (rx_mRF rx_xV [((1, []), 2147483674, 2147483687)] 35 30 rx_LV25 [] rx_wV25) 35 rx_LV25 [] rx_wV25 0 0 = true := by decide +kernel
set_option maxRecDepth 1000000 in
theorem rx_rV25 : rx_is (rx_mRF rx_xV [] 30 35 rx_LV25 [] rx_wV25) 30 rx_LV26 [] rx_wV26 0 0 = true := by decide +kernel
set_option maxRecDepth 1000000 in
theorem rx_eV26 : rx_isX rx_xV (rx_mRF rx_xV [((1, []), 2147483674, 2147483674)] 61 30 rx_LV26 [] rx_wV26) 61 [((2, []), 2147483648, 2147483648)] [((2, []), 2147483649, 2147483649)] 0 = true := by decide +kernel
set_option maxRecDepth 1000000 in
theorem rx_tV26 : rx_is (rx_mRF rx_xV [((1, []), 2147483675, 2147483687)] 35 30 rx_LV26 [] rx_wV26) 35 rx_LV26 [] rx_wV26 0 0 = true := by decide +kernel
set_option maxRecDepth 1000000 in
theorem rx_rV26 : rx_is (rx_mRF rx_xV [] 30 35 rx_LV26 [] rx_wV26) 30 rx_LV27 [] rx_wV27 0 0 = true := by decide +kernel
set_option maxRecDepth 1000000 in
theorem rx_eV27 : rx_isX rx_xV (rx_mRF rx_xV [((1, []), 2147483675, 2147483675)] 61 30 rx_LV27 [] rx_wV27) 61 [((2, []), 2147483648, 2147483648)] [((2, []), 2147483649, 2147483649)] 0 = true := by decide +kernel
set_option maxRecDepth 1000000 in
theorem rx_tV27 : rx_is (rx_mRF rx_xV [((1, []), 2147483676, 2147483687)] 35 30 rx_LV27 [] rx_wV27) 35 rx_LV27 [] rx_wV27 0 0 = true := by decide +kernel
set_option maxRecDepth 1000000 in
theorem rx_rV27 : rx_is (rx_mRF rx_xV [] 30 35 rx_LV27 [] rx_wV27) 30 rx_LV28 [] rx_wV28 0 0 = true := by decide +kernel
set_option maxRecDepth 1000000 in
theorem rx_eV28 : rx_isX rx_xV (rx_mRF rx_xV [((1, []), 2147483676, 2147483676)] 61 30 rx_LV28 [] rx_wV28) 61 [((2, []), 2147483648, 2147483648)] [((2, []), 2147483649, 2147483649)] 0 = true := by decide +kernel
set_option maxRecDepth 1000000 in
theorem rx_tV28 : rx_is (rx_mRF rx_xV [((1, []), 2147483677, 2147483687)] 35 30 rx_LV28 [] rx_wV28) 35 rx_LV28 [] rx_wV28 0 0 = true := by decide +kernel
set_option maxRecDepth 1000000 in
theorem rx_rV28 : rx_is (rx_mRF rx_xV [] 30 35 rx_LV28 [] rx_wV28) 30 rx_LV29 [] rx_wV29 0 0 = true := by decide +kernel
set_option maxRecDepth 1000000 in
theorem rx_eV29 : rx_isX rx_xV (rx_mRF rx_xV [((1, []), 2147483677, 2147483677)] 61 30 rx_LV29 [] rx_wV29) 61 [((2, []), 2147483648, 2147483648)] [((2, []), 2147483649, 2147483649)] 0 = true := by decide +kernel
set_option maxRecDepth 1000000 in
theorem rx_tV29 : rx_is (rx_mRF rx_xV [((1, []), 2147483678, 2147483687)] 35 30 rx_LV29 [] rx_wV29) 35 rx_LV29 [] rx_wV29 0 0 = true := by decide +kernel
set_option maxRecDepth 1000000 in
theorem rx_rV29 : rx_is (rx_mRF rx_xV [] 30 35 rx_LV29 [] rx_wV29) 30 rx_LV30 [] rx_wV30 0 0 = true := by decide +kernel
