/-! printed by wip/p1/heavy.py: runs of later -/
set_option maxRecDepth 1000000 in
theorem rx_eV30 : rx_isX rx_xV (rx_mRF rx_xV [((1, []), 2147483678, 2147483678)] 61 30 rx_LV30 [] rx_wV30) 61 [((2, []), 2147483648, 2147483648)] [((2, []), 2147483649, 2147483649)] 0 = true := by decide +kernel
set_option maxRecDepth 1000000 in
theorem rx_tV30 : rx_is (rx_mRF rx_xV [((1, []), 2147483679, 2147483687)] 35 30 rx_LV30 [] rx_wV30) 35 rx_LV30 [] rx_wV30 0 0 = true := by decide +kernel
set_option maxRecDepth 1000000 in
theorem rx_rV30 : rx_is (rx_mRF rx_xV [] 30 35 rx_LV30 [] rx_wV30) 30 rx_LV31 [] rx_wV31 0 0 = true := by decide +kernel
set_option maxRecDepth 1000000 in
theorem rx_eV31 : rx_isX rx_xV (rx_mRF rx_xV [((1, []), 2147483679, 2147483679)] 61 30 rx_LV31 [] rx_wV31) 61 [((2, []), 2147483648, 2147483648)] [((2, []), 2147483649, 2147483649)] 0 = true := by decide +kernel
set_option maxRecDepth 1000000 in
theorem rx_tV31 : rx_is (rx_mRF rx_xV [((1, []), 2147483680, 2147483687)] 35 30 rx_LV31 [] rx_wV31) 35 rx_LV31 [] rx_wV31 0 0 = true := by decide +kernel
set_option maxRecDepth 1000000 in
theorem rx_rV31 : rx_is (rx_mRF rx_xV [] 30 35 rx_LV31 [] rx_wV31) 30 rx_LV32 [] rx_wV32 0 0 = true := by decide +kernel
set_option maxRecDepth 1000000 in
theorem rx_eV32 : rx_isX rx_xV (rx_mRF rx_xV [((1, []), 2147483680, 2147483680)] 61 30 rx_LV32 [] rx_wV32) 61 [((2, []), 2147483648, 2147483648)] [((2, []), 2147483649, 2147483649)] 0 = true := by decide +kernel
set_option maxRecDepth 1000000 in
theorem rx_tV32 : rx_is (rx_mRF rx_xV [((1, []), 2147483681, 2147483687)] 35 30 rx_LV32 [] rx_wV32) 35 rx_LV32 [] rx_wV32 0 0 = true := by decide +kernel
set_option maxRecDepth 1000000 in
theorem rx_rV32 : rx_is (rx_mRF rx_xV [] 30 35 rx_LV32 [] rx_wV32) 30 rx_LV33 [] rx_wV33 0 0 = true := by decide +kernel
set_option maxRecDepth 1000000 in
theorem rx_eV33 : rx_isX rx_xV (rx_mRF rx_xV [((1, []), 2147483681, 2147483681)] 61 30 rx_LV33 [] rx_wV33) 61 [((2, []), 2147483648, 2147483648)] [((2, []), 2147483649, 2147483649)] 0 = true := by decide +kernel
set_option maxRecDepth 1000000 in
theorem rx_tV33 : rx_is (rx_mRF rx_xV [((1, []), 2147483682, 2147483687)] 35 30 rx_LV33 [] rx_wV33) 35 rx_LV33 [] rx_wV33 0 0 = true := by decide +kernel
set_option maxRecDepth 1000000 in
theorem rx_rV33 : rx_is (rx_mRF rx_xV [] 30 35 rx_LV33 [] rx_wV33) 30 rx_LV34 [] rx_wV34 0 0 = true := by decide +kernel
set_option maxRecDepth 1000000 in
theorem rx_eV34 : rx_isX rx_xV (rx_mRF rx_xV [((1, []), 2147483682, 2147483682)] 61 30 rx_LV34 [] rx_wV34) 61 [((2, []), 2147483648, 2147483648)] [((2, []), 2147483649, 2147483649)] 0 = true := by decide +kernel
set_option maxRecDepth 1000000 in
theorem rx_tV34 : rx_is (rx_mRF rx_xV [((1, []), 2147483683, 2147483687)] 35 30 rx_LV34 [] rx_wV34) 35 rx_LV34 [] rx_wV34 0 0 = true := by decide +kernel
set_option maxRecDepth 1000000 in
theorem rx_rV34 : rx_is (rx_mRF rx_xV [] 30 35 rx_LV34 [] rx_wV34) 30 rx_LV35 [] rx_wV35 0 0 = true := by decide +kernel
