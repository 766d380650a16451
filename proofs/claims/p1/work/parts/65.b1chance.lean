/-! printed by wip/p1/heavy.py: runs of chance -/
set_option maxRecDepth 1000000 in
theorem rx_eZ11 : rx_isR (rx_mRF rx_xZ [((1, []), 2147483659, 2147483659)] 99999999 25 rx_LZ11 [] rx_wZ11) 0 0 0 = true := by decide +kernel
set_option maxRecDepth 1000000 in
theorem rx_tZ11 : rx_is (rx_mRF rx_xZ [((1, []), 2147483660, 2147483688)] 30 25 rx_LZ11 [] rx_wZ11) 30 rx_LZ11 [] rx_wZ11 0 0 = true := by decide +kernel
set_option maxRecDepth 1000000 in
theorem rx_rZ11 : rx_is (rx_mRF rx_xZ [] 25 30 rx_LZ11 [] rx_wZ11) 25 rx_LZ12 [] rx_wZ12 0 0 = true := by decide +kernel
set_option maxRecDepth 1000000 in
theorem rx_eZ12 : rx_isR (rx_mRF rx_xZ [((1, []), 2147483660, 2147483660)] 99999999 25 rx_LZ12 [] rx_wZ12) 0 0 0 = true := by decide +kernel
set_option maxRecDepth 1000000 in
theorem rx_tZ12 : rx_is (rx_mRF rx_xZ [((1, []), 2147483661, 2147483688)] 30 25 rx_LZ12 [] rx_wZ12) 30 rx_LZ12 [] rx_wZ12 0 0 = true := by decide +kernel
set_option maxRecDepth 1000000 in
theorem rx_rZ12 : rx_is (rx_mRF rx_xZ [] 25 30 rx_LZ12 [] rx_wZ12) 25 rx_LZ13 [] rx_wZ13 0 0 = true := by decide +kernel
set_option maxRecDepth 1000000 in
theorem rx_eZ13 : rx_isR (rx_mRF rx_xZ [((1, []), 2147483661, 2147483661)] 99999999 25 rx_LZ13 [] rx_wZ13) 0 0 0 = true := by decide +kernel
set_option maxRecDepth 1000000 in
theorem rx_tZ13 : rx_is (rx_mRF rx_xZ [((1, []), 2147483662, 2147483688)] 30 25 rx_LZ13 [] rx_wZ13) 30 rx_LZ13 [] rx_wZ13 0 0 = true := by decide +kernel
set_option maxRecDepth 1000000 in
theorem rx_rZ13 : rx_is (rx_mRF rx_xZ [] 25 30 rx_LZ13 [] rx_wZ13) 25 rx_LZ14 [] rx_wZ14 0 0 = true := by decide +kernel
set_option maxRecDepth 1000000 in
theorem rx_eZ14 : rx_isR (rx_mRF rx_xZ [((1, []), 2147483662, 2147483662)] 99999999 25 rx_LZ14 [] rx_wZ14) 0 0 0 = true := by decide +kernel
set_option maxRecDepth 1000000 in
theorem rx_tZ14 : rx_is (rx_mRF rx_xZ [((1, []), 2147483663, 2147483688)] 30 25 rx_LZ14 [] rx_wZ14) 30 rx_LZ14 [] rx_wZ14 0 0 = true := by decide +kernel
set_option maxRecDepth 1000000 in
theorem rx_rZ14 : rx_is (rx_mRF rx_xZ [] 25 30 rx_LZ14 [] rx_wZ14) 25 rx_LZ15 [] rx_wZ15 0 0 = true := by decide +kernel
set_option maxRecDepth 1000000 in
theorem rx_eZ15 : rx_isR (rx_mRF rx_xZ [((1, []), 2147483663, 2147483663)] 99999999 25 rx_LZ15 [] rx_wZ15) 0 0 0 = true := by decide +kernel
set_option maxRecDepth 1000000 in
theorem rx_tZ15 : rx_is (rx_mRF rx_xZ [((1, []), 2147483664, 2147483688)] 30 25 rx_LZ15 [] rx_wZ15) 30 rx_LZ15 [] rx_wZ15 0 0 = true := by decide +kernel
set_option maxRecDepth 1000000 in
theorem rx_rZ15 : rx_is (rx_mRF rx_xZ [] 25 30 rx_LZ15 [] rx_wZ15) 25 rx_LZ16 [] rx_wZ16 0 0 = true := by decide +kernel
set_option maxRecDepth 1000000 in
theorem rx_eZ16 : rx_isR (rx_mRF rx_xZ [((1, []), 2147483664, 2147483664)] 99999999 25 rx_LZ16 [] rx_wZ16) 0 0 0 = true := by decide +kernel
set_option maxRecDepth 1000000 in
theorem rx_tZ16 : rx_is (rx_mRF rx_xZ [((1, []), 2147483665, 2147483688)] 30 25 rx_LZ16 [] rx_wZ16) 30 rx_LZ16 [] rx_wZ16 0 0 = true := by decide +kernel
set_option maxRecDepth 1000000 in
theorem rx_rZ16 : rx_is (rx_mRF rx_xZ [] 25 30 rx_LZ16 [] rx_wZ16) 25 rx_LZ17 [] rx_wZ17 0 0 = true := by decide +kernel
set_option maxRecDepth 1000000 in
theorem rx_eZ17 : rx_isR (rx_mRF rx_xZ [((1, []), 2147483665, 2147483665)] 99999999 25 rx_LZ17 [] rx_wZ17) 0 0 0 = true := by decide +kernel
set_option maxRecDepth 1000000 in
theorem rx_tZ17 : rx_is (rx_mRF rx_xZ [((1, []), 2147483666, 2147483688)] 30 25 rx_LZ17 [] rx_wZ17) 30 rx_LZ17 [] rx_wZ17 0 0 = true := by decide +kernel
set_option maxRecDepth 1000000 in
theorem rx_rZ17 : rx_is (rx_mRF rx_xZ [] 25 30 rx_LZ17 [] rx_wZ17) 25 rx_LZ18 [] rx_wZ18 0 0 = true := by decide +kernel
set_option maxRecDepth 1000000 in
theorem rx_eZ18 : rx_isR (rx_mRF rx_xZ [((1, []), 2147483666, 2147483666)] 99999999 25 rx_LZ18 [] rx_wZ18) 0 0 0 = true := by decide +kernel
set_option maxRecDepth 1000000 in
theorem rx_tZ18 : rx_is (rx_mRF rx_xZ [((1, []), 2147483667, 2147483688)] 30 25 rx_LZ18 [] rx_wZ18) 30 rx_LZ18 [] rx_wZ18 0 0 = true := by decide +kernel
set_option maxRecDepth 1000000 in
theorem rx_rZ18 : rx_is (rx_mRF rx_xZ [] 25 30 rx_LZ18 [] rx_wZ18) 25 rx_LZ19 [] rx_wZ19 0 0 = true := by decide +kernel
set_option maxRecDepth 1000000 in
theorem rx_eZ19 : rx_isR (rx_mRF rx_xZ [((1, []), 2147483667, 2147483667)] 99999999 25 rx_LZ19 [] rx_wZ19) 0 0 0 = true := by decide +kernel
set_option maxRecDepth 1000000 in
theorem rx_tZ19 : rx_is (rx_mRF rx_xZ [((1, []), 2147483668, 2147483688)] 30 25 rx_LZ19 [] rx_wZ19) 30 rx_LZ19 [] rx_wZ19 0 0 = true := by decide +kernel
set_option maxRecDepth 1000000 in
theorem rx_rZ19 : rx_is (rx_mRF rx_xZ [] 25 30 rx_LZ19 [] rx_wZ19) 25 rx_LZ20 [] rx_wZ20 0 0 = true := by decide +kernel
set_option maxRecDepth 1000000 in
theorem rx_eZ20 : rx_isR (rx_mRF rx_xZ [((1, []), 2147483668, 2147483668)] 99999999 25 rx_LZ20 [] rx_wZ20) 0 0 0 = true := by decide +kernel
set_option maxRecDepth 1000000 in
theorem rx_tZ20 : rx_is (rx_mRF rx_xZ [((1, []), 2147483669, 2147483688)] 30 25 rx_LZ20 [] rx_wZ20) 30 rx_LZ20 [] rx_wZ20 0 0 = true := by decide +kernel
set_option maxRecDepth 1000000 in
theorem rx_rZ20 : rx_is (rx_mRF rx_xZ [] 25 30 rx_LZ20 [] rx_wZ20) 25 rx_LZ21 [] rx_wZ21 0 0 = true := by decide +kernel
set_option maxRecDepth 1000000 in
theorem rx_eZ21 : rx_isR (rx_mRF rx_xZ [((1, []), 2147483669, 2147483669)] 99999999 25 rx_LZ21 [] rx_wZ21) 0 0 0 = true := by decide +kernel
set_option maxRecDepth 1000000 in
theorem rx_tZ21 : rx_is (rx_mRF rx_xZ [((1, []), 2147483670, 2147483688)] 30 25 rx_LZ21 [] rx_wZ21) 30 rx_LZ21 [] rx_wZ21 0 0 = true := by decide +kernel
set_option maxRecDepth 1000000 in
theorem rx_rZ21 : rx_is (rx_mRF rx_xZ [] 25 30 rx_LZ21 [] rx_wZ21) 25 rx_LZ22 [] rx_wZ22 0 0 = true := by decide +kernel
