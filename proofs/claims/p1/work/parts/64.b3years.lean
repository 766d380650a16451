/-! printed by wip/p1/heavy.py: runs of years -/
set_option maxRecDepth 1000000 in
theorem rx_eY33 : rx_isR (rx_mRF rx_xY [((1, []), 2147483681, 2147483681)] 99999999 25 rx_LY33 [] rx_wY33) 0 0 0 = true := by decide +kernel
set_option maxRecDepth 1000000 in
theorem rx_tY33 : rx_is (rx_mRF rx_xY [((1, []), 2147483682, 2147483688)] 30 25 rx_LY33 [] rx_wY33) 30 rx_LY33 [] rx_wY33 0 0 = true := by decide +kernel
set_option maxRecDepth 1000000 in
theorem rx_rY33 : rx_is (rx_mRF rx_xY [] 25 30 rx_LY33 [] rx_wY33) 25 rx_LY34 [] rx_wY34 0 0 = true := by decide +kernel
set_option maxRecDepth 1000000 in
theorem rx_eY34 : rx_isR (rx_mRF rx_xY [((1, []), 2147483682, 2147483682)] 99999999 25 rx_LY34 [] rx_wY34) 0 0 0 = true := by decide +kernel
set_option maxRecDepth 1000000 in
theorem rx_tY34 : rx_is (rx_mRF rx_xY [((1, []), 2147483683, 2147483688)] 30 25 rx_LY34 [] rx_wY34) 30 rx_LY34 [] rx_wY34 0 0 = true := by decide +kernel
set_option maxRecDepth 1000000 in
theorem rx_rY34 : rx_is (rx_mRF rx_xY [] 25 30 rx_LY34 [] rx_wY34) 25 rx_LY35 [] rx_wY35 0 0 = true := by decide +kernel
set_option maxRecDepth 1000000 in
theorem rx_eY35 : rx_isR (rx_mRF rx_xY [((1, []), 2147483683, 2147483683)] 99999999 25 rx_LY35 [] rx_wY35) 0 0 0 = true := by decide +kernel
set_option maxRecDepth 1000000 in
theorem rx_tY35 : rx_is (rx_mRF rx_xY [((1, []), 2147483684, 2147483688)] 30 25 rx_LY35 [] rx_wY35) 30 rx_LY35 [] rx_wY35 0 0 = true := by decide +kernel
set_option maxRecDepth 1000000 in
theorem rx_rY35 : rx_is (rx_mRF rx_xY [] 25 30 rx_LY35 [] rx_wY35) 25 rx_LY36 [] rx_wY36 0 0 = true := by decide +kernel
set_option maxRecDepth 1000000 in
theorem rx_eY36 : rx_isR (rx_mRF rx_xY [((1, []), 2147483684, 2147483684)] 99999999 25 rx_LY36 [] rx_wY36) 0 0 0 = true := by decide +kernel
set_option maxRecDepth 1000000 in
theorem rx_tY36 : rx_is (rx_mRF rx_xY [((1, []), 2147483685, 2147483688)] 30 25 rx_LY36 [] rx_wY36) 30 rx_LY36 [] rx_wY36 0 0 = true := by decide +kernel
set_option maxRecDepth 1000000 in
theorem rx_rY36 : rx_is (rx_mRF rx_xY [] 25 30 rx_LY36 [] rx_wY36) 25 rx_LY37 [] rx_wY37 0 0 = true := by decide +kernel
set_option maxRecDepth 1000000 in
theorem rx_eY37 : rx_isR (rx_mRF rx_xY [((1, []), 2147483685, 2147483685)] 99999999 25 rx_LY37 [] rx_wY37) 0 0 0 = true := by decide +kernel
set_option maxRecDepth 1000000 in
theorem rx_tY37 : rx_is (rx_mRF rx_xY [((1, []), 2147483686, 2147483688)] 30 25 rx_LY37 [] rx_wY37) 30 rx_LY37 [] rx_wY37 0 0 = true := by decide +kernel
set_option maxRecDepth 1000000 in
theorem rx_rY37 : rx_is (rx_mRF rx_xY [] 25 30 rx_LY37 [] rx_wY37) 25 rx_LY38 [] rx_wY38 0 0 = true := by decide +kernel
set_option maxRecDepth 1000000 in
theorem rx_eY38 : rx_isR (rx_mRF rx_xY [((1, []), 2147483686, 2147483686)] 99999999 25 rx_LY38 [] rx_wY38) 0 0 0 = true := by decide +kernel
set_option maxRecDepth 1000000 in
theorem rx_tY38 : rx_is (rx_mRF rx_xY [((1, []), 2147483687, 2147483688)] 30 25 rx_LY38 [] rx_wY38) 30 rx_LY38 [] rx_wY38 0 0 = true := by decide +kernel
set_option maxRecDepth 1000000 in
theorem rx_rY38 : rx_is (rx_mRF rx_xY [] 25 30 rx_LY38 [] rx_wY38) 25 rx_LY39 [] rx_wY39 0 0 = true := by decide +kernel
set_option maxRecDepth 1000000 in
theorem rx_eY39 : rx_isR (rx_mRF rx_xY [((1, []), 2147483687, 2147483687)] 99999999 25 rx_LY39 [] rx_wY39) 0 0 0 = true := by decide +kernel
set_option maxRecDepth 1000000 in
theorem rx_tY39 : rx_is (rx_mRF rx_xY [((1, []), 2147483688, 2147483688)] 30 25 rx_LY39 [] rx_wY39) 30 rx_LY39 [] rx_wY39 0 0 = true := by decide +kernel
set_option maxRecDepth 1000000 in
theorem rx_rY39 : rx_is (rx_mRF rx_xY [] 25 30 rx_LY39 [] rx_wY39) 25 rx_LY40 [] rx_wY40 0 0 = true := by decide +kernel
set_option maxRecDepth 1000000 in
theorem rx_eY40 : rx_isR (rx_mRF rx_xY [((1, []), 2147483688, 2147483688)] 99999999 25 rx_LY40 [] rx_wY40) 0 0 0 = true := by decide +kernel
