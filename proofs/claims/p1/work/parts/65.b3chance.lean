/-! printed by wip/p1/heavy.py: runs of chance -/
set_option maxRecDepth 1000000 in
theorem rx_eZ33 : rx_isR (rx_mRF rx_xZ [((1, []), 2147483681, 2147483681)] 99999999 25 rx_LZ33 [] rx_wZ33) 0 0 0 = true := by decide +kernel
set_option maxRecDepth 1000000 in
theorem rx_tZ33 : rx_is (rx_mRF rx_xZ [((1, []), 2147483682, 2147483688)] 30 25 rx_LZ33 [] rx_wZ33) 30 rx_LZ33 [] rx_wZ33 0 0 = true := by decide +kernel
set_option maxRecDepth 1000000 in
theorem rx_rZ33 : rx_is (rx_mRF rx_xZ [] 25 30 rx_LZ33 [] rx_wZ33) 25 rx_LZ34 [] rx_wZ34 0 0 = true := by decide +kernel
set_option maxRecDepth 1000000 in
theorem rx_eZ34 : rx_isR (rx_mRF rx_xZ [((1, []), 2147483682, 2147483682)] 99999999 25 rx_LZ34 [] rx_wZ34) 0 0 0 = true := by decide +kernel
set_option maxRecDepth 1000000 in
theorem rx_tZ34 : rx_is (rx_mRF rx_xZ [((1, []), 2147483683, 2147483688)] 30 25 rx_LZ34 [] rx_wZ34) 30 rx_LZ34 [] rx_wZ34 0 0 = true := by decide +kernel
set_option maxRecDepth 1000000 in
theorem rx_rZ34 : rx_is (rx_mRF rx_xZ [] 25 30 rx_LZ34 [] rx_wZ34) 25 rx_LZ35 [] rx_wZ35 0 0 = true := by decide +kernel
set_option maxRecDepth 1000000 in
theorem rx_eZ35 : rx_isR (rx_mRF rx_xZ [((1, []), 2147483683, 2147483683)] 99999999 25 rx_LZ35 [] rx_wZ35) 0 0 0 = true := by decide +kernel
set_option maxRecDepth 1000000 in
theorem rx_tZ35 : rx_is (rx_mRF rx_xZ [((1, []), 2147483684, 2147483688)] 30 25 rx_LZ35 [] rx_wZ35) 30 rx_LZ35 [] rx_wZ35 0 0 = true := by decide +kernel
set_option maxRecDepth 1000000 in
theorem rx_rZ35 : rx_is (rx_mRF rx_xZ [] 25 30 rx_LZ35 [] rx_wZ35) 25 rx_LZ36 [] rx_wZ36 0 0 = true := by decide +kernel
set_option maxRecDepth 1000000 in
theorem rx_eZ36 : rx_isR (rx_mRF rx_xZ [((1, []), 2147483684, 2147483684)] 99999999 25 rx_LZ36 [] rx_wZ36) 0 0 0 = true := by decide +kernel
set_option maxRecDepth 1000000 in
theorem rx_tZ36 : rx_is (rx_mRF rx_xZ [((1, []), 2147483685, 2147483688)] 30 25 rx_LZ36 [] rx_wZ36) 30 rx_LZ36 [] rx_wZ36 0 0 = true := by decide +kernel
set_option maxRecDepth 1000000 in
theorem rx_rZ36 : rx_is (rx_mRF rx_xZ [] 25 30 rx_LZ36 [] rx_wZ36) 25 rx_LZ37 [] rx_wZ37 0 0 = true := by decide +kernel
set_option maxRecDepth 1000000 in
theorem rx_eZ37 : rx_isR (rx_mRF rx_xZ [((1, []), 2147483685, 2147483685)] 99999999 25 rx_LZ37 [] rx_wZ37) 0 0 0 = true := by decide +kernel
set_option maxRecDepth 1000000 in
theorem rx_tZ37 : rx_is (rx_mRF rx_xZ [((1, []), 2147483686, 2147483688)] 30 25 rx_LZ37 [] rx_wZ37) 30 rx_LZ37 [] rx_wZ37 0 0 = true := by decide +kernel
set_option maxRecDepth 1000000 in
theorem rx_rZ37 : rx_is (rx_mRF rx_xZ [] 25 30 rx_LZ37 [] rx_wZ37) 25 rx_LZ38 [] rx_wZ38 0 0 = true := by decide +kernel
set_option maxRecDepth 1000000 in
theorem rx_eZ38 : rx_isR (rx_mRF rx_xZ [((1, []), 2147483686, 2147483686)] 99999999 25 rx_LZ38 [] rx_wZ38) 0 0 0 = true := by decide +kernel
set_option maxRecDepth 1000000 in
theorem rx_tZ38 : rx_is (rx_mRF rx_xZ [((1, []), 2147483687, 2147483688)] 30 25 rx_LZ38 [] rx_wZ38) 30 rx_LZ38 [] rx_wZ38 0 0 = true := by decide +kernel
set_option maxRecDepth 1000000 in
theorem rx_rZ38 : rx_is (rx_mRF rx_xZ [] 25 30 rx_LZ38 [] rx_wZ38) 25 rx_LZ39 [] rx_wZ39 0 0 = true := by decide +kernel
set_option maxRecDepth 1000000 in
theorem rx_eZ39 : rx_isR (rx_mRF rx_xZ [((1, []), 2147483687, 2147483687)] 99999999 25 rx_LZ39 [] rx_wZ39) 0 0 0 = true := by decide +kernel
set_option maxRecDepth 1000000 in
theorem rx_tZ39 : rx_is (rx_mRF rx_xZ [((1, []), 2147483688, 2147483688)] 30 25 rx_LZ39 [] rx_wZ39) 30 rx_LZ39 [] rx_wZ39 0 0 = true := by decide +kernel
set_option maxRecDepth 1000000 in
theorem rx_rZ39 : rx_is (rx_mRF rx_xZ [] 25 30 rx_LZ39 [] rx_wZ39) 25 rx_LZ40 [] rx_wZ40 0 0 = true := by decide +kernel
set_option maxRecDepth 1000000 in
theorem rx_eZ40 : rx_isR (rx_mRF rx_xZ [((1, []), 2147483688, 2147483688)] 99999999 25 rx_LZ40 [] rx_wZ40) 0 0 0 = true := by decide +kernel
