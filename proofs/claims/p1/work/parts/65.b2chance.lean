/-! printed by wip/p1/heavy.py: runs of chance -/
set_option maxRecDepth 1000000 in
theorem rx_eZ22 : rx_isR (rx_mRF rx_xZ [((1, []), 2147483670, 2147483670)] 99999999 25 rx_LZ22 [] rx_wZ22) 0 0 0 = true := by decide +kernel
set_option maxRecDepth 1000000 in
theorem rx_tZ22 : rx_is (rx_mRF rx_xZ [((1, []), 2147483671, 2147483688)] 30 25 rx_LZ22 [] rx_wZ22) 30 rx_LZ22 [] rx_wZ22 0 0 = true := by decide +kernel
set_option maxRecDepth 1000000 in
theorem rx_rZ22 : rx_is (rx_mRF rx_xZ [] 25 30 rx_LZ22 [] rx_wZ22) 25 rx_LZ23 [] rx_wZ23 0 0 = true := by decide +kernel
set_option maxRecDepth 1000000 in
theorem rx_eZ23 : rx_isR (rx_mRF rx_xZ [((1, []), 2147483671, 2147483671)] 99999999 25 rx_LZ23 [] rx_wZ23) 0 0 0 = true := by decide +kernel
set_option maxRecDepth 1000000 in
theorem rx_tZ23 : rx_is (rx_mRF rx_xZ [((1, []), 2147483672, 2147483688)] 30 25 rx_LZ23 [] rx_wZ23) 30 rx_LZ23 [] rx_wZ23 0 0 = true := by decide +kernel
set_option maxRecDepth 1000000 in
theorem rx_rZ23 : rx_is (rx_mRF rx_xZ [] 25 30 rx_LZ23 [] rx_wZ23) 25 rx_LZ24 [] rx_wZ24 0 0 = true := by decide +kernel
set_option maxRecDepth 1000000 in
theorem rx_eZ24 : rx_isR (rx_mRF rx_xZ [((1, []), 2147483672, 2147483672)] 99999999 25 rx_LZ24 [] rx_wZ24) 0 0 0 = true := by decide +kernel
set_option maxRecDepth 1000000 in
theorem rx_tZ24 : rx_is (rx_mRF rx_xZ [((1, []), 2147483673, 2147483688)] 30 25 rx_LZ24 [] rx_wZ24) 30 rx_LZ24 [] rx_wZ24 0 0 = true := by decide +kernel
set_option maxRecDepth 1000000 in
theorem rx_rZ24 : rx_is (rx_mRF rx_xZ [] 25 30 rx_LZ24 [] rx_wZ24) 25 rx_LZ25 [] rx_wZ25 0 0 = true := by decide +kernel
set_option maxRecDepth 1000000 in
theorem rx_eZ25 : rx_isR (rx_mRF rx_xZ [((1, []), 2147483673, 2147483673)] 99999999 25 rx_LZ25 [] rx_wZ25) 0 0 0 = true := by decide +kernel
set_option maxRecDepth 1000000 in
theorem rx_tZ25 : rx_is (rx_mRF rx_xZ [((1, []), 2147483674, 2147483688)] 30 25 rx_LZ25 [] rx_wZ25) 30 rx_LZ25 [] rx_wZ25 0 0 = true := by decide +kernel
set_option maxRecDepth 1000000 in
theorem rx_rZ25 : rx_is (rx_mRF rx_xZ [] 25 30 rx_LZ25 [] rx_wZ25) 25 rx_LZ26 [] rx_wZ26 0 0 = true := by decide +kernel
set_option maxRecDepth 1000000 in
theorem rx_eZ26 : rx_isR (rx_mRF rx_xZ [((1, []), 2147483674, 2147483674)] 99999999 25 rx_LZ26 [] rx_wZ26) 0 0 0 = true := by decide +kernel
set_option maxRecDepth 1000000 in
theorem rx_tZ26 : rx_is (rx_mRF rx_xZ [((1, []), 2147483675, 2147483688)] 30 25 rx_LZ26 [] rx_wZ26) 30 rx_LZ26 [] rx_wZ26 0 0 = true := by decide +kernel
set_option maxRecDepth 1000000 in
theorem rx_rZ26 : rx_is (rx_mRF rx_xZ [] 25 30 rx_LZ26 [] rx_wZ26) 25 rx_LZ27 [] rx_wZ27 0 0 = true := by decide +kernel
set_option maxRecDepth 1000000 in
theorem rx_eZ27 : rx_isR (rx_mRF rx_xZ [((1, []), 2147483675, 2147483675)] 99999999 25 rx_LZ27 [] rx_wZ27) 0 0 0 = true := by decide +kernel
set_option maxRecDepth 1000000 in
theorem rx_tZ27 : rx_is (rx_mRF rx_xZ [((1, []), 2147483676, 2147483688)] 30 25 rx_LZ27 [] rx_wZ27) 30 rx_LZ27 [] rx_wZ27 0 0 = true := by decide +kernel
set_option maxRecDepth 1000000 in
theorem rx_rZ27 : rx_is (rx_mRF rx_xZ [] 25 30 rx_LZ27 [] rx_wZ27) 25 rx_LZ28 [] rx_wZ28 0 0 = true := by decide +kernel
set_option maxRecDepth 1000000 in
theorem rx_eZ28 : rx_isR (rx_mRF rx_xZ [((1, []), 2147483676, 2147483676)] 99999999 25 rx_LZ28 [] rx_wZ28) 0 0 0 = true := by decide +kernel
set_option maxRecDepth 1000000 in
theorem rx_tZ28 : rx_is (rx_mRF rx_xZ [((1, []), 2147483677, 2147483688)] 30 25 rx_LZ28 [] rx_wZ28) 30 rx_LZ28 [] rx_wZ28 0 0 = true := by decide +kernel
set_option maxRecDepth 1000000 in
theorem rx_rZ28 : rx_is (rx_mRF rx_xZ [] 25 30 rx_LZ28 [] rx_wZ28) 25 rx_LZ29 [] rx_wZ29 0 0 = true := by decide +kernel
set_option maxRecDepth 1000000 in
theorem rx_eZ29 : rx_isR (rx_mRF rx_xZ [((1, []), 2147483677, 2147483677)] 99999999 25 rx_LZ29 [] rx_wZ29) 0 0 0 = true := by decide +kernel
set_option maxRecDepth 1000000 in
theorem rx_tZ29 : rx_is (rx_mRF rx_xZ [((1, []), 2147483678, 2147483688)] 30 25 rx_LZ29 [] rx_wZ29) 30 rx_LZ29 [] rx_wZ29 0 0 = true := by decide +kernel
set_option maxRecDepth 1000000 in
theorem rx_rZ29 : rx_is (rx_mRF rx_xZ [] 25 30 rx_LZ29 [] rx_wZ29) 25 rx_LZ30 [] rx_wZ30 0 0 = true := by decide +kernel
set_option maxRecDepth 1000000 in
theorem rx_eZ30 : rx_isR (rx_mRF rx_xZ [((1, []), 2147483678, 2147483678)] 99999999 25 rx_LZ30 [] rx_wZ30) 0 0 0 = true := by decide +kernel
set_option maxRecDepth 1000000 in
theorem rx_tZ30 : rx_is (rx_mRF rx_xZ [((1, []), 2147483679, 2147483688)] 30 25 rx_LZ30 [] rx_wZ30) 30 rx_LZ30 [] rx_wZ30 0 0 = true := by decide +kernel
set_option maxRecDepth 1000000 in
theorem rx_rZ30 : rx_is (rx_mRF rx_xZ [] 25 30 rx_LZ30 [] rx_wZ30) 25 rx_LZ31 [] rx_wZ31 0 0 = true := by decide +kernel
set_option maxRecDepth 1000000 in
theorem rx_eZ31 : rx_isR (rx_mRF rx_xZ [((1, []), 2147483679, 2147483679)] 99999999 25 rx_LZ31 [] rx_wZ31) 0 0 0 = true := by decide +kernel
set_option maxRecDepth 1000000 in
theorem rx_tZ31 : rx_is (rx_mRF rx_xZ [((1, []), 2147483680, 2147483688)] 30 25 rx_LZ31 [] rx_wZ31) 30 rx_LZ31 [] rx_wZ31 0 0 = true := by decide +kernel
set_option maxRecDepth 1000000 in
theorem rx_rZ31 : rx_is (rx_mRF rx_xZ [] 25 30 rx_LZ31 [] rx_wZ31) 25 rx_LZ32 [] rx_wZ32 0 0 = true := by decide +kernel
set_option maxRecDepth 1000000 in
theorem rx_eZ32 : rx_isR (rx_mRF rx_xZ [((1, []), 2147483680, 2147483680)] 99999999 25 rx_LZ32 [] rx_wZ32) 0 0 0 = true := by decide +kernel
set_option maxRecDepth 1000000 in
theorem rx_tZ32 : rx_is (rx_mRF rx_xZ [((1, []), 2147483681, 2147483688)] 30 25 rx_LZ32 [] rx_wZ32) 30 rx_LZ32 [] rx_wZ32 0 0 = true := by decide +kernel
set_option maxRecDepth 1000000 in
theorem rx_rZ32 : rx_is (rx_mRF rx_xZ [] 25 30 rx_LZ32 [] rx_wZ32) 25 rx_LZ33 [] rx_wZ33 0 0 = true := by decide +kernel
