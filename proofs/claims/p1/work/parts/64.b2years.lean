/-! printed by wip/p1/heavy.py: runs of years -/
set_option maxRecDepth 1000000 in
theorem rx_eY22 : rx_isR (rx_mRF rx_xY [((1, []), 2147483670, 2147483670)] 99999999 25 rx_LY22 [] rx_wY22) 0 0 0 = true := by decide +kernel
set_option maxRecDepth 1000000 in
theorem rx_tY22 : rx_is (rx_mRF rx_xY [((1, []), 2147483671, 2147483688)] 30 25 rx_LY22 [] rx_wY22) 30 rx_LY22 [] rx_wY22 0 0 = true := by decide +kernel
set_option maxRecDepth 1000000 in
theorem rx_rY22 : rx_is (rx_mRF rx_xY [] 25 30 rx_LY22 [] rx_wY22) 25 rx_LY23 [] rx_wY23 0 0 = true := by decide +kernel
set_option maxRecDepth 1000000 in
theorem rx_eY23 : rx_isR (rx_mRF rx_xY [((1, []), 2147483671, 2147483671)] 99999999 25 rx_LY23 [] rx_wY23) 0 0 0 = true := by decide +kernel
set_option maxRecDepth 1000000 in
theorem rx_tY23 : rx_is (rx_mRF rx_xY [((1, []), 2147483672, 2147483688)] 30 25 rx_LY23 [] rx_wY23) 30 rx_LY23 [] rx_wY23 0 0 = true := by decide +kernel
set_option maxRecDepth 1000000 in
theorem rx_rY23 : rx_is (rx_mRF rx_xY [] 25 30 rx_LY23 [] rx_wY23) 25 rx_LY24 [] rx_wY24 0 0 = true := by decide +kernel
set_option maxRecDepth 1000000 in
theorem rx_eY24 : rx_isR (rx_mRF rx_xY [((1, []), 2147483672, 2147483672)] 99999999 25 rx_LY24 [] rx_wY24) 0 0 0 = true := by decide +kernel
set_option maxRecDepth 1000000 in
theorem rx_tY24 : rx_is (rx_mRF rx_xY [((1, []), 2147483673, 2147483688)] 30 25 rx_LY24 [] rx_wY24) 30 rx_LY24 [] rx_wY24 0 0 = true := by decide +kernel
set_option maxRecDepth 1000000 in
theorem rx_rY24 : rx_is (rx_mRF rx_xY [] 25 30 rx_LY24 [] rx_wY24) 25 rx_LY25 [] rx_wY25 0 0 = true := by decide +kernel
set_option maxRecDepth 1000000 in
theorem rx_eY25 : rx_isR (rx_mRF rx_xY [((1, []), 2147483673, 2147483673)] 99999999 25 rx_LY25 [] rx_wY25) 0 0 0 = true := by decide +kernel
set_option maxRecDepth 1000000 in
theorem rx_tY25 : rx_is (rx_mRF rx_xY [((1, []), 2147483674, 2147483688)] 30 25 rx_LY25 [] rx_wY25) 30 rx_LY25 [] rx_wY25 0 0 = true := by decide +kernel
set_option maxRecDepth 1000000 in
theorem rx_rY25 : rx_is (rx_mRF rx_xY [] 25 30 rx_LY25 [] rx_wY25) 25 rx_LY26 [] rx_wY26 0 0 = true := by decide +kernel
set_option maxRecDepth 1000000 in
theorem rx_eY26 : rx_isR (rx_mRF rx_xY [((1, []), 2147483674, 2147483674)] 99999999 25 rx_LY26 [] rx_wY26) 0 0 0 = true := by decide +kernel
set_option maxRecDepth 1000000 in
theorem rx_tY26 : rx_is (rx_mRF rx_xY [((1, []), 2147483675, 2147483688)] 30 25 rx_LY26 [] rx_wY26) 30 rx_LY26 [] rx_wY26 0 0 = true := by decide +kernel
set_option maxRecDepth 1000000 in
theorem rx_rY26 : rx_is (rx_mRF rx_xY [] 25 30 rx_LY26 [] rx_wY26) 25 rx_LY27 [] rx_wY27 0 0 = true := by decide +kernel
set_option maxRecDepth 1000000 in
theorem rx_eY27 : rx_isR (rx_mRF rx_xY [((1, []), 2147483675, 2147483675)] 99999999 25 rx_LY27 [] rx_wY27) 0 0 0 = true := by decide +kernel
set_option maxRecDepth 1000000 in
theorem rx_tY27 : rx_is (rx_mRF rx_xY [((1, []), 2147483676, 2147483688)] 30 25 rx_LY27 [] rx_wY27) 30 rx_LY27 [] rx_wY27 0 0 = true := by decide +kernel
set_option maxRecDepth 1000000 in
theorem rx_rY27 : rx_is (rx_mRF rx_xY [] 25 30 rx_LY27 [] rx_wY27) 25 rx_LY28 [] rx_wY28 0 0 = true := by decide +kernel
set_option maxRecDepth 1000000 in
theorem rx_eY28 : rx_isR (rx_mRF rx_xY [((1, []), 2147483676, 2147483676)] 99999999 25 rx_LY28 [] rx_wY28) 0 0 0 = true := by decide +kernel
set_option maxRecDepth 1000000 in
theorem rx_tY28 : rx_is (rx_mRF rx_xY [((1, []), 2147483677, 2147483688)] 30 25 rx_LY28 [] rx_wY28) 30 rx_LY28 [] rx_wY28 0 0 = true := by decide +kernel
set_option maxRecDepth 1000000 in
theorem rx_rY28 : rx_is (rx_mRF rx_xY [] 25 30 rx_LY28 [] rx_wY28) 25 rx_LY29 [] rx_wY29 0 0 = true := by decide +kernel
set_option maxRecDepth 1000000 in
theorem rx_eY29 : rx_isR (rx_mRF rx_xY [((1, []), 2147483677, 2147483677)] 99999999 25 rx_LY29 [] rx_wY29) 0 0 0 = true := by decide +kernel
set_option maxRecDepth 1000000 in
theorem rx_tY29 : rx_is (rx_mRF rx_xY [((1, []), 2147483678, 2147483688)] 30 25 rx_LY29 [] rx_wY29) 30 rx_LY29 [] rx_wY29 0 0 = true := by decide +kernel
set_option maxRecDepth 1000000 in
theorem rx_rY29 : rx_is (rx_mRF rx_xY [] 25 30 rx_LY29 [] rx_wY29) 25 rx_LY30 [] rx_wY30 0 0 = true := by decide +kernel
set_option maxRecDepth 1000000 in
theorem rx_eY30 : rx_isR (rx_mRF rx_xY [((1, []), 2147483678, 2147483678)] 99999999 25 rx_LY30 [] rx_wY30) 0 0 0 = true := by decide +kernel
set_option maxRecDepth 1000000 in
theorem rx_tY30 : rx_is (rx_mRF rx_xY [((1, []), 2147483679, 2147483688)] 30 25 rx_LY30 [] rx_wY30) 30 rx_LY30 [] rx_wY30 0 0 = true := by decide +kernel
set_option maxRecDepth 1000000 in
theorem rx_rY30 : rx_is (rx_mRF rx_xY [] 25 30 rx_LY30 [] rx_wY30) 25 rx_LY31 [] rx_wY31 0 0 = true := by decide +kernel
set_option maxRecDepth 1000000 in
theorem rx_eY31 : rx_isR (rx_mRF rx_xY [((1, []), 2147483679, 2147483679)] 99999999 25 rx_LY31 [] rx_wY31) 0 0 0 = true := by decide +kernel
set_option maxRecDepth 1000000 in
theorem rx_tY31 : rx_is (rx_mRF rx_xY [((1, []), 2147483680, 2147483688)] 30 25 rx_LY31 [] rx_wY31) 30 rx_LY31 [] rx_wY31 0 0 = true := by decide +kernel
set_option maxRecDepth 1000000 in
theorem rx_rY31 : rx_is (rx_mRF rx_xY [] 25 30 rx_LY31 [] rx_wY31) 25 rx_LY32 [] rx_wY32 0 0 = true := by decide +kernel
set_option maxRecDepth 1000000 in
theorem rx_eY32 : rx_isR (rx_mRF rx_xY [((1, []), 2147483680, 2147483680)] 99999999 25 rx_LY32 [] rx_wY32) 0 0 0 = true := by decide +kernel
set_option maxRecDepth 1000000 in
theorem rx_tY32 : rx_is (rx_mRF rx_xY [((1, []), 2147483681, 2147483688)] 30 25 rx_LY32 [] rx_wY32) 30 rx_LY32 [] rx_wY32 0 0 = true := by decide +kernel
set_option maxRecDepth 1000000 in
theorem rx_rY32 : rx_is (rx_mRF rx_xY [] 25 30 rx_LY32 [] rx_wY32) 25 rx_LY33 [] rx_wY33 0 0 = true := by decide +kernel
