/-! printed by wip/p1/heavy.py: runs of years -/
set_option maxRecDepth 1000000 in
theorem rx_eY11 : rx_isR (rx_mRF rx_xY [((1, []), 2147483659, 2147483659)] 99999999 25 rx_LY11 [] rx_wY11) 0 0 0 = true := by decide +kernel
set_option maxRecDepth 1000000 in
theorem rx_tY11 : rx_is (rx_mRF rx_xY [((1, []), 2147483660, 2147483688)] 30 25 rx_LY11 [] rx_wY11) 30 rx_LY11 [] rx_wY11 0 0 = true := by decide +kernel
set_option maxRecDepth 1000000 in
theorem rx_rY11 : rx_is (rx_mRF rx_xY [] 25 30 rx_LY11 [] rx_wY11) 25 rx_LY12 [] rx_wY12 0 0 = true := by decide +kernel
set_option maxRecDepth 1000000 in
theorem rx_eY12 : rx_isR (rx_mRF rx_xY [((1, []), 2147483660, 2147483660)] 99999999 25 rx_LY12 [] rx_wY12) 0 0 0 = true := by decide +kernel
set_option maxRecDepth 1000000 in
theorem rx_tY12 : rx_is (rx_mRF rx_xY [((1, []), 2147483661, 2147483688)] 30 25 rx_LY12 [] rx_wY12) 30 rx_LY12 [] rx_wY12 0 0 = true := by decide +kernel
set_option maxRecDepth 1000000 in
theorem rx_rY12 : rx_is (rx_mRF rx_xY [] 25 30 rx_LY12 [] rx_wY12) 25 rx_LY13 [] rx_wY13 0 0 = true := by decide +kernel
set_option maxRecDepth 1000000 in
theorem rx_eY13 : rx_isR (rx_mRF rx_xY [((1, []), 2147483661, 2147483661)] 99999999 25 rx_LY13 [] rx_wY13) 0 0 0 = true := by decide +kernel
set_option maxRecDepth 1000000 in
theorem rx_tY13 : rx_is (rx_mRF rx_xY [((1, []), 2147483662, 2147483688)] 30 25 rx_LY13 [] rx_wY13) 30 rx_LY13 [] rx_wY13 0 0 = true := by decide +kernel
set_option maxRecDepth 1000000 in
theorem rx_rY13 : rx_is (rx_mRF rx_xY [] 25 30 rx_LY13 [] rx_wY13) 25 rx_LY14 [] rx_wY14 0 0 = true := by decide +kernel
set_option maxRecDepth 1000000 in
theorem rx_eY14 : rx_isR (rx_mRF rx_xY [((1, []), 2147483662, 2147483662)] 99999999 25 rx_LY14 [] rx_wY14) 0 0 0 = true := by decide +kernel
set_option maxRecDepth 1000000 in
theorem rx_tY14 : rx_is (rx_mRF rx_xY [((1, []), 2147483663, 2147483688)] 30 25 rx_LY14 [] rx_wY14) 30 rx_LY14 [] rx_wY14 0 0 = true := by decide +kernel
set_option maxRecDepth 1000000 in
theorem rx_rY14 : rx_is (rx_mRF rx_xY [] 25 30 rx_LY14 [] rx_wY14) 25 rx_LY15 [] rx_wY15 0 0 = true := by decide +kernel
set_option maxRecDepth 1000000 in
theorem rx_eY15 : rx_isR (rx_mRF rx_xY [((1, []), 2147483663, 2147483663)] 99999999 25 rx_LY15 [] rx_wY15) 0 0 0 = true := by decide +kernel
set_option maxRecDepth 1000000 in
theorem rx_tY15 : rx_is (rx_mRF rx_xY [((1, []), 2147483664, 2147483688)] 30 25 rx_LY15 [] rx_wY15) 30 rx_LY15 [] rx_wY15 0 0 = true := by decide +kernel
set_option maxRecDepth 1000000 in
theorem rx_rY15 : rx_is (rx_mRF rx_xY [] 25 30 rx_LY15 [] rx_wY15) 25 rx_LY16 [] rx_wY16 0 0 = true := by decide +kernel
set_option maxRecDepth 1000000 in
theorem rx_eY16 : rx_isR (rx_mRF rx_xY [((1, []), 2147483664, 2147483664)] 99999999 25 rx_LY16 [] rx_wY16) 0 0 0 = true := by decide +kernel
set_option maxRecDepth 1000000 in
theorem rx_tY16 : rx_is (rx_mRF rx_xY [((1, []), 2147483665, 2147483688)] 30 25 rx_LY16 [] rx_wY16) 30 rx_LY16 [] rx_wY16 0 0 = true := by decide +kernel
set_option maxRecDepth 1000000 in
theorem rx_rY16 : rx_is (rx_mRF rx_xY [] 25 30 rx_LY16 [] rx_wY16) 25 rx_LY17 [] rx_wY17 0 0 = true := by decide +kernel
set_option maxRecDepth 1000000 in
theorem rx_eY17 : rx_isR (rx_mRF rx_xY [((1, []), 2147483665, 2147483665)] 99999999 25 rx_LY17 [] rx_wY17) 0 0 0 = true := by decide +kernel
set_option maxRecDepth 1000000 in
theorem rx_tY17 : rx_is (rx_mRF rx_xY [((1, []), 2147483666, 2147483688)] 30 25 rx_LY17 [] rx_wY17) 30 rx_LY17 [] rx_wY17 0 0 = true := by decide +kernel
set_option maxRecDepth 1000000 in
theorem rx_rY17 : rx_is (rx_mRF rx_xY [] 25 30 rx_LY17 [] rx_wY17) 25 rx_LY18 [] rx_wY18 0 0 = true := by decide +kernel
set_option maxRecDepth 1000000 in
theorem rx_eY18 : rx_isR (rx_mRF rx_xY [((1, []), 2147483666, 2147483666)] 99999999 25 rx_LY18 [] rx_wY18) 0 0 0 = true := by decide +kernel
set_option maxRecDepth 1000000 in
theorem rx_tY18 : rx_is (rx_mRF rx_xY [((1, []), 2147483667, 2147483688)] 30 25 rx_LY18 [] rx_wY18) 30 rx_LY18 [] rx_wY18 0 0 = true := by decide +kernel
set_option maxRecDepth 1000000 in
theorem rx_rY18 : rx_is (rx_mRF rx_xY [] 25 30 rx_LY18 [] rx_wY18) 25 rx_LY19 [] rx_wY19 0 0 = true := by decide +kernel
set_option maxRecDepth 1000000 in
theorem rx_eY19 : rx_isR (rx_mRF rx_xY [((1, []), 2147483667, 2147483667)] 99999999 25 rx_LY19 [] rx_wY19) 0 0 0 = true := by decide +kernel
set_option maxRecDepth 1000000 in
theorem rx_tY19 : rx_is (rx_mRF rx_xY [((1, []), 2147483668, 2147483688)] 30 25 rx_LY19 [] rx_wY19) 30 rx_LY19 [] rx_wY19 0 0 = true := by decide +kernel
set_option maxRecDepth 1000000 in
theorem rx_rY19 : rx_is (rx_mRF rx_xY [] 25 30 rx_LY19 [] rx_wY19) 25 rx_LY20 [] rx_wY20 0 0 = true := by decide +kernel
set_option maxRecDepth 1000000 in
theorem rx_eY20 : rx_isR (rx_mRF rx_xY [((1, []), 2147483668, 2147483668)] 99999999 25 rx_LY20 [] rx_wY20) 0 0 0 = true := by decide +kernel
set_option maxRecDepth 1000000 in
theorem rx_tY20 : rx_is (rx_mRF rx_xY [((1, []), 2147483669, 2147483688)] 30 25 rx_LY20 [] rx_wY20) 30 rx_LY20 [] rx_wY20 0 0 = true := by decide +kernel
set_option maxRecDepth 1000000 in
theorem rx_rY20 : rx_is (rx_mRF rx_xY [] 25 30 rx_LY20 [] rx_wY20) 25 rx_LY21 [] rx_wY21 0 0 = true := by decide +kernel
set_option maxRecDepth 1000000 in
theorem rx_eY21 : rx_isR (rx_mRF rx_xY [((1, []), 2147483669, 2147483669)] 99999999 25 rx_LY21 [] rx_wY21) 0 0 0 = true := by decide +kernel
set_option maxRecDepth 1000000 in
theorem rx_tY21 : rx_is (rx_mRF rx_xY [((1, []), 2147483670, 2147483688)] 30 25 rx_LY21 [] rx_wY21) 30 rx_LY21 [] rx_wY21 0 0 = true := by decide +kernel
set_option maxRecDepth 1000000 in
theorem rx_rY21 : rx_is (rx_mRF rx_xY [] 25 30 rx_LY21 [] rx_wY21) 25 rx_LY22 [] rx_wY22 0 0 = true := by decide +kernel
