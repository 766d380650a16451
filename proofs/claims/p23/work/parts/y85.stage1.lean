/-! the two constructors -/
set_option maxRecDepth 1000000 in
theorem rx_stage1 : rx_is (rx_lawR [] 0 18 (rx_find rx_mL 0) [(0, .inr (.inr (.inr 0)))] [] [] 0 0) 18 rx_L0 [] rx_w0 221 26609 = true := by decide +kernel
