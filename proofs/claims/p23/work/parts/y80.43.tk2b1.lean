/-! printed by wip/p32/tables.py, then parted by hand -/
set_option maxRecDepth 100000 in
theorem rx_tk192_0 : rx_tkn 192 = true := by decide +kernel
set_option maxRecDepth 100000 in
theorem rx_tk192_1 : rx_tkn 193 = true := by decide +kernel
set_option maxRecDepth 100000 in
theorem rx_tk192_2 : rx_tkn 194 = true := by decide +kernel
set_option maxRecDepth 100000 in
theorem rx_tk192_3 : rx_tkn 195 = true := by decide +kernel
set_option maxRecDepth 100000 in
theorem rx_tk192_6 : rx_tkn 198 = true := by decide +kernel
set_option maxRecDepth 100000 in
theorem rx_tk192_7 : rx_tkn 199 = true := by decide +kernel
