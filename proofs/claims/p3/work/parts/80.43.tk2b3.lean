/-! printed by wip/p32/tables.py, then parted by hand -/
set_option maxRecDepth 100000 in
theorem rx_tk192_5 : rx_tkn 197 = true := by decide +kernel
