/-! printed by wip/p32/tables.py -/
set_option maxRecDepth 100000 in
theorem rx_tk264 : (List.range 8).all (fun i => rx_tkn (264 + i)) = true := by decide +kernel
set_option maxRecDepth 100000 in
theorem rx_tk272 : (List.range 8).all (fun i => rx_tkn (272 + i)) = true := by decide +kernel
set_option maxRecDepth 100000 in
theorem rx_tk280 : (List.range 8).all (fun i => rx_tkn (280 + i)) = true := by decide +kernel
