/-! printed by wip/p32/tables.py -/
set_option maxRecDepth 100000 in
theorem rx_tk160 : (List.range 8).all (fun i => rx_tkn (160 + i)) = true := by decide +kernel
set_option maxRecDepth 100000 in
theorem rx_tk168 : (List.range 8).all (fun i => rx_tkn (168 + i)) = true := by decide +kernel
set_option maxRecDepth 100000 in
theorem rx_tk176 : (List.range 8).all (fun i => rx_tkn (176 + i)) = true := by decide +kernel
