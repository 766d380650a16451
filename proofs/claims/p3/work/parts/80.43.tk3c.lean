/-! printed by wip/p32/tables.py -/
set_option maxRecDepth 100000 in
theorem rx_tk288 : (List.range 8).all (fun i => rx_tkn (288 + i)) = true := by decide +kernel
set_option maxRecDepth 100000 in
theorem rx_tk296 : (List.range 8).all (fun i => rx_tkn (296 + i)) = true := by decide +kernel
set_option maxRecDepth 100000 in
theorem rx_tk304 : (List.range 1).all (fun i => rx_tkn (304 + i)) = true := by decide +kernel
