/-! printed by wip/p1/tables.py -/
set_option maxRecDepth 100000 in
theorem rx_tk0 : (List.range 15).all (fun i => rx_tkn (0 + i)) = true := by decide +kernel
set_option maxRecDepth 100000 in
theorem rx_tk15 : (List.range 15).all (fun i => rx_tkn (15 + i)) = true := by decide +kernel
