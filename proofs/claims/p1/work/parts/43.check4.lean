/-! printed by wip/p1/tables.py -/
set_option maxRecDepth 100000 in
theorem rx_tk120 : (List.range 15).all (fun i => rx_tkn (120 + i)) = true := by decide +kernel
set_option maxRecDepth 100000 in
theorem rx_tk135 : (List.range 15).all (fun i => rx_tkn (135 + i)) = true := by decide +kernel
