/-! printed by wip/p32/tables.py -/
set_option maxRecDepth 100000 in
theorem rx_tk184 : (List.range 8).all (fun i => rx_tkn (184 + i)) = true := by decide +kernel
set_option maxRecDepth 100000 in
theorem rx_tk200 : (List.range 8).all (fun i => rx_tkn (200 + i)) = true := by decide +kernel
