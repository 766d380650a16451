/-! printed by wip/p32/tables.py -/
set_option maxRecDepth 100000 in
theorem rx_tk240 : (List.range 8).all (fun i => rx_tkn (240 + i)) = true := by decide +kernel
set_option maxRecDepth 100000 in
theorem rx_tk248 : (List.range 8).all (fun i => rx_tkn (248 + i)) = true := by decide +kernel
set_option maxRecDepth 100000 in
theorem rx_tk256 : (List.range 8).all (fun i => rx_tkn (256 + i)) = true := by decide +kernel
