/-! printed by wip/p32/tables.py -/
set_option maxRecDepth 100000 in
theorem rx_tk208 : (List.range 8).all (fun i => rx_tkn (208 + i)) = true := by decide +kernel
set_option maxRecDepth 100000 in
theorem rx_tk216 : (List.range 8).all (fun i => rx_tkn (216 + i)) = true := by decide +kernel
set_option maxRecDepth 100000 in
theorem rx_tk224 : (List.range 8).all (fun i => rx_tkn (224 + i)) = true := by decide +kernel
