/-! printed by wip/p1/tables.py -/
set_option maxRecDepth 100000 in
theorem rx_tk150 : (List.range 15).all (fun i => rx_tkn (150 + i)) = true := by decide +kernel
set_option maxRecDepth 100000 in
theorem rx_tk165 : (List.range 13).all (fun i => rx_tkn (165 + i)) = true := by decide +kernel
