/-! printed by wip/p1/tables.py -/
set_option maxRecDepth 100000 in
theorem rx_tk60 : (List.range 15).all (fun i => rx_tkn (60 + i)) = true := by decide +kernel
set_option maxRecDepth 100000 in
theorem rx_tk75 : (List.range 15).all (fun i => rx_tkn (75 + i)) = true := by decide +kernel
