/-! printed by wip/p1/tables.py -/
set_option maxRecDepth 100000 in
theorem rx_tk90 : (List.range 15).all (fun i => rx_tkn (90 + i)) = true := by decide +kernel
set_option maxRecDepth 100000 in
theorem rx_tk105 : (List.range 15).all (fun i => rx_tkn (105 + i)) = true := by decide +kernel
