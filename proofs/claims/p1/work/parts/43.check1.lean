/-! printed by wip/p1/tables.py -/
set_option maxRecDepth 100000 in
theorem rx_tk30 : (List.range 15).all (fun i => rx_tkn (30 + i)) = true := by decide +kernel
set_option maxRecDepth 100000 in
theorem rx_tk45 : (List.range 15).all (fun i => rx_tkn (45 + i)) = true := by decide +kernel
