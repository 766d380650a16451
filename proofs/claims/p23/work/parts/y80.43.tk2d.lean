/-! printed by wip/p32/tables.py -/
set_option maxRecDepth 100000 in
theorem rx_tk232 : (List.range 8).all (fun i => rx_tkn (232 + i)) = true := by decide +kernel
