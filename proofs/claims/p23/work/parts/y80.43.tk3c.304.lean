/-! printed by wip/p32/tables.py, one row a part (memory) -/
set_option maxRecDepth 100000 in
theorem rx_tk304 : (List.range 1).all (fun i => rx_tkn (304 + i)) = true := by decide +kernel
