/-! printed by wip/p32/tables.py, one row a part (memory) -/
set_option maxRecDepth 100000 in
theorem rx_tk184 : (List.range 8).all (fun i => rx_tkn (184 + i)) = true := by decide +kernel
