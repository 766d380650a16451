/-! printed by wip/p1/tables.py -/
set_option maxRecDepth 100000 in
theorem rx_tk48 : (List.range 8).all (fun i => rx_tkn (48 + i)) = true := by decide +kernel
set_option maxRecDepth 100000 in
theorem rx_tk56 : (List.range 8).all (fun i => rx_tkn (56 + i)) = true := by decide +kernel
set_option maxRecDepth 100000 in
theorem rx_tk64 : (List.range 8).all (fun i => rx_tkn (64 + i)) = true := by decide +kernel
set_option maxRecDepth 100000 in
theorem rx_tk72 : (List.range 8).all (fun i => rx_tkn (72 + i)) = true := by decide +kernel
set_option maxRecDepth 100000 in
theorem rx_tk80 : (List.range 8).all (fun i => rx_tkn (80 + i)) = true := by decide +kernel
set_option maxRecDepth 100000 in
theorem rx_tk88 : (List.range 8).all (fun i => rx_tkn (88 + i)) = true := by decide +kernel
