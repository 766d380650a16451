/-! printed by wip/p32/tables.py -/
set_option maxRecDepth 100000 in
theorem rx_tk0 : (List.range 8).all (fun i => rx_tkn (0 + i)) = true := by decide +kernel
set_option maxRecDepth 100000 in
theorem rx_tk8 : (List.range 8).all (fun i => rx_tkn (8 + i)) = true := by decide +kernel
set_option maxRecDepth 100000 in
theorem rx_tk16 : (List.range 8).all (fun i => rx_tkn (16 + i)) = true := by decide +kernel
set_option maxRecDepth 100000 in
theorem rx_tk24 : (List.range 8).all (fun i => rx_tkn (24 + i)) = true := by decide +kernel
set_option maxRecDepth 100000 in
theorem rx_tk32 : (List.range 8).all (fun i => rx_tkn (32 + i)) = true := by decide +kernel
set_option maxRecDepth 100000 in
theorem rx_tk40 : (List.range 8).all (fun i => rx_tkn (40 + i)) = true := by decide +kernel
set_option maxRecDepth 100000 in
theorem rx_tk48 : (List.range 8).all (fun i => rx_tkn (48 + i)) = true := by decide +kernel
set_option maxRecDepth 100000 in
theorem rx_tk56 : (List.range 8).all (fun i => rx_tkn (56 + i)) = true := by decide +kernel
set_option maxRecDepth 100000 in
theorem rx_tk64 : (List.range 8).all (fun i => rx_tkn (64 + i)) = true := by decide +kernel
set_option maxRecDepth 100000 in
theorem rx_tk72 : (List.range 8).all (fun i => rx_tkn (72 + i)) = true := by decide +kernel
