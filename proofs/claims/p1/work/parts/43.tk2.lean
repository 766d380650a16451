/-! printed by wip/p1/tables.py -/
set_option maxRecDepth 100000 in
theorem rx_tk96 : (List.range 8).all (fun i => rx_tkn (96 + i)) = true := by decide +kernel
set_option maxRecDepth 100000 in
theorem rx_tk104 : (List.range 8).all (fun i => rx_tkn (104 + i)) = true := by decide +kernel
set_option maxRecDepth 100000 in
theorem rx_tk112 : (List.range 8).all (fun i => rx_tkn (112 + i)) = true := by decide +kernel
set_option maxRecDepth 100000 in
theorem rx_tk120 : (List.range 8).all (fun i => rx_tkn (120 + i)) = true := by decide +kernel
set_option maxRecDepth 100000 in
theorem rx_tk128 : (List.range 8).all (fun i => rx_tkn (128 + i)) = true := by decide +kernel
set_option maxRecDepth 100000 in
theorem rx_tk136 : (List.range 8).all (fun i => rx_tkn (136 + i)) = true := by decide +kernel
