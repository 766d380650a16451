/-! printed by wip/p32/tables.py -/
set_option maxRecDepth 100000 in
theorem rx_tk80 : (List.range 8).all (fun i => rx_tkn (80 + i)) = true := by decide +kernel
set_option maxRecDepth 100000 in
theorem rx_tk88 : (List.range 8).all (fun i => rx_tkn (88 + i)) = true := by decide +kernel
set_option maxRecDepth 100000 in
theorem rx_tk96 : (List.range 8).all (fun i => rx_tkn (96 + i)) = true := by decide +kernel
set_option maxRecDepth 100000 in
theorem rx_tk104 : (List.range 8).all (fun i => rx_tkn (104 + i)) = true := by decide +kernel
set_option maxRecDepth 100000 in
theorem rx_tk112 : (List.range 8).all (fun i => rx_tkn (112 + i)) = true := by decide +kernel
set_option maxRecDepth 100000 in
theorem rx_tk120 : (List.range 8).all (fun i => rx_tkn (120 + i)) = true := by decide +kernel
set_option maxRecDepth 100000 in
theorem rx_tk128 : (List.range 8).all (fun i => rx_tkn (128 + i)) = true := by decide +kernel
set_option maxRecDepth 100000 in
theorem rx_tk136 : (List.range 8).all (fun i => rx_tkn (136 + i)) = true := by decide +kernel
set_option maxRecDepth 100000 in
theorem rx_tk144 : (List.range 8).all (fun i => rx_tkn (144 + i)) = true := by decide +kernel
set_option maxRecDepth 100000 in
theorem rx_tk152 : (List.range 8).all (fun i => rx_tkn (152 + i)) = true := by decide +kernel
