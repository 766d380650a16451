/-! printed by wip/p1/tables.py -/
set_option maxRecDepth 100000 in
theorem rx_cg24 : ([(87, 0), (88, 0), (89, 0), (90, 0)] : List (Nat × Nat)).all (fun z => rx_okn z.1 (0 + z.2 * 100) 100) = true := by decide +kernel
set_option maxRecDepth 100000 in
theorem rx_cg25 : ([(91, 0), (92, 0), (93, 0), (94, 0)] : List (Nat × Nat)).all (fun z => rx_okn z.1 (0 + z.2 * 100) 100) = true := by decide +kernel
set_option maxRecDepth 100000 in
theorem rx_cg26 : ([(95, 0), (96, 0)] : List (Nat × Nat)).all (fun z => rx_okn z.1 (0 + z.2 * 100) 100) = true := by decide +kernel
set_option maxRecDepth 100000 in
theorem rx_cg27 : ([(97, 0), (98, 0), (99, 0), (100, 0)] : List (Nat × Nat)).all (fun z => rx_okn z.1 (0 + z.2 * 100) 100) = true := by decide +kernel
set_option maxRecDepth 100000 in
theorem rx_cg28 : ([(101, 0), (102, 0), (103, 0)] : List (Nat × Nat)).all (fun z => rx_okn z.1 (0 + z.2 * 100) 100) = true := by decide +kernel
set_option maxRecDepth 100000 in
theorem rx_cg29 : ([(104, 0)] : List (Nat × Nat)).all (fun z => rx_okn z.1 (0 + z.2 * 100) 100) = true := by decide +kernel
set_option maxRecDepth 100000 in
theorem rx_cg30 : ([(104, 1)] : List (Nat × Nat)).all (fun z => rx_okn z.1 (0 + z.2 * 100) 100) = true := by decide +kernel
set_option maxRecDepth 100000 in
theorem rx_cg31 : ([(104, 2), (104, 3), (105, 0)] : List (Nat × Nat)).all (fun z => rx_okn z.1 (0 + z.2 * 100) 100) = true := by decide +kernel
