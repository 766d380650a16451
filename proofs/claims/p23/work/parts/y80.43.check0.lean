/-! printed by wip/p32/tables.py -/
set_option maxRecDepth 100000 in
theorem rx_cg0 : ([(0, 0), (1, 0), (2, 0), (3, 0), (4, 0), (5, 0), (6, 0), (7, 0), (8, 0), (9, 0)] : List (Nat × Nat)).all (fun z => rx_okn z.1 (0 + z.2 * 100) 100) = true := by decide +kernel
set_option maxRecDepth 100000 in
theorem rx_cg1 : ([(10, 0), (10, 1)] : List (Nat × Nat)).all (fun z => rx_okn z.1 (0 + z.2 * 100) 100) = true := by decide +kernel
set_option maxRecDepth 100000 in
theorem rx_cg2 : ([(11, 0), (12, 0)] : List (Nat × Nat)).all (fun z => rx_okn z.1 (0 + z.2 * 100) 100) = true := by decide +kernel
set_option maxRecDepth 100000 in
theorem rx_cg3 : ([(13, 0)] : List (Nat × Nat)).all (fun z => rx_okn z.1 (0 + z.2 * 100) 100) = true := by decide +kernel
set_option maxRecDepth 100000 in
theorem rx_cg4 : ([(14, 0), (14, 1)] : List (Nat × Nat)).all (fun z => rx_okn z.1 (0 + z.2 * 100) 100) = true := by decide +kernel
set_option maxRecDepth 100000 in
theorem rx_cg5 : ([(15, 0), (15, 1), (16, 0)] : List (Nat × Nat)).all (fun z => rx_okn z.1 (0 + z.2 * 100) 100) = true := by decide +kernel
set_option maxRecDepth 100000 in
theorem rx_cg6 : ([(17, 0), (18, 0), (19, 0)] : List (Nat × Nat)).all (fun z => rx_okn z.1 (0 + z.2 * 100) 100) = true := by decide +kernel
set_option maxRecDepth 100000 in
theorem rx_cg7 : ([(20, 0), (21, 0)] : List (Nat × Nat)).all (fun z => rx_okn z.1 (0 + z.2 * 100) 100) = true := by decide +kernel
set_option maxRecDepth 100000 in
theorem rx_cg8 : ([(22, 0), (23, 0), (24, 0), (25, 0)] : List (Nat × Nat)).all (fun z => rx_okn z.1 (0 + z.2 * 100) 100) = true := by decide +kernel
set_option maxRecDepth 100000 in
theorem rx_cg9 : ([(26, 0), (27, 0), (28, 0), (29, 0)] : List (Nat × Nat)).all (fun z => rx_okn z.1 (0 + z.2 * 100) 100) = true := by decide +kernel
set_option maxRecDepth 100000 in
theorem rx_cg10 : ([(30, 0), (31, 0), (32, 0), (33, 0), (34, 0)] : List (Nat × Nat)).all (fun z => rx_okn z.1 (0 + z.2 * 100) 100) = true := by decide +kernel
set_option maxRecDepth 100000 in
theorem rx_cg11 : ([(35, 0)] : List (Nat × Nat)).all (fun z => rx_okn z.1 (0 + z.2 * 100) 100) = true := by decide +kernel
set_option maxRecDepth 100000 in
theorem rx_cg12 : ([(35, 1), (36, 0)] : List (Nat × Nat)).all (fun z => rx_okn z.1 (0 + z.2 * 100) 100) = true := by decide +kernel
set_option maxRecDepth 100000 in
theorem rx_cg13 : ([(37, 0), (38, 0), (39, 0), (40, 0), (41, 0)] : List (Nat × Nat)).all (fun z => rx_okn z.1 (0 + z.2 * 100) 100) = true := by decide +kernel
