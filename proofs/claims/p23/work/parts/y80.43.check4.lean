/-! printed by wip/p32/tables.py -/
set_option maxRecDepth 100000 in
theorem rx_cg56 : ([(173, 0), (173, 1)] : List (Nat × Nat)).all (fun z => rx_okn z.1 (0 + z.2 * 100) 100) = true := by decide +kernel
set_option maxRecDepth 100000 in
theorem rx_cg57 : ([(174, 0), (175, 0)] : List (Nat × Nat)).all (fun z => rx_okn z.1 (0 + z.2 * 100) 100) = true := by decide +kernel
set_option maxRecDepth 100000 in
theorem rx_cg58 : ([(176, 0), (177, 0)] : List (Nat × Nat)).all (fun z => rx_okn z.1 (0 + z.2 * 100) 100) = true := by decide +kernel
set_option maxRecDepth 100000 in
theorem rx_cg59 : ([(177, 1), (177, 2), (178, 0), (179, 0)] : List (Nat × Nat)).all (fun z => rx_okn z.1 (0 + z.2 * 100) 100) = true := by decide +kernel
set_option maxRecDepth 100000 in
theorem rx_cg60 : ([(180, 0), (181, 0), (182, 0), (183, 0), (184, 0)] : List (Nat × Nat)).all (fun z => rx_okn z.1 (0 + z.2 * 100) 100) = true := by decide +kernel
set_option maxRecDepth 100000 in
theorem rx_cg61 : ([(185, 0), (185, 1), (186, 0)] : List (Nat × Nat)).all (fun z => rx_okn z.1 (0 + z.2 * 100) 100) = true := by decide +kernel
set_option maxRecDepth 100000 in
theorem rx_cg62 : ([(187, 0), (188, 0), (189, 0), (190, 0)] : List (Nat × Nat)).all (fun z => rx_okn z.1 (0 + z.2 * 100) 100) = true := by decide +kernel
set_option maxRecDepth 100000 in
theorem rx_cg63 : ([(191, 0), (192, 0), (193, 0), (194, 0), (195, 0)] : List (Nat × Nat)).all (fun z => rx_okn z.1 (0 + z.2 * 100) 100) = true := by decide +kernel
set_option maxRecDepth 100000 in
theorem rx_cg64 : ([(196, 0)] : List (Nat × Nat)).all (fun z => rx_okn z.1 (0 + z.2 * 100) 100) = true := by decide +kernel
set_option maxRecDepth 100000 in
theorem rx_cg65 : ([(196, 1)] : List (Nat × Nat)).all (fun z => rx_okn z.1 (0 + z.2 * 100) 100) = true := by decide +kernel
set_option maxRecDepth 100000 in
theorem rx_cg66 : ([(196, 2)] : List (Nat × Nat)).all (fun z => rx_okn z.1 (0 + z.2 * 100) 100) = true := by decide +kernel
set_option maxRecDepth 100000 in
theorem rx_cg67 : ([(197, 0)] : List (Nat × Nat)).all (fun z => rx_okn z.1 (0 + z.2 * 100) 100) = true := by decide +kernel
set_option maxRecDepth 100000 in
theorem rx_cg68 : ([(197, 1)] : List (Nat × Nat)).all (fun z => rx_okn z.1 (0 + z.2 * 100) 100) = true := by decide +kernel
set_option maxRecDepth 100000 in
theorem rx_cg69 : ([(197, 2), (197, 3)] : List (Nat × Nat)).all (fun z => rx_okn z.1 (0 + z.2 * 100) 100) = true := by decide +kernel
