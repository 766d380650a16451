/-! printed by wip/p32/tables.py -/
set_option maxRecDepth 100000 in
theorem rx_cg84 : ([(227, 0), (228, 0)] : List (Nat × Nat)).all (fun z => rx_okn z.1 (0 + z.2 * 100) 100) = true := by decide +kernel
set_option maxRecDepth 100000 in
theorem rx_cg85 : ([(229, 0), (230, 0), (231, 0), (232, 0)] : List (Nat × Nat)).all (fun z => rx_okn z.1 (0 + z.2 * 100) 100) = true := by decide +kernel
set_option maxRecDepth 100000 in
theorem rx_cg86 : ([(233, 0), (234, 0), (235, 0), (236, 0)] : List (Nat × Nat)).all (fun z => rx_okn z.1 (0 + z.2 * 100) 100) = true := by decide +kernel
set_option maxRecDepth 100000 in
theorem rx_cg87 : ([(237, 0)] : List (Nat × Nat)).all (fun z => rx_okn z.1 (0 + z.2 * 100) 100) = true := by decide +kernel
set_option maxRecDepth 100000 in
theorem rx_cg88 : ([(237, 1), (238, 0), (239, 0)] : List (Nat × Nat)).all (fun z => rx_okn z.1 (0 + z.2 * 100) 100) = true := by decide +kernel
set_option maxRecDepth 100000 in
theorem rx_cg89 : ([(240, 0), (241, 0)] : List (Nat × Nat)).all (fun z => rx_okn z.1 (0 + z.2 * 100) 100) = true := by decide +kernel
set_option maxRecDepth 100000 in
theorem rx_cg90 : ([(242, 0), (243, 0), (244, 0), (245, 0), (246, 0), (247, 0)] : List (Nat × Nat)).all (fun z => rx_okn z.1 (0 + z.2 * 100) 100) = true := by decide +kernel
set_option maxRecDepth 100000 in
theorem rx_cg91 : ([(248, 0), (249, 0), (250, 0), (251, 0), (252, 0)] : List (Nat × Nat)).all (fun z => rx_okn z.1 (0 + z.2 * 100) 100) = true := by decide +kernel
set_option maxRecDepth 100000 in
theorem rx_cg92 : ([(253, 0), (254, 0)] : List (Nat × Nat)).all (fun z => rx_okn z.1 (0 + z.2 * 100) 100) = true := by decide +kernel
set_option maxRecDepth 100000 in
theorem rx_cg93 : ([(255, 0), (256, 0)] : List (Nat × Nat)).all (fun z => rx_okn z.1 (0 + z.2 * 100) 100) = true := by decide +kernel
set_option maxRecDepth 100000 in
theorem rx_cg94 : ([(257, 0), (258, 0), (259, 0)] : List (Nat × Nat)).all (fun z => rx_okn z.1 (0 + z.2 * 100) 100) = true := by decide +kernel
set_option maxRecDepth 100000 in
theorem rx_cg95 : ([(260, 0), (261, 0)] : List (Nat × Nat)).all (fun z => rx_okn z.1 (0 + z.2 * 100) 100) = true := by decide +kernel
set_option maxRecDepth 100000 in
theorem rx_cg96 : ([(262, 0), (263, 0), (264, 0), (265, 0), (266, 0)] : List (Nat × Nat)).all (fun z => rx_okn z.1 (0 + z.2 * 100) 100) = true := by decide +kernel
set_option maxRecDepth 100000 in
theorem rx_cg97 : ([(267, 0), (268, 0)] : List (Nat × Nat)).all (fun z => rx_okn z.1 (0 + z.2 * 100) 100) = true := by decide +kernel
