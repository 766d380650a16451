/-! printed by wip/p32/tables.py -/
set_option maxRecDepth 100000 in
theorem rx_cg14 : ([(42, 0), (43, 0), (44, 0), (45, 0)] : List (Nat × Nat)).all (fun z => rx_okn z.1 (0 + z.2 * 100) 100) = true := by decide +kernel
set_option maxRecDepth 100000 in
theorem rx_cg15 : ([(46, 0), (47, 0)] : List (Nat × Nat)).all (fun z => rx_okn z.1 (0 + z.2 * 100) 100) = true := by decide +kernel
set_option maxRecDepth 100000 in
theorem rx_cg16 : ([(48, 0), (49, 0)] : List (Nat × Nat)).all (fun z => rx_okn z.1 (0 + z.2 * 100) 100) = true := by decide +kernel
set_option maxRecDepth 100000 in
theorem rx_cg17 : ([(50, 0), (51, 0), (52, 0), (53, 0), (54, 0), (55, 0), (56, 0), (57, 0), (58, 0), (59, 0)] : List (Nat × Nat)).all (fun z => rx_okn z.1 (0 + z.2 * 100) 100) = true := by decide +kernel
set_option maxRecDepth 100000 in
theorem rx_cg18 : ([(60, 0), (60, 1), (61, 0)] : List (Nat × Nat)).all (fun z => rx_okn z.1 (0 + z.2 * 100) 100) = true := by decide +kernel
set_option maxRecDepth 100000 in
theorem rx_cg19 : ([(62, 0), (63, 0), (64, 0)] : List (Nat × Nat)).all (fun z => rx_okn z.1 (0 + z.2 * 100) 100) = true := by decide +kernel
set_option maxRecDepth 100000 in
theorem rx_cg20 : ([(65, 0), (66, 0), (67, 0), (68, 0), (69, 0), (70, 0), (71, 0)] : List (Nat × Nat)).all (fun z => rx_okn z.1 (0 + z.2 * 100) 100) = true := by decide +kernel
set_option maxRecDepth 100000 in
theorem rx_cg21 : ([(72, 0), (73, 0), (74, 0), (75, 0), (76, 0)] : List (Nat × Nat)).all (fun z => rx_okn z.1 (0 + z.2 * 100) 100) = true := by decide +kernel
set_option maxRecDepth 100000 in
theorem rx_cg22 : ([(77, 0), (78, 0), (79, 0)] : List (Nat × Nat)).all (fun z => rx_okn z.1 (0 + z.2 * 100) 100) = true := by decide +kernel
set_option maxRecDepth 100000 in
theorem rx_cg23 : ([(80, 0), (81, 0), (82, 0), (83, 0), (84, 0), (85, 0), (86, 0)] : List (Nat × Nat)).all (fun z => rx_okn z.1 (0 + z.2 * 100) 100) = true := by decide +kernel
set_option maxRecDepth 100000 in
theorem rx_cg24 : ([(87, 0), (88, 0), (89, 0), (90, 0)] : List (Nat × Nat)).all (fun z => rx_okn z.1 (0 + z.2 * 100) 100) = true := by decide +kernel
set_option maxRecDepth 100000 in
theorem rx_cg25 : ([(91, 0), (92, 0), (93, 0), (94, 0)] : List (Nat × Nat)).all (fun z => rx_okn z.1 (0 + z.2 * 100) 100) = true := by decide +kernel
set_option maxRecDepth 100000 in
theorem rx_cg26 : ([(95, 0), (96, 0)] : List (Nat × Nat)).all (fun z => rx_okn z.1 (0 + z.2 * 100) 100) = true := by decide +kernel
set_option maxRecDepth 100000 in
theorem rx_cg27 : ([(97, 0), (98, 0), (99, 0), (100, 0)] : List (Nat × Nat)).all (fun z => rx_okn z.1 (0 + z.2 * 100) 100) = true := by decide +kernel
