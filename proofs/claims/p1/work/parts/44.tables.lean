/-! printed by wip/p1/tables.py -/
set_option maxRecDepth 100000 in
theorem rx_tk0 : (List.range 30).all (fun i => rx_tkn (0 + i)) = true := by decide +kernel
set_option maxRecDepth 100000 in
theorem rx_tk30 : (List.range 30).all (fun i => rx_tkn (30 + i)) = true := by decide +kernel
set_option maxRecDepth 100000 in
theorem rx_tk60 : (List.range 30).all (fun i => rx_tkn (60 + i)) = true := by decide +kernel
set_option maxRecDepth 100000 in
theorem rx_tk90 : (List.range 30).all (fun i => rx_tkn (90 + i)) = true := by decide +kernel
set_option maxRecDepth 100000 in
theorem rx_tk120 : (List.range 30).all (fun i => rx_tkn (120 + i)) = true := by decide +kernel
set_option maxRecDepth 100000 in
theorem rx_tk150 : (List.range 28).all (fun i => rx_tkn (150 + i)) = true := by decide +kernel
theorem rx_tk_lt : ∀ nu, nu < 178 → rx_tkn nu = true := by
  intro nu h
  have go : ∀ a n : Nat, (List.range n).all (fun i => rx_tkn (a + i)) = true → a ≤ nu → nu < a + n → rx_tkn nu = true := fun a n h1 h2 h3 => by
    have h4 := List.all_eq_true.mp h1 (nu - a) (List.mem_range.mpr (by omega))
    rw [show a + (nu - a) = nu by omega] at h4
    exact h4
  by_cases h0 : nu < 30
  · exact go 0 30 rx_tk0 (by omega) h0
  by_cases h30 : nu < 60
  · exact go 30 30 rx_tk30 (by omega) h30
  by_cases h60 : nu < 90
  · exact go 60 30 rx_tk60 (by omega) h60
  by_cases h90 : nu < 120
  · exact go 90 30 rx_tk90 (by omega) h90
  by_cases h120 : nu < 150
  · exact go 120 30 rx_tk120 (by omega) h120
  by_cases h150 : nu < 178
  · exact go 150 28 rx_tk150 (by omega) h150
  omega
def rx_cgs : List (Nat × Nat) := ([(0, 0), (1, 0), (2, 0), (3, 0), (4, 0), (5, 0), (6, 0), (7, 0), (8, 0), (9, 0)] : List (Nat × Nat)) ++ ([(10, 0), (10, 1)] : List (Nat × Nat)) ++ ([(11, 0), (12, 0)] : List (Nat × Nat)) ++ ([(13, 0)] : List (Nat × Nat)) ++ ([(14, 0), (14, 1)] : List (Nat × Nat)) ++ ([(15, 0), (15, 1), (16, 0)] : List (Nat × Nat)) ++ ([(17, 0), (18, 0), (19, 0)] : List (Nat × Nat)) ++ ([(20, 0), (21, 0)] : List (Nat × Nat)) ++ ([(22, 0), (23, 0), (24, 0), (25, 0)] : List (Nat × Nat)) ++ ([(26, 0), (27, 0), (28, 0), (29, 0)] : List (Nat × Nat)) ++ ([(30, 0), (31, 0), (32, 0), (33, 0), (34, 0)] : List (Nat × Nat)) ++ ([(35, 0)] : List (Nat × Nat)) ++ ([(35, 1), (36, 0)] : List (Nat × Nat)) ++ ([(37, 0), (38, 0), (39, 0), (40, 0), (41, 0)] : List (Nat × Nat)) ++ ([(42, 0), (43, 0), (44, 0), (45, 0)] : List (Nat × Nat)) ++ ([(46, 0), (47, 0)] : List (Nat × Nat)) ++ ([(48, 0), (49, 0)] : List (Nat × Nat)) ++ ([(50, 0), (51, 0), (52, 0), (53, 0), (54, 0), (55, 0), (56, 0), (57, 0), (58, 0), (59, 0)] : List (Nat × Nat)) ++ ([(60, 0), (60, 1), (61, 0)] : List (Nat × Nat)) ++ ([(62, 0), (63, 0), (64, 0)] : List (Nat × Nat)) ++ ([(65, 0), (66, 0), (67, 0), (68, 0), (69, 0), (70, 0), (71, 0)] : List (Nat × Nat)) ++ ([(72, 0), (73, 0), (74, 0), (75, 0), (76, 0)] : List (Nat × Nat)) ++ ([(77, 0), (78, 0), (79, 0)] : List (Nat × Nat)) ++ ([(80, 0), (81, 0), (82, 0), (83, 0), (84, 0), (85, 0), (86, 0)] : List (Nat × Nat)) ++ ([(87, 0), (88, 0), (89, 0), (90, 0)] : List (Nat × Nat)) ++ ([(91, 0), (92, 0), (93, 0), (94, 0)] : List (Nat × Nat)) ++ ([(95, 0), (96, 0)] : List (Nat × Nat)) ++ ([(97, 0), (98, 0), (99, 0), (100, 0)] : List (Nat × Nat)) ++ ([(101, 0), (102, 0), (103, 0)] : List (Nat × Nat)) ++ ([(104, 0)] : List (Nat × Nat)) ++ ([(104, 1)] : List (Nat × Nat)) ++ ([(104, 2), (104, 3), (105, 0)] : List (Nat × Nat)) ++ ([(106, 0), (107, 0), (108, 0), (109, 0)] : List (Nat × Nat)) ++ ([(110, 0), (111, 0)] : List (Nat × Nat)) ++ ([(112, 0), (113, 0)] : List (Nat × Nat)) ++ ([(114, 0), (115, 0)] : List (Nat × Nat)) ++ ([(116, 0), (117, 0)] : List (Nat × Nat)) ++ ([(118, 0), (119, 0), (120, 0), (121, 0)] : List (Nat × Nat)) ++ ([(122, 0), (123, 0), (124, 0), (125, 0)] : List (Nat × Nat)) ++ ([(126, 0), (127, 0), (128, 0), (129, 0)] : List (Nat × Nat)) ++ ([(130, 0), (131, 0)] : List (Nat × Nat)) ++ ([(132, 0), (133, 0)] : List (Nat × Nat)) ++ ([(134, 0), (135, 0), (136, 0), (137, 0)] : List (Nat × Nat)) ++ ([(138, 0), (139, 0), (140, 0)] : List (Nat × Nat)) ++ ([(141, 0), (142, 0)] : List (Nat × Nat)) ++ ([(143, 0), (144, 0), (145, 0)] : List (Nat × Nat)) ++ ([(146, 0), (147, 0), (148, 0)] : List (Nat × Nat)) ++ ([(148, 1), (149, 0)] : List (Nat × Nat)) ++ ([(149, 1)] : List (Nat × Nat)) ++ ([(150, 0), (151, 0), (152, 0)] : List (Nat × Nat)) ++ ([(153, 0), (154, 0), (155, 0), (156, 0), (157, 0)] : List (Nat × Nat)) ++ ([(158, 0), (159, 0), (160, 0)] : List (Nat × Nat)) ++ ([(161, 0), (162, 0), (163, 0)] : List (Nat × Nat)) ++ ([(164, 0), (165, 0)] : List (Nat × Nat)) ++ ([(166, 0), (167, 0), (168, 0), (169, 0), (170, 0)] : List (Nat × Nat)) ++ ([(171, 0), (172, 0)] : List (Nat × Nat)) ++ ([(173, 0), (173, 1)] : List (Nat × Nat)) ++ ([(174, 0), (175, 0)] : List (Nat × Nat)) ++ ([(176, 0), (177, 0)] : List (Nat × Nat)) ++ ([(177, 1), (177, 2)] : List (Nat × Nat))
theorem rx_cg_all : ∀ z ∈ rx_cgs, rx_okn z.1 (0 + z.2 * 100) 100 = true := by
  unfold rx_cgs
  simp only [List.forall_mem_append]
  exact ⟨⟨⟨⟨⟨⟨⟨⟨⟨⟨⟨⟨⟨⟨⟨⟨⟨⟨⟨⟨⟨⟨⟨⟨⟨⟨⟨⟨⟨⟨⟨⟨⟨⟨⟨⟨⟨⟨⟨⟨⟨⟨⟨⟨⟨⟨⟨⟨⟨⟨⟨⟨⟨⟨⟨⟨⟨⟨⟨List.all_eq_true.mp rx_cg0, List.all_eq_true.mp rx_cg1⟩, List.all_eq_true.mp rx_cg2⟩, List.all_eq_true.mp rx_cg3⟩, List.all_eq_true.mp rx_cg4⟩, List.all_eq_true.mp rx_cg5⟩, List.all_eq_true.mp rx_cg6⟩, List.all_eq_true.mp rx_cg7⟩, List.all_eq_true.mp rx_cg8⟩, List.all_eq_true.mp rx_cg9⟩, List.all_eq_true.mp rx_cg10⟩, List.all_eq_true.mp rx_cg11⟩, List.all_eq_true.mp rx_cg12⟩, List.all_eq_true.mp rx_cg13⟩, List.all_eq_true.mp rx_cg14⟩, List.all_eq_true.mp rx_cg15⟩, List.all_eq_true.mp rx_cg16⟩, List.all_eq_true.mp rx_cg17⟩, List.all_eq_true.mp rx_cg18⟩, List.all_eq_true.mp rx_cg19⟩, List.all_eq_true.mp rx_cg20⟩, List.all_eq_true.mp rx_cg21⟩, List.all_eq_true.mp rx_cg22⟩, List.all_eq_true.mp rx_cg23⟩, List.all_eq_true.mp rx_cg24⟩, List.all_eq_true.mp rx_cg25⟩, List.all_eq_true.mp rx_cg26⟩, List.all_eq_true.mp rx_cg27⟩, List.all_eq_true.mp rx_cg28⟩, List.all_eq_true.mp rx_cg29⟩, List.all_eq_true.mp rx_cg30⟩, List.all_eq_true.mp rx_cg31⟩, List.all_eq_true.mp rx_cg32⟩, List.all_eq_true.mp rx_cg33⟩, List.all_eq_true.mp rx_cg34⟩, List.all_eq_true.mp rx_cg35⟩, List.all_eq_true.mp rx_cg36⟩, List.all_eq_true.mp rx_cg37⟩, List.all_eq_true.mp rx_cg38⟩, List.all_eq_true.mp rx_cg39⟩, List.all_eq_true.mp rx_cg40⟩, List.all_eq_true.mp rx_cg41⟩, List.all_eq_true.mp rx_cg42⟩, List.all_eq_true.mp rx_cg43⟩, List.all_eq_true.mp rx_cg44⟩, List.all_eq_true.mp rx_cg45⟩, List.all_eq_true.mp rx_cg46⟩, List.all_eq_true.mp rx_cg47⟩, List.all_eq_true.mp rx_cg48⟩, List.all_eq_true.mp rx_cg49⟩, List.all_eq_true.mp rx_cg50⟩, List.all_eq_true.mp rx_cg51⟩, List.all_eq_true.mp rx_cg52⟩, List.all_eq_true.mp rx_cg53⟩, List.all_eq_true.mp rx_cg54⟩, List.all_eq_true.mp rx_cg55⟩, List.all_eq_true.mp rx_cg56⟩, List.all_eq_true.mp rx_cg57⟩, List.all_eq_true.mp rx_cg58⟩, List.all_eq_true.mp rx_cg59⟩
theorem rx_tb_len : rx_tb.length = 178 := by decide +kernel
theorem rx_mis_len : rx_mis.length = 178 := by decide +kernel
theorem rx_cg_in : (List.range 178).all (fun nu => (List.range (((rx_tb.getD nu rx_x0).1.length + 99) / 100)).all (fun j => decide ((nu, j) ∈ rx_cgs))) = true := by decide +kernel
theorem rx_T_ok : ∀ (nu : Nat) (x : List rx_E × Nat × Nat × Nat × Nat), rx_tb[nu]? = some x → ∃ Y, rx_mis[nu]? = some Y ∧ rx_tOk rx_mis x Y := by
  intro nu x hx
  have hlt : nu < rx_tb.length := (List.getElem?_eq_some_iff.mp hx).1
  have h2 : nu < rx_mis.length := by rw [rx_mis_len]; rw [rx_tb_len] at hlt; exact hlt
  rw [rx_tb_len] at hlt
  refine ⟨rx_mis[nu], List.getElem?_eq_getElem h2, ?_⟩
  have h3 := rx_tk_lt nu hlt
  have h4 := rx_okn_ok (nu := nu) (n := 100) (by decide) (((rx_tb.getD nu rx_x0).1.length + 99) / 100) 0 (by omega) (fun j hj => by
    have h5 := List.all_eq_true.mp (List.all_eq_true.mp rx_cg_in nu (List.mem_range.mpr hlt)) j (List.mem_range.mpr hj)
    exact rx_cg_all _ (of_decide_eq_true h5))
  unfold rx_tkn at h3
  rw [List.drop_zero] at h4
  rw [List.getD_eq_getElem?_getD, hx, List.getD_eq_getElem?_getD, List.getElem?_eq_getElem h2] at h3 h4
  exact rx_tkb_ok h3 h4
