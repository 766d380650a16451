/-! printed by wip/p32/tables.py -/
theorem rx_tk_lt : ∀ nu, nu < 305 → rx_tkn nu = true := by
  intro nu h
  have go : ∀ a n : Nat, (List.range n).all (fun i => rx_tkn (a + i)) = true → a ≤ nu → nu < a + n → rx_tkn nu = true := fun a n h1 h2 h3 => by
    have h4 := List.all_eq_true.mp h1 (nu - a) (List.mem_range.mpr (by omega))
    rw [show a + (nu - a) = nu by omega] at h4
    exact h4
  by_cases h0 : nu < 8
  · exact go 0 8 rx_tk0 (by omega) h0
  by_cases h8 : nu < 16
  · exact go 8 8 rx_tk8 (by omega) h8
  by_cases h16 : nu < 24
  · exact go 16 8 rx_tk16 (by omega) h16
  by_cases h24 : nu < 32
  · exact go 24 8 rx_tk24 (by omega) h24
  by_cases h32 : nu < 40
  · exact go 32 8 rx_tk32 (by omega) h32
  by_cases h40 : nu < 48
  · exact go 40 8 rx_tk40 (by omega) h40
  by_cases h48 : nu < 56
  · exact go 48 8 rx_tk48 (by omega) h48
  by_cases h56 : nu < 64
  · exact go 56 8 rx_tk56 (by omega) h56
  by_cases h64 : nu < 72
  · exact go 64 8 rx_tk64 (by omega) h64
  by_cases h72 : nu < 80
  · exact go 72 8 rx_tk72 (by omega) h72
  by_cases h80 : nu < 88
  · exact go 80 8 rx_tk80 (by omega) h80
  by_cases h88 : nu < 96
  · exact go 88 8 rx_tk88 (by omega) h88
  by_cases h96 : nu < 104
  · exact go 96 8 rx_tk96 (by omega) h96
  by_cases h104 : nu < 112
  · exact go 104 8 rx_tk104 (by omega) h104
  by_cases h112 : nu < 120
  · exact go 112 8 rx_tk112 (by omega) h112
  by_cases h120 : nu < 128
  · exact go 120 8 rx_tk120 (by omega) h120
  by_cases h128 : nu < 136
  · exact go 128 8 rx_tk128 (by omega) h128
  by_cases h136 : nu < 144
  · exact go 136 8 rx_tk136 (by omega) h136
  by_cases h144 : nu < 152
  · exact go 144 8 rx_tk144 (by omega) h144
  by_cases h152 : nu < 160
  · exact go 152 8 rx_tk152 (by omega) h152
  by_cases h160 : nu < 168
  · exact go 160 8 rx_tk160 (by omega) h160
  by_cases h168 : nu < 176
  · exact go 168 8 rx_tk168 (by omega) h168
  by_cases h176 : nu < 184
  · exact go 176 8 rx_tk176 (by omega) h176
  by_cases h184 : nu < 192
  · exact go 184 8 rx_tk184 (by omega) h184
  by_cases h192 : nu < 200
  · exact go 192 8 rx_tk192 (by omega) h192
  by_cases h200 : nu < 208
  · exact go 200 8 rx_tk200 (by omega) h200
  by_cases h208 : nu < 216
  · exact go 208 8 rx_tk208 (by omega) h208
  by_cases h216 : nu < 224
  · exact go 216 8 rx_tk216 (by omega) h216
  by_cases h224 : nu < 232
  · exact go 224 8 rx_tk224 (by omega) h224
  by_cases h232 : nu < 240
  · exact go 232 8 rx_tk232 (by omega) h232
  by_cases h240 : nu < 248
  · exact go 240 8 rx_tk240 (by omega) h240
  by_cases h248 : nu < 256
  · exact go 248 8 rx_tk248 (by omega) h248
  by_cases h256 : nu < 264
  · exact go 256 8 rx_tk256 (by omega) h256
  by_cases h264 : nu < 272
  · exact go 264 8 rx_tk264 (by omega) h264
  by_cases h272 : nu < 280
  · exact go 272 8 rx_tk272 (by omega) h272
  by_cases h280 : nu < 288
  · exact go 280 8 rx_tk280 (by omega) h280
  by_cases h288 : nu < 296
  · exact go 288 8 rx_tk288 (by omega) h288
  by_cases h296 : nu < 304
  · exact go 296 8 rx_tk296 (by omega) h296
  by_cases h304 : nu < 305
  · exact go 304 1 rx_tk304 (by omega) h304
  omega
def rx_cgs : List (Nat × Nat) := ([(0, 0), (1, 0), (2, 0), (3, 0), (4, 0), (5, 0), (6, 0), (7, 0), (8, 0), (9, 0)] : List (Nat × Nat)) ++ ([(10, 0), (10, 1)] : List (Nat × Nat)) ++ ([(11, 0), (12, 0)] : List (Nat × Nat)) ++ ([(13, 0)] : List (Nat × Nat)) ++ ([(14, 0), (14, 1)] : List (Nat × Nat)) ++ ([(15, 0), (15, 1), (16, 0)] : List (Nat × Nat)) ++ ([(17, 0), (18, 0), (19, 0)] : List (Nat × Nat)) ++ ([(20, 0), (21, 0)] : List (Nat × Nat)) ++ ([(22, 0), (23, 0), (24, 0), (25, 0)] : List (Nat × Nat)) ++ ([(26, 0), (27, 0), (28, 0), (29, 0)] : List (Nat × Nat)) ++ ([(30, 0), (31, 0), (32, 0), (33, 0), (34, 0)] : List (Nat × Nat)) ++ ([(35, 0)] : List (Nat × Nat)) ++ ([(35, 1), (36, 0)] : List (Nat × Nat)) ++ ([(37, 0), (38, 0), (39, 0), (40, 0), (41, 0)] : List (Nat × Nat)) ++ ([(42, 0), (43, 0), (44, 0), (45, 0)] : List (Nat × Nat)) ++ ([(46, 0), (47, 0)] : List (Nat × Nat)) ++ ([(48, 0), (49, 0)] : List (Nat × Nat)) ++ ([(50, 0), (51, 0), (52, 0), (53, 0), (54, 0), (55, 0), (56, 0), (57, 0), (58, 0), (59, 0)] : List (Nat × Nat)) ++ ([(60, 0), (60, 1), (61, 0)] : List (Nat × Nat)) ++ ([(62, 0), (63, 0), (64, 0)] : List (Nat × Nat)) ++ ([(65, 0), (66, 0), (67, 0), (68, 0), (69, 0), (70, 0), (71, 0)] : List (Nat × Nat)) ++ ([(72, 0), (73, 0), (74, 0), (75, 0), (76, 0)] : List (Nat × Nat)) ++ ([(77, 0), (78, 0), (79, 0)] : List (Nat × Nat)) ++ ([(80, 0), (81, 0), (82, 0), (83, 0), (84, 0), (85, 0), (86, 0)] : List (Nat × Nat)) ++ ([(87, 0), (88, 0), (89, 0), (90, 0)] : List (Nat × Nat)) ++ ([(91, 0), (92, 0), (93, 0), (94, 0)] : List (Nat × Nat)) ++ ([(95, 0), (96, 0)] : List (Nat × Nat)) ++ ([(97, 0), (98, 0), (99, 0), (100, 0)] : List (Nat × Nat)) ++ ([(101, 0), (102, 0), (103, 0)] : List (Nat × Nat)) ++ ([(104, 0)] : List (Nat × Nat)) ++ ([(104, 1)] : List (Nat × Nat)) ++ ([(104, 2), (104, 3), (105, 0)] : List (Nat × Nat)) ++ ([(106, 0), (107, 0), (108, 0), (109, 0)] : List (Nat × Nat)) ++ ([(110, 0), (111, 0)] : List (Nat × Nat)) ++ ([(112, 0), (113, 0)] : List (Nat × Nat)) ++ ([(114, 0), (115, 0)] : List (Nat × Nat)) ++ ([(116, 0), (117, 0)] : List (Nat × Nat)) ++ ([(118, 0), (119, 0), (120, 0), (121, 0)] : List (Nat × Nat)) ++ ([(122, 0), (123, 0), (124, 0), (125, 0)] : List (Nat × Nat)) ++ ([(126, 0), (127, 0), (128, 0), (129, 0)] : List (Nat × Nat)) ++ ([(130, 0), (131, 0)] : List (Nat × Nat)) ++ ([(132, 0), (133, 0)] : List (Nat × Nat)) ++ ([(134, 0), (135, 0), (136, 0), (137, 0)] : List (Nat × Nat)) ++ ([(138, 0), (139, 0), (140, 0)] : List (Nat × Nat)) ++ ([(141, 0), (142, 0)] : List (Nat × Nat)) ++ ([(143, 0), (144, 0), (145, 0)] : List (Nat × Nat)) ++ ([(146, 0), (147, 0), (148, 0)] : List (Nat × Nat)) ++ ([(148, 1), (149, 0)] : List (Nat × Nat)) ++ ([(149, 1)] : List (Nat × Nat)) ++ ([(150, 0), (151, 0), (152, 0)] : List (Nat × Nat)) ++ ([(153, 0), (154, 0), (155, 0), (156, 0), (157, 0)] : List (Nat × Nat)) ++ ([(158, 0), (159, 0), (160, 0)] : List (Nat × Nat)) ++ ([(161, 0), (162, 0), (163, 0)] : List (Nat × Nat)) ++ ([(164, 0), (165, 0)] : List (Nat × Nat)) ++ ([(166, 0), (167, 0), (168, 0), (169, 0), (170, 0)] : List (Nat × Nat)) ++ ([(171, 0), (172, 0)] : List (Nat × Nat)) ++ ([(173, 0), (173, 1)] : List (Nat × Nat)) ++ ([(174, 0), (175, 0)] : List (Nat × Nat)) ++ ([(176, 0), (177, 0)] : List (Nat × Nat)) ++ ([(177, 1), (177, 2), (178, 0), (179, 0)] : List (Nat × Nat)) ++ ([(180, 0), (181, 0), (182, 0), (183, 0), (184, 0)] : List (Nat × Nat)) ++ ([(185, 0), (185, 1), (186, 0)] : List (Nat × Nat)) ++ ([(187, 0), (188, 0), (189, 0), (190, 0)] : List (Nat × Nat)) ++ ([(191, 0), (192, 0), (193, 0), (194, 0), (195, 0)] : List (Nat × Nat)) ++ ([(196, 0)] : List (Nat × Nat)) ++ ([(196, 1)] : List (Nat × Nat)) ++ ([(196, 2)] : List (Nat × Nat)) ++ ([(197, 0)] : List (Nat × Nat)) ++ ([(197, 1)] : List (Nat × Nat)) ++ ([(197, 2), (197, 3)] : List (Nat × Nat)) ++ ([(198, 0), (199, 0), (200, 0), (201, 0)] : List (Nat × Nat)) ++ ([(202, 0), (203, 0)] : List (Nat × Nat)) ++ ([(204, 0)] : List (Nat × Nat)) ++ ([(205, 0), (205, 1)] : List (Nat × Nat)) ++ ([(206, 0)] : List (Nat × Nat)) ++ ([(207, 0), (208, 0)] : List (Nat × Nat)) ++ ([(209, 0), (210, 0)] : List (Nat × Nat)) ++ ([(211, 0), (212, 0), (213, 0)] : List (Nat × Nat)) ++ ([(214, 0)] : List (Nat × Nat)) ++ ([(215, 0), (215, 1)] : List (Nat × Nat)) ++ ([(216, 0), (217, 0), (218, 0)] : List (Nat × Nat)) ++ ([(219, 0)] : List (Nat × Nat)) ++ ([(220, 0), (221, 0), (222, 0)] : List (Nat × Nat)) ++ ([(223, 0), (224, 0), (225, 0), (226, 0)] : List (Nat × Nat)) ++ ([(227, 0), (228, 0)] : List (Nat × Nat)) ++ ([(229, 0), (230, 0), (231, 0), (232, 0)] : List (Nat × Nat)) ++ ([(233, 0), (234, 0), (235, 0), (236, 0)] : List (Nat × Nat)) ++ ([(237, 0)] : List (Nat × Nat)) ++ ([(237, 1), (238, 0), (239, 0)] : List (Nat × Nat)) ++ ([(240, 0), (241, 0)] : List (Nat × Nat)) ++ ([(242, 0), (243, 0), (244, 0), (245, 0), (246, 0), (247, 0)] : List (Nat × Nat)) ++ ([(248, 0), (249, 0), (250, 0), (251, 0), (252, 0)] : List (Nat × Nat)) ++ ([(253, 0), (254, 0)] : List (Nat × Nat)) ++ ([(255, 0), (256, 0)] : List (Nat × Nat)) ++ ([(257, 0), (258, 0), (259, 0)] : List (Nat × Nat)) ++ ([(260, 0), (261, 0)] : List (Nat × Nat)) ++ ([(262, 0), (263, 0), (264, 0), (265, 0), (266, 0)] : List (Nat × Nat)) ++ ([(267, 0), (268, 0)] : List (Nat × Nat)) ++ ([(269, 0), (270, 0)] : List (Nat × Nat)) ++ ([(271, 0), (272, 0)] : List (Nat × Nat)) ++ ([(273, 0), (274, 0)] : List (Nat × Nat)) ++ ([(275, 0)] : List (Nat × Nat)) ++ ([(276, 0), (277, 0), (278, 0), (279, 0)] : List (Nat × Nat)) ++ ([(280, 0), (281, 0), (282, 0), (283, 0)] : List (Nat × Nat)) ++ ([(284, 0), (285, 0), (286, 0), (287, 0), (288, 0)] : List (Nat × Nat)) ++ ([(289, 0)] : List (Nat × Nat)) ++ ([(290, 0), (291, 0), (292, 0), (293, 0)] : List (Nat × Nat)) ++ ([(294, 0), (295, 0), (296, 0), (297, 0), (298, 0)] : List (Nat × Nat)) ++ ([(299, 0), (300, 0), (301, 0), (302, 0), (303, 0), (304, 0)] : List (Nat × Nat))
theorem rx_cg_all : ∀ z ∈ rx_cgs, rx_okn z.1 (0 + z.2 * 100) 100 = true := by
  unfold rx_cgs
  simp only [List.forall_mem_append]
  exact ⟨⟨⟨⟨⟨⟨⟨⟨⟨⟨⟨⟨⟨⟨⟨⟨⟨⟨⟨⟨⟨⟨⟨⟨⟨⟨⟨⟨⟨⟨⟨⟨⟨⟨⟨⟨⟨⟨⟨⟨⟨⟨⟨⟨⟨⟨⟨⟨⟨⟨⟨⟨⟨⟨⟨⟨⟨⟨⟨⟨⟨⟨⟨⟨⟨⟨⟨⟨⟨⟨⟨⟨⟨⟨⟨⟨⟨⟨⟨⟨⟨⟨⟨⟨⟨⟨⟨⟨⟨⟨⟨⟨⟨⟨⟨⟨⟨⟨⟨⟨⟨⟨⟨⟨⟨⟨⟨⟨List.all_eq_true.mp rx_cg0, List.all_eq_true.mp rx_cg1⟩, List.all_eq_true.mp rx_cg2⟩, List.all_eq_true.mp rx_cg3⟩, List.all_eq_true.mp rx_cg4⟩, List.all_eq_true.mp rx_cg5⟩, List.all_eq_true.mp rx_cg6⟩, List.all_eq_true.mp rx_cg7⟩, List.all_eq_true.mp rx_cg8⟩, List.all_eq_true.mp rx_cg9⟩, List.all_eq_true.mp rx_cg10⟩, List.all_eq_true.mp rx_cg11⟩, List.all_eq_true.mp rx_cg12⟩, List.all_eq_true.mp rx_cg13⟩, List.all_eq_true.mp rx_cg14⟩, List.all_eq_true.mp rx_cg15⟩, List.all_eq_true.mp rx_cg16⟩, List.all_eq_true.mp rx_cg17⟩, List.all_eq_true.mp rx_cg18⟩, List.all_eq_true.mp rx_cg19⟩, List.all_eq_true.mp rx_cg20⟩, List.all_eq_true.mp rx_cg21⟩, List.all_eq_true.mp rx_cg22⟩, List.all_eq_true.mp rx_cg23⟩, List.all_eq_true.mp rx_cg24⟩, List.all_eq_true.mp rx_cg25⟩, List.all_eq_true.mp rx_cg26⟩, List.all_eq_true.mp rx_cg27⟩, List.all_eq_true.mp rx_cg28⟩, List.all_eq_true.mp rx_cg29⟩, List.all_eq_true.mp rx_cg30⟩, List.all_eq_true.mp rx_cg31⟩, List.all_eq_true.mp rx_cg32⟩, List.all_eq_true.mp rx_cg33⟩, List.all_eq_true.mp rx_cg34⟩, List.all_eq_true.mp rx_cg35⟩, List.all_eq_true.mp rx_cg36⟩, List.all_eq_true.mp rx_cg37⟩, List.all_eq_true.mp rx_cg38⟩, List.all_eq_true.mp rx_cg39⟩, List.all_eq_true.mp rx_cg40⟩, List.all_eq_true.mp rx_cg41⟩, List.all_eq_true.mp rx_cg42⟩, List.all_eq_true.mp rx_cg43⟩, List.all_eq_true.mp rx_cg44⟩, List.all_eq_true.mp rx_cg45⟩, List.all_eq_true.mp rx_cg46⟩, List.all_eq_true.mp rx_cg47⟩, List.all_eq_true.mp rx_cg48⟩, List.all_eq_true.mp rx_cg49⟩, List.all_eq_true.mp rx_cg50⟩, List.all_eq_true.mp rx_cg51⟩, List.all_eq_true.mp rx_cg52⟩, List.all_eq_true.mp rx_cg53⟩, List.all_eq_true.mp rx_cg54⟩, List.all_eq_true.mp rx_cg55⟩, List.all_eq_true.mp rx_cg56⟩, List.all_eq_true.mp rx_cg57⟩, List.all_eq_true.mp rx_cg58⟩, List.all_eq_true.mp rx_cg59⟩, List.all_eq_true.mp rx_cg60⟩, List.all_eq_true.mp rx_cg61⟩, List.all_eq_true.mp rx_cg62⟩, List.all_eq_true.mp rx_cg63⟩, List.all_eq_true.mp rx_cg64⟩, List.all_eq_true.mp rx_cg65⟩, List.all_eq_true.mp rx_cg66⟩, List.all_eq_true.mp rx_cg67⟩, List.all_eq_true.mp rx_cg68⟩, List.all_eq_true.mp rx_cg69⟩, List.all_eq_true.mp rx_cg70⟩, List.all_eq_true.mp rx_cg71⟩, List.all_eq_true.mp rx_cg72⟩, List.all_eq_true.mp rx_cg73⟩, List.all_eq_true.mp rx_cg74⟩, List.all_eq_true.mp rx_cg75⟩, List.all_eq_true.mp rx_cg76⟩, List.all_eq_true.mp rx_cg77⟩, List.all_eq_true.mp rx_cg78⟩, List.all_eq_true.mp rx_cg79⟩, List.all_eq_true.mp rx_cg80⟩, List.all_eq_true.mp rx_cg81⟩, List.all_eq_true.mp rx_cg82⟩, List.all_eq_true.mp rx_cg83⟩, List.all_eq_true.mp rx_cg84⟩, List.all_eq_true.mp rx_cg85⟩, List.all_eq_true.mp rx_cg86⟩, List.all_eq_true.mp rx_cg87⟩, List.all_eq_true.mp rx_cg88⟩, List.all_eq_true.mp rx_cg89⟩, List.all_eq_true.mp rx_cg90⟩, List.all_eq_true.mp rx_cg91⟩, List.all_eq_true.mp rx_cg92⟩, List.all_eq_true.mp rx_cg93⟩, List.all_eq_true.mp rx_cg94⟩, List.all_eq_true.mp rx_cg95⟩, List.all_eq_true.mp rx_cg96⟩, List.all_eq_true.mp rx_cg97⟩, List.all_eq_true.mp rx_cg98⟩, List.all_eq_true.mp rx_cg99⟩, List.all_eq_true.mp rx_cg100⟩, List.all_eq_true.mp rx_cg101⟩, List.all_eq_true.mp rx_cg102⟩, List.all_eq_true.mp rx_cg103⟩, List.all_eq_true.mp rx_cg104⟩, List.all_eq_true.mp rx_cg105⟩, List.all_eq_true.mp rx_cg106⟩, List.all_eq_true.mp rx_cg107⟩, List.all_eq_true.mp rx_cg108⟩
theorem rx_tb_len : rx_tb.length = 305 := by decide +kernel
theorem rx_mis_len : rx_mis.length = 305 := by decide +kernel
theorem rx_cg_in : (List.range 305).all (fun nu => (List.range (((rx_tb.getD nu rx_x0).1.length + 99) / 100)).all (fun j => decide ((nu, j) ∈ rx_cgs))) = true := by decide +kernel
theorem rx_alln {E : Type} {f : E → Bool} {xs : List E} {n : Nat} (hn : 0 < n) : ∀ (k a : Nat), xs.length ≤ a + k * n → (∀ j, j < k → ((xs.drop (a + j * n)).take n).all f = true) → (xs.drop a).all f = true := by
  intro k
  induction k with
  | zero =>
    intro a hl _
    rw [List.drop_eq_nil_of_le (by omega)]
    rfl
  | succ k ih =>
    intro a hl hj
    have h1 := hj 0 (by omega)
    have h2 := ih (a + n) (by rw [Nat.succ_mul] at hl; omega) (fun j hjk => by
      have h3 := hj (j + 1) (by omega)
      rw [Nat.succ_mul, show a + (j * n + n) = a + n + j * n by omega] at h3
      exact h3)
    rw [Nat.zero_mul, Nat.add_zero] at h1
    rw [← List.take_append_drop n (xs.drop a), List.all_append, List.drop_drop, h2, h1]
    rfl
theorem rx_T_of {tb : rx_T} {mi : List rx_Y} {cps : List Nat} {N : Nat} (htl : tb.length = N) (hml : mi.length = N) (hk : ∀ nu, nu < N → rx_tkb (tb.getD nu rx_x0) (mi.getD nu rx_y0) (cps.getD nu 0) = true)
    (hg : ∀ nu j, nu < N → j < ((tb.getD nu rx_x0).1.length + 99) / 100 → (((tb.getD nu rx_x0).1.drop (0 + j * 100)).take 100).all (rx_okb mi (mi.getD nu rx_y0).1.cls (mi.getD nu rx_y0).1.name (mi.getD nu rx_y0).2.1) = true) : ∀ (nu : Nat) (x : List rx_E × Nat × Nat × Nat × Nat), tb[nu]? = some x → ∃ Y, mi[nu]? = some Y ∧ rx_tOk mi x Y := by
  intro nu x hx
  have hlt : nu < tb.length := (List.getElem?_eq_some_iff.mp hx).1
  have h2 : nu < mi.length := by rw [hml]; rw [htl] at hlt; exact hlt
  rw [htl] at hlt
  refine ⟨mi[nu], List.getElem?_eq_getElem h2, ?_⟩
  have h3 := hk nu hlt
  have h4 := rx_alln (n := 100) (by decide) (((tb.getD nu rx_x0).1.length + 99) / 100) 0 (by omega) (fun j hj => hg nu j hlt hj)
  rw [List.drop_zero] at h4
  have e1 : tb.getD nu rx_x0 = x := by rw [List.getD_eq_getElem?_getD, hx]; rfl
  have e2 : mi.getD nu rx_y0 = mi[nu] := by rw [List.getD_eq_getElem?_getD, List.getElem?_eq_getElem h2]; rfl
  rw [e1, e2] at h3 h4
  exact rx_tkb_ok h3 h4
theorem rx_cg_lt : ∀ nu j, nu < 305 → j < ((rx_tb.getD nu rx_x0).1.length + 99) / 100 → rx_okn nu (0 + j * 100) 100 = true := fun nu j h1 h2 =>
  rx_cg_all (nu, j) (of_decide_eq_true (List.all_eq_true.mp (List.all_eq_true.mp rx_cg_in nu (List.mem_range.mpr h1)) j (List.mem_range.mpr h2)))
theorem rx_T_ok : ∀ (nu : Nat) (x : List rx_E × Nat × Nat × Nat × Nat), rx_tb[nu]? = some x → ∃ Y, rx_mis[nu]? = some Y ∧ rx_tOk rx_mis x Y := rx_T_of rx_tb_len rx_mis_len rx_tk_lt rx_cg_lt
