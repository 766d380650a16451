/-! printed by wip/p32/chk.py: the class, method by method -/
/-- GreyRoute.teach: 643 steps -/
def zu_26g : List aSg := []
set_option maxRecDepth 100000 in
theorem zu_26_ok : ains zSh zgt zit rx_tb 3000 120 zu_26 zu_26g = true := by decide +kernel
/-- GreyRoute.forget: 49 steps -/
def zu_27g : List aSg := []
set_option maxRecDepth 100000 in
theorem zu_27_ok : ains zSh zgt zit rx_tb 3000 165 zu_27 zu_27g = true := by decide +kernel
/-- GreyRoute.undo: 25 steps -/
def zu_28g : List aSg := []
set_option maxRecDepth 100000 in
theorem zu_28_ok : ains zSh zgt zit rx_tb 3000 167 zu_28 zu_28g = true := by decide +kernel
/-- GreyRoute.seed: 21 steps -/
def zu_29g : List aSg := []
set_option maxRecDepth 100000 in
theorem zu_29_ok : ains zSh zgt zit rx_tb 3000 121 zu_29 zu_29g = true := by decide +kernel
/-- GreyRoute.kept: 119 steps -/
def zu_30g : List aSg := []
set_option maxRecDepth 100000 in
theorem zu_30_ok : ains zSh zgt zit rx_tb 3000 122 zu_30 zu_30g = true := by decide +kernel
/-- GreyRoute.image: 47 steps -/
def zu_31g : List aSg := []
set_option maxRecDepth 100000 in
theorem zu_31_ok : ains zSh zgt zit rx_tb 3000 170 zu_31 zu_31g = true := by decide +kernel
/-- GreyRoute.octet: 25 steps -/
def zu_32g : List aSg := []
set_option maxRecDepth 100000 in
theorem zu_32_ok : ains zSh zgt zit rx_tb 3000 123 zu_32 zu_32g = true := by decide +kernel
/-- GreyRoute.status: 17 steps -/
def zu_33g : List aSg := []
set_option maxRecDepth 100000 in
theorem zu_33_ok : ains zSh zgt zit rx_tb 3000 57 zu_33 zu_33g = true := by decide +kernel
/-- GreyRoute$Reader.read: 156 steps -/
def zu_34g : List aSg := [(31, [(0, .inr (.inr 148)), (2, .inl (.ofNat 0, .ofNat 80))], [], [.inl 3969, .inr (.inl 2, true, .ofNat 80)])]
set_option maxRecDepth 100000 in
theorem zu_34_ok : ains zSh zgt zit rx_tb 3000 141 zu_34 zu_34g = true := by decide +kernel
/-- GreyRoute$Reader.read: 156 steps -/
def zu_35g : List aSg := [(31, [(0, .inr (.inr 148)), (2, .inl (.ofNat 0, .ofNat 80))], [], [.inl 3969, .inr (.inl 2, true, .ofNat 80)])]
set_option maxRecDepth 100000 in
theorem zu_35_ok : ains zSh zgt zit rx_tb 3000 141 zu_35 zu_35g = true := by decide +kernel
/-- java/lang/Integer.bitCount: 42 steps -/
def zu_36g : List aSg := []
set_option maxRecDepth 100000 in
theorem zu_36_ok : ains zSh zgt zit rx_tb 3000 124 zu_36 zu_36g = true := by decide +kernel
/-- GreyRoute$Ways.measure: 96 steps -/
def zu_37g : List aSg := [(11, [(0, .inr (.inr 164)), (1, .inr (.inr 122)), (2, .inl (.negSucc 2147483647, .ofNat 2147483647)), (3, .inl (.ofNat 0, .ofNat 14))], [], [.inl 3989, .inr (.inl 3, true, .ofNat 14)]), (107, [(0, .inr (.inr 164)), (1, .inr (.inr 122)), (3, .inl (.ofNat 0, .ofNat 8))], [], [.inl 3893, .inr (.inl 3, true, .ofNat 8)]), (133, [(0, .inr (.inr 164)), (1, .inr (.inr 122)), (3, .inl (.ofNat 0, .ofNat 8))], [], [.inl 3867, .inr (.inl 3, true, .ofNat 8)])]
set_option maxRecDepth 100000 in
theorem zu_37_ok : ains zSh zgt zit rx_tb 3000 289 zu_37 zu_37g = true := by decide +kernel
/-- GreyRoute$Ways.measure: 96 steps -/
def zu_38g : List aSg := [(11, [(0, .inr (.inr 164)), (1, .inr (.inr 135)), (2, .inl (.negSucc 2147483647, .ofNat 2147483647)), (3, .inl (.ofNat 0, .ofNat 14))], [], [.inl 3989, .inr (.inl 3, true, .ofNat 14)]), (107, [(0, .inr (.inr 164)), (1, .inr (.inr 135)), (3, .inl (.ofNat 0, .ofNat 8))], [], [.inl 3893, .inr (.inl 3, true, .ofNat 8)]), (133, [(0, .inr (.inr 164)), (1, .inr (.inr 135)), (3, .inl (.ofNat 0, .ofNat 8))], [], [.inl 3867, .inr (.inl 3, true, .ofNat 8)])]
set_option maxRecDepth 100000 in
theorem zu_38_ok : ains zSh zgt zit rx_tb 3000 289 zu_38 zu_38g = true := by decide +kernel
/-- GreyRoute.goThisYear: 24 steps -/
def zu_39g : List aSg := []
set_option maxRecDepth 100000 in
theorem zu_39_ok : ains zSh zgt zit rx_tb 3000 45 zu_39 zu_39g = true := by decide +kernel
/-- GreyRoute$Pageant.comesBy: 12 steps -/
def zu_40g : List aSg := []
set_option maxRecDepth 100000 in
theorem zu_40_ok : ains zSh zgt zit rx_tb 3000 231 zu_40 zu_40g = true := by decide +kernel
/-- GreyRoute$Pageant.comesBy: 12 steps -/
def zu_41g : List aSg := []
set_option maxRecDepth 100000 in
theorem zu_41_ok : ains zSh zgt zit rx_tb 3000 231 zu_41 zu_41g = true := by decide +kernel
/-- GreyRoute$Pageant.begin: 10 steps -/
def zu_42g : List aSg := []
set_option maxRecDepth 100000 in
theorem zu_42_ok : ains zSh zgt zit rx_tb 3000 42 zu_42 zu_42g = true := by decide +kernel
/-- GreyRoute$Pageant.begin: 10 steps -/
def zu_43g : List aSg := []
set_option maxRecDepth 100000 in
theorem zu_43_ok : ains zSh zgt zit rx_tb 3000 42 zu_43 zu_43g = true := by decide +kernel
/-- GreyRoute$Half.countRoutes: 69 steps -/
def zu_44g : List aSg := [(10, [(0, .inr (.inr 115)), (1, .inr (.inr 122)), (2, .inl (.ofNat 1, .ofNat 1)), (3, .inl (.negSucc 0, .ofNat 0))], [], [.inl 3990, .inr (.inl 3, false, .negSucc 0)]), (17, [(0, .inr (.inr 115)), (1, .inr (.inr 122)), (2, .inl (.ofNat 1, .ofNat 1)), (3, .inl (.ofNat 0, .ofNat 0)), (4, .inl (.ofNat 0, .ofNat 8))], [], [.inl 3990, .inr (.inl 3, false, .negSucc 0), .inl 3983, .inr (.inl 4, true, .ofNat 8)])]
set_option maxRecDepth 100000 in
theorem zu_44_ok : ains zSh zgt zit rx_tb 3000 25 zu_44 zu_44g = true := by decide +kernel
/-- GreyRoute$Half.countRoutes: 115 steps -/
def zu_45g : List aSg := [(10, [(0, .inr (.inr 115)), (1, .inr (.inr 122)), (2, .inl (.ofNat 2, .ofNat 2)), (3, .inl (.negSucc 0, .ofNat 1))], [], [.inl 3990, .inr (.inl 3, false, .negSucc 0)]), (17, [(0, .inr (.inr 115)), (1, .inr (.inr 122)), (2, .inl (.ofNat 2, .ofNat 2)), (3, .inl (.ofNat 0, .ofNat 1)), (4, .inl (.ofNat 0, .ofNat 8))], [], [.inl 3990, .inr (.inl 3, false, .negSucc 0), .inl 3983, .inr (.inl 4, true, .ofNat 8)])]
set_option maxRecDepth 100000 in
theorem zu_45_ok : ains zSh zgt zit rx_tb 3000 25 zu_45 zu_45g = true := by decide +kernel
/-- GreyRoute$Half.countRoutes: 115 steps -/
def zu_46g : List aSg := [(10, [(0, .inr (.inr 115)), (1, .inr (.inr 122)), (2, .inl (.ofNat 3, .ofNat 3)), (3, .inl (.negSucc 0, .ofNat 2))], [], [.inl 3990, .inr (.inl 3, false, .negSucc 0)]), (17, [(0, .inr (.inr 115)), (1, .inr (.inr 122)), (2, .inl (.ofNat 3, .ofNat 3)), (3, .inl (.ofNat 0, .ofNat 2)), (4, .inl (.ofNat 0, .ofNat 8))], [], [.inl 3990, .inr (.inl 3, false, .negSucc 0), .inl 3983, .inr (.inl 4, true, .ofNat 8)])]
set_option maxRecDepth 100000 in
theorem zu_46_ok : ains zSh zgt zit rx_tb 3000 25 zu_46 zu_46g = true := by decide +kernel
/-- GreyRoute$Half.countRoutes: 115 steps -/
def zu_47g : List aSg := [(10, [(0, .inr (.inr 115)), (1, .inr (.inr 122)), (2, .inl (.ofNat 4, .ofNat 4)), (3, .inl (.negSucc 0, .ofNat 3))], [], [.inl 3990, .inr (.inl 3, false, .negSucc 0)]), (17, [(0, .inr (.inr 115)), (1, .inr (.inr 122)), (2, .inl (.ofNat 4, .ofNat 4)), (3, .inl (.ofNat 0, .ofNat 3)), (4, .inl (.ofNat 0, .ofNat 8))], [], [.inl 3990, .inr (.inl 3, false, .negSucc 0), .inl 3983, .inr (.inl 4, true, .ofNat 8)])]
set_option maxRecDepth 100000 in
theorem zu_47_ok : ains zSh zgt zit rx_tb 3000 25 zu_47 zu_47g = true := by decide +kernel
/-- GreyRoute$Half.countRoutes: 115 steps -/
def zu_48g : List aSg := [(10, [(0, .inr (.inr 115)), (1, .inr (.inr 122)), (2, .inl (.ofNat 5, .ofNat 5)), (3, .inl (.negSucc 0, .ofNat 4))], [], [.inl 3990, .inr (.inl 3, false, .negSucc 0)]), (17, [(0, .inr (.inr 115)), (1, .inr (.inr 122)), (2, .inl (.ofNat 5, .ofNat 5)), (3, .inl (.ofNat 0, .ofNat 4)), (4, .inl (.ofNat 0, .ofNat 8))], [], [.inl 3990, .inr (.inl 3, false, .negSucc 0), .inl 3983, .inr (.inl 4, true, .ofNat 8)])]
set_option maxRecDepth 100000 in
theorem zu_48_ok : ains zSh zgt zit rx_tb 3000 25 zu_48 zu_48g = true := by decide +kernel
/-- GreyRoute$Half.countRoutes: 115 steps -/
def zu_49g : List aSg := [(10, [(0, .inr (.inr 115)), (1, .inr (.inr 122)), (2, .inl (.ofNat 6, .ofNat 6)), (3, .inl (.negSucc 0, .ofNat 5))], [], [.inl 3990, .inr (.inl 3, false, .negSucc 0)]), (17, [(0, .inr (.inr 115)), (1, .inr (.inr 122)), (2, .inl (.ofNat 6, .ofNat 6)), (3, .inl (.ofNat 0, .ofNat 5)), (4, .inl (.ofNat 0, .ofNat 8))], [], [.inl 3990, .inr (.inl 3, false, .negSucc 0), .inl 3983, .inr (.inl 4, true, .ofNat 8)])]
set_option maxRecDepth 100000 in
theorem zu_49_ok : ains zSh zgt zit rx_tb 3000 25 zu_49 zu_49g = true := by decide +kernel
/-- GreyRoute$Half.countRoutes: 115 steps -/
def zu_50g : List aSg := [(10, [(0, .inr (.inr 115)), (1, .inr (.inr 122)), (2, .inl (.ofNat 7, .ofNat 7)), (3, .inl (.negSucc 0, .ofNat 6))], [], [.inl 3990, .inr (.inl 3, false, .negSucc 0)]), (17, [(0, .inr (.inr 115)), (1, .inr (.inr 122)), (2, .inl (.ofNat 7, .ofNat 7)), (3, .inl (.ofNat 0, .ofNat 6)), (4, .inl (.ofNat 0, .ofNat 8))], [], [.inl 3990, .inr (.inl 3, false, .negSucc 0), .inl 3983, .inr (.inl 4, true, .ofNat 8)])]
set_option maxRecDepth 100000 in
theorem zu_50_ok : ains zSh zgt zit rx_tb 3000 25 zu_50 zu_50g = true := by decide +kernel
/-- GreyRoute$Half.countRoutes: 115 steps -/
def zu_51g : List aSg := [(10, [(0, .inr (.inr 115)), (1, .inr (.inr 122)), (2, .inl (.ofNat 8, .ofNat 8)), (3, .inl (.negSucc 0, .ofNat 7))], [], [.inl 3990, .inr (.inl 3, false, .negSucc 0)]), (17, [(0, .inr (.inr 115)), (1, .inr (.inr 122)), (2, .inl (.ofNat 8, .ofNat 8)), (3, .inl (.ofNat 0, .ofNat 7)), (4, .inl (.ofNat 0, .ofNat 8))], [], [.inl 3990, .inr (.inl 3, false, .negSucc 0), .inl 3983, .inr (.inl 4, true, .ofNat 8)])]
set_option maxRecDepth 100000 in
theorem zu_51_ok : ains zSh zgt zit rx_tb 3000 25 zu_51 zu_51g = true := by decide +kernel
/-- GreyRoute$Half.countRoutes: 115 steps -/
def zu_52g : List aSg := [(10, [(0, .inr (.inr 115)), (1, .inr (.inr 122)), (2, .inl (.ofNat 9, .ofNat 9)), (3, .inl (.negSucc 0, .ofNat 8))], [], [.inl 3990, .inr (.inl 3, false, .negSucc 0)]), (17, [(0, .inr (.inr 115)), (1, .inr (.inr 122)), (2, .inl (.ofNat 9, .ofNat 9)), (3, .inl (.ofNat 0, .ofNat 8)), (4, .inl (.ofNat 0, .ofNat 8))], [], [.inl 3990, .inr (.inl 3, false, .negSucc 0), .inl 3983, .inr (.inl 4, true, .ofNat 8)])]
set_option maxRecDepth 100000 in
theorem zu_52_ok : ains zSh zgt zit rx_tb 3000 25 zu_52 zu_52g = true := by decide +kernel
/-- GreyRoute$Half.countRoutes: 115 steps -/
def zu_53g : List aSg := [(10, [(0, .inr (.inr 115)), (1, .inr (.inr 122)), (2, .inl (.ofNat 10, .ofNat 10)), (3, .inl (.negSucc 0, .ofNat 9))], [], [.inl 3990, .inr (.inl 3, false, .negSucc 0)]), (17, [(0, .inr (.inr 115)), (1, .inr (.inr 122)), (2, .inl (.ofNat 10, .ofNat 10)), (3, .inl (.ofNat 0, .ofNat 9)), (4, .inl (.ofNat 0, .ofNat 8))], [], [.inl 3990, .inr (.inl 3, false, .negSucc 0), .inl 3983, .inr (.inl 4, true, .ofNat 8)])]
set_option maxRecDepth 100000 in
theorem zu_53_ok : ains zSh zgt zit rx_tb 3000 25 zu_53 zu_53g = true := by decide +kernel
/-- GreyRoute$Half.countRoutes: 115 steps -/
def zu_54g : List aSg := [(10, [(0, .inr (.inr 115)), (1, .inr (.inr 122)), (2, .inl (.ofNat 11, .ofNat 11)), (3, .inl (.negSucc 0, .ofNat 10))], [], [.inl 3990, .inr (.inl 3, false, .negSucc 0)]), (17, [(0, .inr (.inr 115)), (1, .inr (.inr 122)), (2, .inl (.ofNat 11, .ofNat 11)), (3, .inl (.ofNat 0, .ofNat 10)), (4, .inl (.ofNat 0, .ofNat 8))], [], [.inl 3990, .inr (.inl 3, false, .negSucc 0), .inl 3983, .inr (.inl 4, true, .ofNat 8)])]
set_option maxRecDepth 100000 in
theorem zu_54_ok : ains zSh zgt zit rx_tb 3000 25 zu_54 zu_54g = true := by decide +kernel
/-- GreyRoute$Half.countRoutes: 115 steps -/
def zu_55g : List aSg := [(10, [(0, .inr (.inr 115)), (1, .inr (.inr 122)), (2, .inl (.ofNat 12, .ofNat 12)), (3, .inl (.negSucc 0, .ofNat 11))], [], [.inl 3990, .inr (.inl 3, false, .negSucc 0)]), (17, [(0, .inr (.inr 115)), (1, .inr (.inr 122)), (2, .inl (.ofNat 12, .ofNat 12)), (3, .inl (.ofNat 0, .ofNat 11)), (4, .inl (.ofNat 0, .ofNat 8))], [], [.inl 3990, .inr (.inl 3, false, .negSucc 0), .inl 3983, .inr (.inl 4, true, .ofNat 8)])]
set_option maxRecDepth 100000 in
theorem zu_55_ok : ains zSh zgt zit rx_tb 3000 25 zu_55 zu_55g = true := by decide +kernel
/-- GreyRoute$Half.countRoutes: 115 steps -/
def zu_56g : List aSg := [(10, [(0, .inr (.inr 115)), (1, .inr (.inr 122)), (2, .inl (.ofNat 13, .ofNat 13)), (3, .inl (.negSucc 0, .ofNat 12))], [], [.inl 3990, .inr (.inl 3, false, .negSucc 0)]), (17, [(0, .inr (.inr 115)), (1, .inr (.inr 122)), (2, .inl (.ofNat 13, .ofNat 13)), (3, .inl (.ofNat 0, .ofNat 12)), (4, .inl (.ofNat 0, .ofNat 8))], [], [.inl 3990, .inr (.inl 3, false, .negSucc 0), .inl 3983, .inr (.inl 4, true, .ofNat 8)])]
set_option maxRecDepth 100000 in
theorem zu_56_ok : ains zSh zgt zit rx_tb 3000 25 zu_56 zu_56g = true := by decide +kernel
/-- GreyRoute$Half.countRoutes: 115 steps -/
def zu_57g : List aSg := [(10, [(0, .inr (.inr 115)), (1, .inr (.inr 122)), (2, .inl (.ofNat 14, .ofNat 14)), (3, .inl (.negSucc 0, .ofNat 13))], [], [.inl 3990, .inr (.inl 3, false, .negSucc 0)]), (17, [(0, .inr (.inr 115)), (1, .inr (.inr 122)), (2, .inl (.ofNat 14, .ofNat 14)), (3, .inl (.ofNat 0, .ofNat 13)), (4, .inl (.ofNat 0, .ofNat 8))], [], [.inl 3990, .inr (.inl 3, false, .negSucc 0), .inl 3983, .inr (.inl 4, true, .ofNat 8)])]
set_option maxRecDepth 100000 in
theorem zu_57_ok : ains zSh zgt zit rx_tb 3000 25 zu_57 zu_57g = true := by decide +kernel
/-- GreyRoute$Half.countRoutes: 115 steps -/
def zu_58g : List aSg := [(10, [(0, .inr (.inr 115)), (1, .inr (.inr 122)), (2, .inl (.ofNat 15, .ofNat 15)), (3, .inl (.negSucc 0, .ofNat 14))], [], [.inl 3990, .inr (.inl 3, false, .negSucc 0)]), (17, [(0, .inr (.inr 115)), (1, .inr (.inr 122)), (2, .inl (.ofNat 15, .ofNat 15)), (3, .inl (.ofNat 0, .ofNat 14)), (4, .inl (.ofNat 0, .ofNat 8))], [], [.inl 3990, .inr (.inl 3, false, .negSucc 0), .inl 3983, .inr (.inl 4, true, .ofNat 8)])]
set_option maxRecDepth 100000 in
theorem zu_58_ok : ains zSh zgt zit rx_tb 3000 25 zu_58 zu_58g = true := by decide +kernel
/-- GreyRoute$Half.countRoutes: 115 steps -/
def zu_59g : List aSg := [(10, [(0, .inr (.inr 115)), (1, .inr (.inr 122)), (2, .inl (.ofNat 16, .ofNat 16)), (3, .inl (.negSucc 0, .ofNat 15))], [], [.inl 3990, .inr (.inl 3, false, .negSucc 0)]), (17, [(0, .inr (.inr 115)), (1, .inr (.inr 122)), (2, .inl (.ofNat 16, .ofNat 16)), (3, .inl (.ofNat 0, .ofNat 15)), (4, .inl (.ofNat 0, .ofNat 8))], [], [.inl 3990, .inr (.inl 3, false, .negSucc 0), .inl 3983, .inr (.inl 4, true, .ofNat 8)])]
set_option maxRecDepth 100000 in
theorem zu_59_ok : ains zSh zgt zit rx_tb 3000 25 zu_59 zu_59g = true := by decide +kernel
/-- GreyRoute$Half.countRoutes: 115 steps -/
def zu_60g : List aSg := [(10, [(0, .inr (.inr 115)), (1, .inr (.inr 122)), (2, .inl (.ofNat 17, .ofNat 17)), (3, .inl (.negSucc 0, .ofNat 16))], [], [.inl 3990, .inr (.inl 3, false, .negSucc 0)]), (17, [(0, .inr (.inr 115)), (1, .inr (.inr 122)), (2, .inl (.ofNat 17, .ofNat 17)), (3, .inl (.ofNat 0, .ofNat 16)), (4, .inl (.ofNat 0, .ofNat 8))], [], [.inl 3990, .inr (.inl 3, false, .negSucc 0), .inl 3983, .inr (.inl 4, true, .ofNat 8)])]
set_option maxRecDepth 100000 in
theorem zu_60_ok : ains zSh zgt zit rx_tb 3000 25 zu_60 zu_60g = true := by decide +kernel
/-- GreyRoute$Half.countRoutes: 115 steps -/
def zu_61g : List aSg := [(10, [(0, .inr (.inr 115)), (1, .inr (.inr 122)), (2, .inl (.ofNat 18, .ofNat 18)), (3, .inl (.negSucc 0, .ofNat 17))], [], [.inl 3990, .inr (.inl 3, false, .negSucc 0)]), (17, [(0, .inr (.inr 115)), (1, .inr (.inr 122)), (2, .inl (.ofNat 18, .ofNat 18)), (3, .inl (.ofNat 0, .ofNat 17)), (4, .inl (.ofNat 0, .ofNat 8))], [], [.inl 3990, .inr (.inl 3, false, .negSucc 0), .inl 3983, .inr (.inl 4, true, .ofNat 8)])]
set_option maxRecDepth 100000 in
theorem zu_61_ok : ains zSh zgt zit rx_tb 3000 25 zu_61 zu_61g = true := by decide +kernel
/-- GreyRoute$Half.countRoutes: 115 steps -/
def zu_62g : List aSg := [(10, [(0, .inr (.inr 115)), (1, .inr (.inr 122)), (2, .inl (.ofNat 19, .ofNat 19)), (3, .inl (.negSucc 0, .ofNat 18))], [], [.inl 3990, .inr (.inl 3, false, .negSucc 0)]), (17, [(0, .inr (.inr 115)), (1, .inr (.inr 122)), (2, .inl (.ofNat 19, .ofNat 19)), (3, .inl (.ofNat 0, .ofNat 18)), (4, .inl (.ofNat 0, .ofNat 8))], [], [.inl 3990, .inr (.inl 3, false, .negSucc 0), .inl 3983, .inr (.inl 4, true, .ofNat 8)])]
set_option maxRecDepth 100000 in
theorem zu_62_ok : ains zSh zgt zit rx_tb 3000 25 zu_62 zu_62g = true := by decide +kernel
/-- GreyRoute$Half.countRoutes: 115 steps -/
def zu_63g : List aSg := [(10, [(0, .inr (.inr 115)), (1, .inr (.inr 122)), (2, .inl (.ofNat 20, .ofNat 20)), (3, .inl (.negSucc 0, .ofNat 19))], [], [.inl 3990, .inr (.inl 3, false, .negSucc 0)]), (17, [(0, .inr (.inr 115)), (1, .inr (.inr 122)), (2, .inl (.ofNat 20, .ofNat 20)), (3, .inl (.ofNat 0, .ofNat 19)), (4, .inl (.ofNat 0, .ofNat 8))], [], [.inl 3990, .inr (.inl 3, false, .negSucc 0), .inl 3983, .inr (.inl 4, true, .ofNat 8)])]
set_option maxRecDepth 100000 in
theorem zu_63_ok : ains zSh zgt zit rx_tb 3000 25 zu_63 zu_63g = true := by decide +kernel
/-- GreyRoute$Half.countRoutes: 69 steps -/
def zu_64g : List aSg := [(10, [(0, .inr (.inr 115)), (1, .inr (.inr 135)), (2, .inl (.ofNat 1, .ofNat 1)), (3, .inl (.negSucc 0, .ofNat 0))], [], [.inl 3990, .inr (.inl 3, false, .negSucc 0)]), (17, [(0, .inr (.inr 115)), (1, .inr (.inr 135)), (2, .inl (.ofNat 1, .ofNat 1)), (3, .inl (.ofNat 0, .ofNat 0)), (4, .inl (.ofNat 0, .ofNat 8))], [], [.inl 3990, .inr (.inl 3, false, .negSucc 0), .inl 3983, .inr (.inl 4, true, .ofNat 8)])]
set_option maxRecDepth 100000 in
theorem zu_64_ok : ains zSh zgt zit rx_tb 3000 25 zu_64 zu_64g = true := by decide +kernel
/-- GreyRoute$Half.countRoutes: 115 steps -/
def zu_65g : List aSg := [(10, [(0, .inr (.inr 115)), (1, .inr (.inr 135)), (2, .inl (.ofNat 2, .ofNat 2)), (3, .inl (.negSucc 0, .ofNat 1))], [], [.inl 3990, .inr (.inl 3, false, .negSucc 0)]), (17, [(0, .inr (.inr 115)), (1, .inr (.inr 135)), (2, .inl (.ofNat 2, .ofNat 2)), (3, .inl (.ofNat 0, .ofNat 1)), (4, .inl (.ofNat 0, .ofNat 8))], [], [.inl 3990, .inr (.inl 3, false, .negSucc 0), .inl 3983, .inr (.inl 4, true, .ofNat 8)])]
set_option maxRecDepth 100000 in
theorem zu_65_ok : ains zSh zgt zit rx_tb 3000 25 zu_65 zu_65g = true := by decide +kernel
/-- GreyRoute$Half.countRoutes: 115 steps -/
def zu_66g : List aSg := [(10, [(0, .inr (.inr 115)), (1, .inr (.inr 135)), (2, .inl (.ofNat 3, .ofNat 3)), (3, .inl (.negSucc 0, .ofNat 2))], [], [.inl 3990, .inr (.inl 3, false, .negSucc 0)]), (17, [(0, .inr (.inr 115)), (1, .inr (.inr 135)), (2, .inl (.ofNat 3, .ofNat 3)), (3, .inl (.ofNat 0, .ofNat 2)), (4, .inl (.ofNat 0, .ofNat 8))], [], [.inl 3990, .inr (.inl 3, false, .negSucc 0), .inl 3983, .inr (.inl 4, true, .ofNat 8)])]
set_option maxRecDepth 100000 in
theorem zu_66_ok : ains zSh zgt zit rx_tb 3000 25 zu_66 zu_66g = true := by decide +kernel
/-- GreyRoute$Half.countRoutes: 115 steps -/
def zu_67g : List aSg := [(10, [(0, .inr (.inr 115)), (1, .inr (.inr 135)), (2, .inl (.ofNat 4, .ofNat 4)), (3, .inl (.negSucc 0, .ofNat 3))], [], [.inl 3990, .inr (.inl 3, false, .negSucc 0)]), (17, [(0, .inr (.inr 115)), (1, .inr (.inr 135)), (2, .inl (.ofNat 4, .ofNat 4)), (3, .inl (.ofNat 0, .ofNat 3)), (4, .inl (.ofNat 0, .ofNat 8))], [], [.inl 3990, .inr (.inl 3, false, .negSucc 0), .inl 3983, .inr (.inl 4, true, .ofNat 8)])]
set_option maxRecDepth 100000 in
theorem zu_67_ok : ains zSh zgt zit rx_tb 3000 25 zu_67 zu_67g = true := by decide +kernel
/-- GreyRoute$Half.countRoutes: 115 steps -/
def zu_68g : List aSg := [(10, [(0, .inr (.inr 115)), (1, .inr (.inr 135)), (2, .inl (.ofNat 5, .ofNat 5)), (3, .inl (.negSucc 0, .ofNat 4))], [], [.inl 3990, .inr (.inl 3, false, .negSucc 0)]), (17, [(0, .inr (.inr 115)), (1, .inr (.inr 135)), (2, .inl (.ofNat 5, .ofNat 5)), (3, .inl (.ofNat 0, .ofNat 4)), (4, .inl (.ofNat 0, .ofNat 8))], [], [.inl 3990, .inr (.inl 3, false, .negSucc 0), .inl 3983, .inr (.inl 4, true, .ofNat 8)])]
set_option maxRecDepth 100000 in
theorem zu_68_ok : ains zSh zgt zit rx_tb 3000 25 zu_68 zu_68g = true := by decide +kernel
/-- GreyRoute$Half.countRoutes: 115 steps -/
def zu_69g : List aSg := [(10, [(0, .inr (.inr 115)), (1, .inr (.inr 135)), (2, .inl (.ofNat 6, .ofNat 6)), (3, .inl (.negSucc 0, .ofNat 5))], [], [.inl 3990, .inr (.inl 3, false, .negSucc 0)]), (17, [(0, .inr (.inr 115)), (1, .inr (.inr 135)), (2, .inl (.ofNat 6, .ofNat 6)), (3, .inl (.ofNat 0, .ofNat 5)), (4, .inl (.ofNat 0, .ofNat 8))], [], [.inl 3990, .inr (.inl 3, false, .negSucc 0), .inl 3983, .inr (.inl 4, true, .ofNat 8)])]
set_option maxRecDepth 100000 in
theorem zu_69_ok : ains zSh zgt zit rx_tb 3000 25 zu_69 zu_69g = true := by decide +kernel
/-- GreyRoute$Half.countRoutes: 115 steps -/
def zu_70g : List aSg := [(10, [(0, .inr (.inr 115)), (1, .inr (.inr 135)), (2, .inl (.ofNat 7, .ofNat 7)), (3, .inl (.negSucc 0, .ofNat 6))], [], [.inl 3990, .inr (.inl 3, false, .negSucc 0)]), (17, [(0, .inr (.inr 115)), (1, .inr (.inr 135)), (2, .inl (.ofNat 7, .ofNat 7)), (3, .inl (.ofNat 0, .ofNat 6)), (4, .inl (.ofNat 0, .ofNat 8))], [], [.inl 3990, .inr (.inl 3, false, .negSucc 0), .inl 3983, .inr (.inl 4, true, .ofNat 8)])]
set_option maxRecDepth 100000 in
theorem zu_70_ok : ains zSh zgt zit rx_tb 3000 25 zu_70 zu_70g = true := by decide +kernel
/-- GreyRoute$Half.countRoutes: 115 steps -/
def zu_71g : List aSg := [(10, [(0, .inr (.inr 115)), (1, .inr (.inr 135)), (2, .inl (.ofNat 8, .ofNat 8)), (3, .inl (.negSucc 0, .ofNat 7))], [], [.inl 3990, .inr (.inl 3, false, .negSucc 0)]), (17, [(0, .inr (.inr 115)), (1, .inr (.inr 135)), (2, .inl (.ofNat 8, .ofNat 8)), (3, .inl (.ofNat 0, .ofNat 7)), (4, .inl (.ofNat 0, .ofNat 8))], [], [.inl 3990, .inr (.inl 3, false, .negSucc 0), .inl 3983, .inr (.inl 4, true, .ofNat 8)])]
set_option maxRecDepth 100000 in
theorem zu_71_ok : ains zSh zgt zit rx_tb 3000 25 zu_71 zu_71g = true := by decide +kernel
/-- GreyRoute$Half.countRoutes: 115 steps -/
def zu_72g : List aSg := [(10, [(0, .inr (.inr 115)), (1, .inr (.inr 135)), (2, .inl (.ofNat 9, .ofNat 9)), (3, .inl (.negSucc 0, .ofNat 8))], [], [.inl 3990, .inr (.inl 3, false, .negSucc 0)]), (17, [(0, .inr (.inr 115)), (1, .inr (.inr 135)), (2, .inl (.ofNat 9, .ofNat 9)), (3, .inl (.ofNat 0, .ofNat 8)), (4, .inl (.ofNat 0, .ofNat 8))], [], [.inl 3990, .inr (.inl 3, false, .negSucc 0), .inl 3983, .inr (.inl 4, true, .ofNat 8)])]
set_option maxRecDepth 100000 in
theorem zu_72_ok : ains zSh zgt zit rx_tb 3000 25 zu_72 zu_72g = true := by decide +kernel
/-- GreyRoute$Half.countRoutes: 115 steps -/
def zu_73g : List aSg := [(10, [(0, .inr (.inr 115)), (1, .inr (.inr 135)), (2, .inl (.ofNat 10, .ofNat 10)), (3, .inl (.negSucc 0, .ofNat 9))], [], [.inl 3990, .inr (.inl 3, false, .negSucc 0)]), (17, [(0, .inr (.inr 115)), (1, .inr (.inr 135)), (2, .inl (.ofNat 10, .ofNat 10)), (3, .inl (.ofNat 0, .ofNat 9)), (4, .inl (.ofNat 0, .ofNat 8))], [], [.inl 3990, .inr (.inl 3, false, .negSucc 0), .inl 3983, .inr (.inl 4, true, .ofNat 8)])]
set_option maxRecDepth 100000 in
theorem zu_73_ok : ains zSh zgt zit rx_tb 3000 25 zu_73 zu_73g = true := by decide +kernel
