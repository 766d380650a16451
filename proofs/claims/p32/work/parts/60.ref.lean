/-! printed by wip/p32/emit2.py: the plain methods of the reference -/
/-- GreyRouteModel.end(I)Z  -/
def zr_0 : aS := ([.inr (.inr 170), .inl (.negSucc 2147483647, .ofNat 2147483647)], ([(170, 1)], [198]), (some (.inl (.ofNat 0, .ofNat 1))), (2, 0, 0))
/-- GreyRouteModel.fault(I)I  -/
def zr_1 : aS := ([.inr (.inr 170), .inl (.negSucc 2147483647, .ofNat 2147483647)], ([], []), (some (.inl (.negSucc 2147483647, .ofNat 2147483647))), (1, 0, 0))
/-- GreyRouteModel.has(I)I  -/
def zr_2 : aS := ([.inr (.inr 170), .inl (.negSucc 2147483647, .ofNat 2147483647)], ([], []), (some (.inl (.negSucc 2147483647, .ofNat 2147483647))), (4, 0, 0))
/-- GreyRouteModel.street(II)I  -/
def zr_3 : aS := ([.inr (.inr 170), .inl (.negSucc 2147483647, .ofNat 2147483647), .inl (.negSucc 2147483647, .ofNat 2147483647)], ([], []), (some (.inl (.negSucc 2147483647, .ofNat 2147483647))), (2, 0, 0))
/-- GreyRouteModel.way(II)I  -/
def zr_4 : aS := ([.inr (.inr 170), .inl (.negSucc 2147483647, .ofNat 2147483647), .inl (.negSucc 2147483647, .ofNat 2147483647)], ([], [209]), (some (.inl (.negSucc 0, .ofNat 2147483647))), (3, 0, 0))
/-- GreyRouteModel.thing(II)I  -/
def zr_5 : aS := ([.inr (.inr 170), .inl (.negSucc 2147483647, .ofNat 2147483647), .inl (.negSucc 2147483647, .ofNat 2147483647)], ([], []), (some (.inl (.negSucc 2147483647, .ofNat 2147483647))), (2, 0, 0))
/-- GreyRouteModel.step(II)I  -/
def zr_6 : aS := ([.inr (.inr 170), .inl (.negSucc 2147483647, .ofNat 2147483647), .inl (.negSucc 2147483647, .ofNat 2147483647)], ([], []), (some (.inl (.negSucc 2147483647, .ofNat 2147483647))), (2, 0, 0))
/-- GreyRouteModel.filled(I)I  -/
def zr_7 : aS := ([.inr (.inr 170), .inl (.negSucc 2147483647, .ofNat 2147483647)], ([], [218, 219]), (some (.inl (.negSucc 2147483647, .ofNat 2147483647))), (3, 0, 0))
/-- GreyRouteModel.asked(II)I  -/
def zr_8 : aS := ([.inr (.inr 170), .inl (.negSucc 2147483647, .ofNat 2147483647), .inl (.negSucc 2147483647, .ofNat 2147483647)], ([], [218, 219]), (some (.inl (.negSucc 0, .ofNat 2147483647))), (3, 0, 0))
/-- GreyRouteModel.seed(I)Z  -/
def zr_9 : aS := ([.inr (.inr 170), .inl (.negSucc 2147483647, .ofNat 2147483647)], ([(170, 58)], [198]), (some (.inl (.ofNat 0, .ofNat 1))), (2, 0, 0))
/-- GreyRouteModel.kept(II)I  -/
def zr_10 : aS := ([.inr (.inr 170), .inl (.negSucc 2147483647, .ofNat 2147483647), .inl (.negSucc 2147483647, .ofNat 2147483647)], ([], []), (some (.inl (.negSucc 2147483647, .ofNat 2147483647))), (2, 0, 0))
/-- GreyRouteModel.octet(I)I  -/
def zr_11 : aS := ([.inr (.inr 170), .inl (.negSucc 2147483647, .ofNat 2147483647)], ([], []), (some (.inl (.negSucc 2147483647, .ofNat 2147483647))), (2, 0, 0))
/-- GreyRouteModel.status(I)I  -/
def zr_12 : aS := ([.inr (.inr 170), .inl (.negSucc 2147483647, .ofNat 2147483647)], ([], []), (some (.inl (.negSucc 2147483647, .ofNat 2147483647))), (2, 0, 0))
/-- GreyRouteModel.longest()I  -/
def zr_13 : aS := ([.inr (.inr 170)], ([], []), (some (.inl (.negSucc 0, .ofNat 29))), (1, 0, 0))
/-- GreyRouteModel.pairs()I  -/
def zr_14 : aS := ([.inr (.inr 170)], ([], []), (some (.inl (.negSucc 2147483647, .ofNat 2147483647))), (1, 0, 0))
/-- GreyRouteModel.comesBy(I)Z  -/
def zr_15 : aS := ([.inr (.inr 170), .inl (.negSucc 2147483647, .ofNat 2147483647)], ([], []), (some (.inl (.ofNat 0, .ofNat 1))), (1, 0, 0))
/-- GreyRouteModel.draw(I)I  -/
def zr_16 : aS := ([.inr (.inr 170), .inl (.ofNat 1, .ofNat 100)], ([(170, 58)], []), (some (.inl (.negSucc 98, .ofNat 99))), (1, 0, 0))
/-- GreyRouteModel.refuses(I)I  -/
def zr_17 : aS := ([.inr (.inr 170), .inl (.ofNat 0, .ofNat 5)], ([], [198]), (some (.inl (.negSucc 0, .negSucc 0))), (1, 0, 0))
/-- GreyRouteModel.bits(I)I (by hand) -/
def zr_18 : aS := ([.inl (.negSucc 2147483647, .ofNat 2147483647)], ([], []), (some (.inl (.ofNat 0, .ofNat 32))), (3, 0, 0))
/-- GreyRouteModel.measures(I)V  -/
def zr_19 : aS := ([.inr (.inr 170), .inl (.negSucc 2147483647, .ofNat 2147483647)], ([], [209]), none, (2, 0, 0))
/-- GreyRouteModel.fills(I)J  -/
def zr_20 : aS := ([.inr (.inr 170), .inl (.ofNat 1, .ofNat 20)], ([], [218, 219]), (some (.inr (.negSucc 9223372036854775807, .ofNat 9223372036854775807))), (2, 0, 0))
/-- GreyRouteModel.canBe(II)Z  -/
def zr_21 : aS := ([.inr (.inr 170), .inl (.ofNat 0, .ofNat 19), .inl (.ofNat 0, .ofNat 7)], ([], []), (some (.inl (.ofNat 0, .ofNat 1))), (1, 0, 0))
def zit2 : aIt := [(none, []), (none, []), (none, []), (none, []), (none, []), (none, []), (none, []), (none, []), (none, []), (none, []), (none, []), (none, []), (none, []), (none, []), (none, []), (none, [zr_19]), (none, []), (none, []), (none, []), (none, []), (none, []), (none, []), (none, []), (none, []), (none, []), (none, []), (none, []), (none, []), (none, []), (none, []), (none, []), (none, []), (none, []), (none, []), (none, []), (none, [zr_20]), (none, []), (none, []), (none, []), (none, []), (none, [zr_16]), (none, []), (none, []), (none, []), (none, []), (none, []), (none, []), (none, []), (none, [zr_8]), (none, []), (none, [zr_7]), (none, []), (none, []), (none, []), (none, []), (none, []), (none, []), (none, []), (none, [zr_17]), (none, []), (none, []), (none, []), (none, [zr_2]), (none, []), (none, []), (none, []), (none, []), (none, []), (none, [zr_12]), (none, []), (none, []), (none, []), (none, []), (none, []), (none, []), (none, []), (none, []), (none, []), (none, []), (none, []), (none, []), (none, []), (none, []), (none, []), (none, []), (none, []), (none, []), (none, []), (none, []), (none, []), (none, []), (none, []), (none, [zr_1]), (none, []), (none, []), (none, []), (none, []), (none, []), (none, []), (none, []), (none, []), (none, []), (none, []), (none, []), (none, []), (none, [zr_0]), (none, []), (none, []), (none, []), (none, []), (none, []), (none, []), (none, []), (none, []), (none, []), (none, []), (none, []), (none, []), (none, []), (none, []), (none, []), (none, []), (none, []), (none, []), (none, []), (none, [zr_3]), (none, [zr_4]), (none, [zr_5]), (none, [zr_6]), (none, [zr_13]), (none, []), (none, []), (none, []), (none, []), (none, []), (none, [zr_9]), (none, [zr_10]), (none, [zr_11]), (none, []), (none, []), (none, []), (none, []), (none, []), (none, []), (none, []), (none, []), (none, []), (none, []), (none, []), (none, []), (none, []), (none, [zr_18]), (none, [zr_14]), (none, []), (none, []), (none, []), (none, []), (none, []), (none, []), (none, []), (none, []), (none, []), (none, []), (none, []), (none, []), (none, []), (none, []), (none, []), (none, []), (none, []), (none, []), (none, []), (none, []), (none, []), (none, []), (none, []), (none, []), (none, []), (none, []), (none, []), (none, []), (none, []), (none, []), (none, []), (none, []), (none, []), (none, []), (none, []), (none, []), (none, []), (none, []), (none, []), (none, []), (none, []), (none, []), (none, []), (none, []), (none, []), (none, []), (none, []), (none, []), (none, []), (none, []), (none, []), (none, []), (none, []), (none, []), (none, []), (none, []), (none, []), (none, []), (none, []), (none, []), (none, []), (none, []), (none, []), (none, []), (none, []), (none, []), (none, []), (none, []), (none, [zr_15]), (none, [zr_21]), (none, []), (none, []), (none, []), (none, []), (none, []), (none, []), (none, []), (none, []), (none, []), (none, []), (none, []), (none, []), (none, []), (none, []), (none, []), (none, []), (none, []), (none, []), (none, []), (none, []), (none, []), (none, []), (none, []), (none, []), (none, []), (none, []), (none, []), (none, []), (none, []), (none, []), (none, []), (none, []), (none, []), (none, []), (none, []), (none, []), (none, []), (none, []), (none, []), (none, []), (none, []), (none, []), (none, []), (none, []), (none, []), (none, []), (none, []), (none, []), (none, []), (none, []), (none, []), (none, []), (none, []), (none, []), (none, []), (none, []), (none, []), (none, []), (none, []), (none, []), (none, []), (none, []), (none, []), (none, []), (none, []), (none, []), (none, []), (none, []), (none, []), (none, []), (none, []), (none, []), (none, []), (none, []), (none, []), (none, []), (none, []), (none, []), (none, []), (none, []), (none, []), (none, [])]
/-- end: 23 steps -/
def zr_0g : List aSg := []
set_option maxRecDepth 100000 in
theorem zr_0_ok : ains zSh zgt zit2 rx_tb 3000 105 zr_0 zr_0g = true := by decide +kernel
/-- fault: 20 steps -/
def zr_1g : List aSg := []
set_option maxRecDepth 100000 in
theorem zr_1_ok : ains zSh zgt zit2 rx_tb 3000 92 zr_1 zr_1g = true := by decide +kernel
/-- has: 55 steps -/
def zr_2g : List aSg := []
set_option maxRecDepth 100000 in
theorem zr_2_ok : ains zSh zgt zit2 rx_tb 3000 62 zr_2 zr_2g = true := by decide +kernel
/-- street: 105 steps -/
def zr_3g : List aSg := []
set_option maxRecDepth 100000 in
theorem zr_3_ok : ains zSh zgt zit2 rx_tb 3000 125 zr_3 zr_3g = true := by decide +kernel
/-- way: 80 steps -/
def zr_4g : List aSg := []
set_option maxRecDepth 100000 in
theorem zr_4_ok : ains zSh zgt zit2 rx_tb 3000 126 zr_4 zr_4g = true := by decide +kernel
/-- thing: 59 steps -/
def zr_5g : List aSg := []
set_option maxRecDepth 100000 in
theorem zr_5_ok : ains zSh zgt zit2 rx_tb 3000 127 zr_5 zr_5g = true := by decide +kernel
/-- step: 53 steps -/
def zr_6g : List aSg := []
set_option maxRecDepth 100000 in
theorem zr_6_ok : ains zSh zgt zit2 rx_tb 3000 128 zr_6 zr_6g = true := by decide +kernel
/-- filled: 49 steps -/
def zr_7g : List aSg := []
set_option maxRecDepth 100000 in
theorem zr_7_ok : ains zSh zgt zit2 rx_tb 3000 50 zr_7 zr_7g = true := by decide +kernel
/-- asked: 173 steps -/
def zr_8g : List aSg := [(39, [(0, .inr (.inr 170)), (1, .inl (.ofNat 1, .ofNat 20)), (2, .inl (.ofNat 0, .ofNat 1)), (3, .inl (.negSucc 0, .ofNat 19)), (4, .inr (.inl (.ofNat 0, .ofNat 9223372036854775807))), (6, .inl (.ofNat 0, .ofNat 20))], [], [.inl 3961, .inr (.inl 6, true, .ofNat 20)]), (51, [(0, .inr (.inr 170)), (1, .inl (.ofNat 1, .ofNat 20)), (2, .inl (.ofNat 0, .ofNat 1)), (3, .inl (.negSucc 0, .ofNat 19)), (4, .inr (.inl (.ofNat 0, .ofNat 9223372036854775807))), (6, .inl (.ofNat 0, .ofNat 19)), (7, .inr (.inl (.ofNat 0, .ofNat 9223372036854775807))), (9, .inl (.ofNat 0, .ofNat 8))], [], [.inl 3961, .inr (.inl 6, true, .ofNat 20), .inl 3949, .inr (.inl 9, true, .ofNat 8)])]
set_option maxRecDepth 100000 in
theorem zr_8_ok : ains zSh zgt zit2 rx_tb 3000 48 zr_8 zr_8g = true := by decide +kernel
/-- seed: 14 steps -/
def zr_9g : List aSg := []
set_option maxRecDepth 100000 in
theorem zr_9_ok : ains zSh zgt zit2 rx_tb 3000 135 zr_9 zr_9g = true := by decide +kernel
/-- kept: 63 steps -/
def zr_10g : List aSg := []
set_option maxRecDepth 100000 in
theorem zr_10_ok : ains zSh zgt zit2 rx_tb 3000 136 zr_10 zr_10g = true := by decide +kernel
/-- octet: 33 steps -/
def zr_11g : List aSg := []
set_option maxRecDepth 100000 in
theorem zr_11_ok : ains zSh zgt zit2 rx_tb 3000 137 zr_11 zr_11g = true := by decide +kernel
/-- status: 30 steps -/
def zr_12g : List aSg := []
set_option maxRecDepth 100000 in
theorem zr_12_ok : ains zSh zgt zit2 rx_tb 3000 68 zr_12 zr_12g = true := by decide +kernel
/-- longest: 32 steps -/
def zr_13g : List aSg := [(4, [(0, .inr (.inr 170)), (1, .inl (.negSucc 0, .ofNat 29)), (2, .inl (.ofNat 0, .ofNat 30))], [], [.inl 3996, .inr (.inl 2, true, .ofNat 30)])]
set_option maxRecDepth 100000 in
theorem zr_13_ok : ains zSh zgt zit2 rx_tb 3000 129 zr_13 zr_13g = true := by decide +kernel
/-- pairs: 38 steps -/
def zr_14g : List aSg := [(4, [(0, .inr (.inr 170)), (1, .inl (.negSucc 2147483647, .ofNat 2147483647)), (2, .inl (.ofNat 0, .ofNat 30))], [], [.inl 3996, .inr (.inl 2, true, .ofNat 30)]), (14, [(0, .inr (.inr 170)), (1, .inl (.negSucc 2147483647, .ofNat 2147483647)), (2, .inl (.ofNat 0, .ofNat 29)), (3, .inl (.ofNat 0, .ofNat 29))], [], [.inl 3996, .inr (.inl 2, true, .ofNat 30), .inl 3986, .inr (.inl 3, true, .ofNat 29)])]
set_option maxRecDepth 100000 in
theorem zr_14_ok : ains zSh zgt zit2 rx_tb 3000 152 zr_14 zr_14g = true := by decide +kernel
/-- comesBy: 18 steps -/
def zr_15g : List aSg := [(2, [(0, .inr (.inr 170)), (1, .inl (.negSucc 2147483647, .ofNat 2147483647)), (2, .inl (.ofNat 0, .ofNat 30))], [], [.inl 3998, .inr (.inl 2, true, .ofNat 30)])]
set_option maxRecDepth 100000 in
theorem zr_15_ok : ains zSh zgt zit2 rx_tb 3000 221 zr_15 zr_15g = true := by decide +kernel
/-- draw: 19 steps -/
def zr_16g : List aSg := []
set_option maxRecDepth 100000 in
theorem zr_16_ok : ains zSh zgt zit2 rx_tb 3000 40 zr_16 zr_16g = true := by decide +kernel
/-- refuses: 10 steps -/
def zr_17g : List aSg := []
set_option maxRecDepth 100000 in
theorem zr_17_ok : ains zSh zgt zit2 rx_tb 3000 58 zr_17 zr_17g = true := by decide +kernel
/-- measures: 152 steps -/
def zr_19g : List aSg := [(2, [(0, .inr (.inr 170)), (1, .inl (.negSucc 2147483647, .ofNat 2147483647)), (2, .inl (.ofNat 0, .ofNat 8))], [], [.inl 3998, .inr (.inl 2, true, .ofNat 8)]), (10, [(0, .inr (.inr 170)), (1, .inl (.negSucc 2147483647, .ofNat 2147483647)), (2, .inl (.ofNat 0, .ofNat 7)), (3, .inl (.ofNat 0, .ofNat 8))], [], [.inl 3998, .inr (.inl 2, true, .ofNat 8), .inl 3990, .inr (.inl 3, true, .ofNat 8)]), (101, [(0, .inr (.inr 170)), (2, .inl (.ofNat 0, .ofNat 8))], [], [.inl 3899, .inr (.inl 2, true, .ofNat 8)]), (109, [(0, .inr (.inr 170)), (2, .inl (.ofNat 0, .ofNat 7)), (3, .inl (.ofNat 0, .ofNat 8))], [], [.inl 3899, .inr (.inl 2, true, .ofNat 8), .inl 3891, .inr (.inl 3, true, .ofNat 8)]), (118, [(0, .inr (.inr 170)), (2, .inl (.ofNat 0, .ofNat 7)), (3, .inl (.ofNat 0, .ofNat 7)), (4, .inl (.ofNat 0, .ofNat 8))], [], [.inl 3899, .inr (.inl 2, true, .ofNat 8), .inl 3891, .inr (.inl 3, true, .ofNat 8), .inl 3882, .inr (.inl 4, true, .ofNat 8)])]
set_option maxRecDepth 100000 in
theorem zr_19_ok : ains zSh zgt zit2 rx_tb 3000 15 zr_19 zr_19g = true := by decide +kernel
/-- fills: 283 steps -/
def zr_20g : List aSg := [(2, [(0, .inr (.inr 170)), (1, .inl (.ofNat 1, .ofNat 20)), (2, .inl (.ofNat 0, .ofNat 20))], [], [.inl 3998, .inr (.inl 2, true, .ofNat 20)]), (32, [(0, .inr (.inr 170)), (1, .inl (.ofNat 1, .ofNat 20)), (2, .inl (.negSucc 0, .ofNat 19))], [], [.inl 3968, .inr (.inl 2, false, .negSucc 0)]), (38, [(0, .inr (.inr 170)), (1, .inl (.ofNat 1, .ofNat 20)), (2, .inl (.ofNat 0, .ofNat 19)), (3, .inl (.ofNat 0, .ofNat 8))], [], [.inl 3968, .inr (.inl 2, false, .negSucc 0), .inl 3962, .inr (.inl 3, true, .ofNat 8)]), (68, [(0, .inr (.inr 170)), (1, .inl (.ofNat 1, .ofNat 20)), (2, .inl (.ofNat 0, .ofNat 19)), (3, .inl (.ofNat 0, .ofNat 7)), (4, .inr (.inl (.negSucc 9223372036854775807, .ofNat 9223372036854775807))), (6, .inl (.ofNat 0, .ofNat 8))], [], [.inl 3968, .inr (.inl 2, false, .negSucc 0), .inl 3962, .inr (.inl 3, true, .ofNat 8), .inl 3932, .inr (.inl 6, true, .ofNat 8)]), (172, [(0, .inr (.inr 170)), (1, .inl (.ofNat 1, .ofNat 20)), (2, .inl (.ofNat 0, .ofNat 20))], [], [.inl 3828, .inr (.inl 2, true, .ofNat 20)]), (179, [(0, .inr (.inr 170)), (1, .inl (.ofNat 1, .ofNat 20)), (2, .inl (.ofNat 0, .ofNat 19)), (3, .inl (.ofNat 0, .ofNat 8))], [], [.inl 3828, .inr (.inl 2, true, .ofNat 20), .inl 3821, .inr (.inl 3, true, .ofNat 8)]), (206, [(0, .inr (.inr 170)), (1, .inl (.ofNat 1, .ofNat 20)), (2, .inl (.ofNat 0, .ofNat 19)), (3, .inl (.ofNat 0, .ofNat 7)), (4, .inr (.inl (.negSucc 9223372036854775807, .ofNat 9223372036854775807))), (6, .inl (.ofNat 0, .ofNat 8))], [], [.inl 3828, .inr (.inl 2, true, .ofNat 20), .inl 3821, .inr (.inl 3, true, .ofNat 8), .inl 3794, .inr (.inl 6, true, .ofNat 8)]), (310, [(0, .inr (.inr 170)), (2, .inr (.inl (.negSucc 9223372036854775807, .ofNat 9223372036854775807))), (4, .inl (.ofNat 0, .ofNat 8))], [], [.inl 3690, .inr (.inl 4, true, .ofNat 8)])]
set_option maxRecDepth 100000 in
theorem zr_20_ok : ains zSh zgt zit2 rx_tb 3000 35 zr_20 zr_20g = true := by decide +kernel
/-- canBe: 26 steps -/
def zr_21g : List aSg := [(2, [(0, .inr (.inr 170)), (1, .inl (.ofNat 0, .ofNat 19)), (2, .inl (.ofNat 0, .ofNat 7)), (3, .inl (.ofNat 0, .ofNat 20))], [], [.inl 3998, .inr (.inl 3, true, .ofNat 20)])]
set_option maxRecDepth 100000 in
theorem zr_21_ok : ains zSh zgt zit2 rx_tb 3000 222 zr_21 zr_21g = true := by decide +kernel
