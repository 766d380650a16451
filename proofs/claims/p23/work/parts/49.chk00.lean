/-! printed by wip/p32/chk.py: the class, method by method -/
/-- GreyRoute.feed: 540 steps -/
def zu_0g : List aSg := []
set_option maxRecDepth 100000 in
theorem zu_0_ok : ains zSh zgt zit rx_tb 3000 138 zu_0 zu_0g = true := by decide +kernel
/-- GreyRoute.end: 54 steps -/
def zu_1g : List aSg := []
set_option maxRecDepth 100000 in
theorem zu_1_ok : ains zSh zgt zit rx_tb 3000 88 zu_1 zu_1g = true := by decide +kernel
/-- GreyRoute.town: 746 steps -/
def zu_2g : List aSg := []
set_option maxRecDepth 100000 in
theorem zu_2_ok : ains zSh zgt zit rx_tb 3000 140 zu_2 zu_2g = true := by decide +kernel
/-- GreyRoute.fault: 19 steps -/
def zu_3g : List aSg := []
set_option maxRecDepth 100000 in
theorem zu_3_ok : ains zSh zgt zit rx_tb 3000 71 zu_3 zu_3g = true := by decide +kernel
/-- GreyRoute.has: 68 steps -/
def zu_4g : List aSg := []
set_option maxRecDepth 100000 in
theorem zu_4_ok : ains zSh zgt zit rx_tb 3000 49 zu_4 zu_4g = true := by decide +kernel
/-- GreyRoute.letter: 172 steps -/
def zu_5g : List aSg := []
set_option maxRecDepth 100000 in
theorem zu_5_ok : ains zSh zgt zit rx_tb 3000 44 zu_5 zu_5g = true := by decide +kernel
/-- GreyRoute.street: 99 steps -/
def zu_6g : List aSg := []
set_option maxRecDepth 100000 in
theorem zu_6_ok : ains zSh zgt zit rx_tb 3000 106 zu_6 zu_6g = true := by decide +kernel
/-- GreyRoute.way: 195 steps -/
def zu_7g : List aSg := []
set_option maxRecDepth 100000 in
theorem zu_7_ok : ains zSh zgt zit rx_tb 3000 107 zu_7 zu_7g = true := by decide +kernel
/-- GreyRoute.thing: 85 steps -/
def zu_8g : List aSg := []
set_option maxRecDepth 100000 in
theorem zu_8_ok : ains zSh zgt zit rx_tb 3000 108 zu_8 zu_8g = true := by decide +kernel
/-- GreyRoute.step: 39 steps -/
def zu_9g : List aSg := []
set_option maxRecDepth 100000 in
theorem zu_9_ok : ains zSh zgt zit rx_tb 3000 109 zu_9 zu_9g = true := by decide +kernel
/-- GreyRoute.year: 25 steps -/
def zu_10g : List aSg := []
set_option maxRecDepth 100000 in
theorem zu_10_ok : ains zSh zgt zit rx_tb 3000 63 zu_10 zu_10g = true := by decide +kernel
/-- GreyRoute.goes: 39 steps -/
def zu_11g : List aSg := []
set_option maxRecDepth 100000 in
theorem zu_11_ok : ains zSh zgt zit rx_tb 3000 64 zu_11 zu_11g = true := by decide +kernel
/-- GreyRoute.wall: 38 steps -/
def zu_12g : List aSg := [(8, [(0, .inr (.inr 0)), (1, .inl (.negSucc 0, .ofNat 29)), (2, .inl (.ofNat 0, .ofNat 30))], [], [.inl 3992, .inr (.inl 2, true, .ofNat 30)])]
set_option maxRecDepth 100000 in
theorem zu_12_ok : ains zSh zgt zit rx_tb 3000 153 zu_12 zu_12g = true := by decide +kernel
/-- GreyRoute.away: 62 steps -/
def zu_13g : List aSg := [(28, [(0, .inr (.inr 0)), (1, .inl (.ofNat 0, .ofNat 60)), (2, .inl (.negSucc 2147483647, .ofNat 2147483647)), (3, .inl (.ofNat 0, .ofNat 9))], [], [.inl 3972, .inr (.inl 3, true, .ofNat 9)]), (42, [(0, .inr (.inr 0)), (1, .inl (.ofNat 0, .ofNat 60)), (2, .inl (.negSucc 2147483647, .ofNat 2147483647)), (3, .inl (.ofNat 0, .ofNat 8)), (4, .inl (.ofNat 0, .ofNat 2147483647))], [], [.inl 3972, .inr (.inl 3, true, .ofNat 9), .inl 3958, .inr (.inl 4, true, .ofNat 2147483647)])]
set_option maxRecDepth 100000 in
theorem zu_13_ok : ains zSh zgt zit rx_tb 3000 90 zu_13 zu_13g = true := by decide +kernel
/-- GreyRoute.by: 162 steps -/
def zu_14g : List aSg := [(34, [(0, .inr (.inr 0)), (1, .inl (.ofNat 0, .ofNat 7)), (2, .inl (.ofNat 0, .ofNat 14))], [], [.inl 3966, .inr (.inl 2, true, .ofNat 14)]), (79, [(0, .inr (.inr 0)), (1, .inl (.ofNat 0, .ofNat 7)), (2, .inl (.ofNat 1, .ofNat 14))], [], [.inl 3921, .inr (.inl 2, true, .ofNat 14)]), (92, [(0, .inr (.inr 0)), (1, .inl (.ofNat 0, .ofNat 7)), (2, .inl (.ofNat 1, .ofNat 13)), (3, .inl (.ofNat 0, .ofNat 13))], [], [.inl 3921, .inr (.inl 2, true, .ofNat 14), .inl 3908, .inr (.inl 3, true, .ofNat 13)])]
set_option maxRecDepth 100000 in
theorem zu_14_ok : ains zSh zgt zit rx_tb 3000 111 zu_14 zu_14g = true := by decide +kernel
/-- GreyRoute.seats: 103 steps -/
def zu_15g : List aSg := [(41, [(0, .inr (.inr 0)), (1, .inl (.ofNat 1, .ofNat 3)), (2, .inl (.negSucc 0, .ofNat 2147483647)), (3, .inl (.negSucc 2147483647, .ofNat 2147483647)), (4, .inl (.ofNat 0, .ofNat 2147483647))], [], [.inl 3959, .inr (.inl 4, true, .ofNat 2147483647)])]
set_option maxRecDepth 100000 in
theorem zu_15_ok : ains zSh zgt zit rx_tb 3000 91 zu_15 zu_15g = true := by decide +kernel
/-- GreyRoute.later: 52 steps -/
def zu_16g : List aSg := [(27, [(0, .inr (.inr 0)), (1, .inl (.ofNat 0, .ofNat 39)), (2, .inl (.ofNat 0, .ofNat 1)), (3, .inl (.ofNat 0, .ofNat 39))], [], [.inl 3973, .inr (.inl 3, true, .ofNat 39)])]
set_option maxRecDepth 100000 in
theorem zu_16_ok : ains zSh zgt zit rx_tb 3000 78 zu_16 zu_16g = true := by decide +kernel
/-- GreyRoute.missed: 92 steps -/
def zu_17g : List aSg := [(27, [(0, .inr (.inr 0)), (1, .inl (.ofNat 0, .ofNat 7)), (2, .inl (.ofNat 0, .ofNat 40))], [], [.inl 3973, .inr (.inl 2, true, .ofNat 40)])]
set_option maxRecDepth 100000 in
theorem zu_17_ok : ains zSh zgt zit rx_tb 3000 113 zu_17 zu_17g = true := by decide +kernel
/-- GreyRoute.held: 37 steps -/
def zu_18g : List aSg := [(17, [(0, .inr (.inr 0)), (1, .inl (.ofNat 0, .ofNat 40))], [], [.inl 3983, .inr (.inl 1, true, .ofNat 40)])]
set_option maxRecDepth 100000 in
theorem zu_18_ok : ains zSh zgt zit rx_tb 3000 156 zu_18 zu_18g = true := by decide +kernel
/-- GreyRoute.filled: 1098 steps -/
def zu_19g : List aSg := []
set_option maxRecDepth 100000 in
theorem zu_19_ok : ains zSh zgt zit rx_tb 3000 38 zu_19 zu_19g = true := by decide +kernel
/-- GreyRoute.filling: 31 steps -/
def zu_20g : List aSg := []
set_option maxRecDepth 100000 in
theorem zu_20_ok : ains zSh zgt zit rx_tb 3000 24 zu_20 zu_20g = true := by decide +kernel
