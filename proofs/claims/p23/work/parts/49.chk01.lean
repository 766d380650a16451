/-! printed by wip/p32/chk.py: the class, method by method -/
/-- GreyRoute.asked: 3747 steps -/
def zu_21g : List aSg := []
set_option maxRecDepth 100000 in
theorem zu_21_ok : ains zSh zgt zit rx_tb 3000 37 zu_21 zu_21g = true := by decide +kernel
/-- GreyRoute.years: 107 steps -/
def zu_22g : List aSg := [(44, [(0, .inr (.inr 0)), (1, .inl (.negSucc 2147483647, .ofNat 2147483647)), (2, .inl (.negSucc 2147483647, .ofNat 2147483647)), (3, .inl (.ofNat 0, .ofNat 2147483647))], [], [.inl 3956, .inr (.inl 3, true, .ofNat 2147483647)])]
set_option maxRecDepth 100000 in
theorem zu_22_ok : ains zSh zgt zit rx_tb 3000 114 zu_22 zu_22g = true := by decide +kernel
/-- GreyRoute.chance: 151 steps -/
def zu_23g : List aSg := [(44, [(0, .inr (.inr 0)), (1, .inl (.negSucc 2147483647, .ofNat 2147483647)), (2, .inl (.negSucc 2147483647, .ofNat 2147483647)), (3, .inl (.ofNat 0, .ofNat 2147483647))], [], [.inl 3956, .inr (.inl 3, true, .ofNat 2147483647)])]
set_option maxRecDepth 100000 in
theorem zu_23_ok : ains zSh zgt zit rx_tb 3000 116 zu_23 zu_23g = true := by decide +kernel
/-- GreyRoute.shut: 215 steps -/
def zu_24g : List aSg := []
set_option maxRecDepth 100000 in
theorem zu_24_ok : ains zSh zgt zit rx_tb 3000 118 zu_24 zu_24g = true := by decide +kernel
/-- GreyRoute.move: 235 steps -/
def zu_25g : List aSg := []
set_option maxRecDepth 100000 in
theorem zu_25_ok : ains zSh zgt zit rx_tb 3000 119 zu_25 zu_25g = true := by decide +kernel
