/-! printed by wip/p32/chk.py: the class, method by method -/
/-- GreyRoute$State.copy: 49 steps -/
def zu_132g : List aSg := []
set_option maxRecDepth 100000 in
theorem zu_132_ok : ains zSh zgt zit rx_tb 3000 82 zu_132 zu_132g = true := by decide +kernel
/-- GreyRoute$State.copy: 49 steps -/
def zu_133g : List aSg := []
set_option maxRecDepth 100000 in
theorem zu_133_ok : ains zSh zgt zit rx_tb 3000 82 zu_133 zu_133g = true := by decide +kernel
/-- GreyRoute$State.copy: 49 steps -/
def zu_134g : List aSg := []
set_option maxRecDepth 100000 in
theorem zu_134_ok : ains zSh zgt zit rx_tb 3000 82 zu_134 zu_134g = true := by decide +kernel
/-- GreyRoute$State.copy: 49 steps -/
def zu_135g : List aSg := []
set_option maxRecDepth 100000 in
theorem zu_135_ok : ains zSh zgt zit rx_tb 3000 82 zu_135 zu_135g = true := by decide +kernel
/-- GreyRoute$State.copy: 49 steps -/
def zu_136g : List aSg := []
set_option maxRecDepth 100000 in
theorem zu_136_ok : ains zSh zgt zit rx_tb 3000 82 zu_136 zu_136g = true := by decide +kernel
/-- GreyRoute$State.copy: 49 steps -/
def zu_137g : List aSg := []
set_option maxRecDepth 100000 in
theorem zu_137_ok : ains zSh zgt zit rx_tb 3000 82 zu_137 zu_137g = true := by decide +kernel
/-- GreyRoute$State.copy: 49 steps -/
def zu_138g : List aSg := []
set_option maxRecDepth 100000 in
theorem zu_138_ok : ains zSh zgt zit rx_tb 3000 82 zu_138 zu_138g = true := by decide +kernel
/-- java/util/Arrays.fill: 15 steps -/
def zu_139g : List aSg := [(5, [(0, .inr (.inr 118)), (1, .inl (.negSucc 2147483647, .ofNat 2147483647)), (2, .inl (.ofNat 0, .ofNat 20)), (3, .inl (.ofNat 20, .ofNat 20))], [], [.inl 3995, .inr (.inl 2, true, .ofNat 20)])]
set_option maxRecDepth 100000 in
theorem zu_139_ok : ains zSh zgt zit rx_tb 3000 23 zu_139 zu_139g = true := by decide +kernel
/-- GreyRoute$Pageant.goRound: 325 steps -/
def zu_140g : List aSg := [(2, [(0, .inr (.inr 151)), (1, .inl (.ofNat 1, .ofNat 30))], [], [.inl 3998, .inr (.inl 1, true, .ofNat 30)])]
set_option maxRecDepth 100000 in
theorem zu_140_ok : ains zSh zgt zit rx_tb 3000 11 zu_140 zu_140g = true := by decide +kernel
/-- GreyRoute$Pageant.gatherPulls: 65 steps -/
def zu_141g : List aSg := [(10, [(0, .inr (.inr 151)), (1, .inr (.inr 5)), (2, .inl (.ofNat 0, .ofNat 2147483647)), (3, .inl (.ofNat 0, .ofNat 8))], [], [.inl 3990, .inr (.inl 3, true, .ofNat 8)])]
set_option maxRecDepth 100000 in
theorem zu_141_ok : ains zSh zgt zit rx_tb 3000 41 zu_141 zu_141g = true := by decide +kernel
/-- java/util/Arrays.fill: 15 steps -/
def zu_142g : List aSg := [(5, [(0, .inr (.inr 158)), (1, .inl (.ofNat 0, .ofNat 0)), (2, .inl (.ofNat 0, .ofNat 8)), (3, .inl (.ofNat 8, .ofNat 8))], [], [.inl 3995, .inr (.inl 2, true, .ofNat 8)])]
set_option maxRecDepth 100000 in
theorem zu_142_ok : ains zSh zgt zit rx_tb 3000 23 zu_142 zu_142g = true := by decide +kernel
/-- GreyRoute$State.checkByte: 43 steps -/
def zu_143g : List aSg := [(6, [(0, .inr (.inr 3)), (1, .inl (.ofNat 0, .ofNat 86)), (2, .inl (.negSucc 2147483647, .ofNat 255)), (3, .inl (.ofNat 0, .ofNat 86))], [], [.inl 3994, .inr (.inl 3, true, .ofNat 86)])]
set_option maxRecDepth 100000 in
theorem zu_143_ok : ains zSh zgt zit rx_tb 3000 172 zu_143 zu_143g = true := by decide +kernel
/-- GreyRoute$Ways.between: 92 steps -/
def zu_144g : List aSg := [(23, [(0, .inr (.inr 164)), (2, .inl (.ofNat 0, .ofNat 7)), (3, .inr (.inr 160)), (4, .inl (.negSucc 0, .ofNat 7)), (5, .inl (.ofNat 0, .ofNat 8))], [], [.inl 3977, .inr (.inl 5, true, .ofNat 8)])]
set_option maxRecDepth 100000 in
theorem zu_144_ok : ains zSh zgt zit rx_tb 3000 294 zu_144 zu_144g = true := by decide +kernel
/-- GreyRoute$Route.holds: 18 steps -/
def zu_145g : List aSg := [(2, [(0, .inr (.inr 152)), (1, .inl (.ofNat 0, .ofNat 7)), (2, .inl (.ofNat 0, .ofNat 30))], [], [.inl 3998, .inr (.inl 2, true, .ofNat 30)])]
set_option maxRecDepth 100000 in
theorem zu_145_ok : ains zSh zgt zit rx_tb 3000 265 zu_145 zu_145g = true := by decide +kernel
/-- GreyRoute$Ways.next: 88 steps -/
def zu_146g : List aSg := [(10, [(0, .inr (.inr 164)), (1, .inl (.ofNat 0, .ofNat 7)), (2, .inl (.ofNat 0, .ofNat 7)), (3, .inl (.negSucc 2147483647, .ofNat 1000000)), (4, .inl (.ofNat 0, .ofNat 8))], [], [.inl 3990, .inr (.inl 4, true, .ofNat 8)])]
set_option maxRecDepth 100000 in
theorem zu_146_ok : ains zSh zgt zit rx_tb 3000 293 zu_146 zu_146g = true := by decide +kernel
/-- GreyRoute$Pageant.go: 683 steps -/
def zu_148g : List aSg := [(46, [(0, .inr (.inr 151)), (2, .inl (.ofNat 0, .ofNat 30))], [], [.inl 3954, .inr (.inl 2, true, .ofNat 30)])]
set_option maxRecDepth 100000 in
theorem zu_148_ok : ains zSh zgt zit rx_tb 3000 10 zu_148 zu_148g = true := by decide +kernel
/-- GreyRoute.passOneYear: 15 steps -/
def zu_149g : List aSg := []
set_option maxRecDepth 100000 in
theorem zu_149_ok : ains zSh zgt zit rx_tb 3000 27 zu_149 zu_149g = true := by decide +kernel
/-- GreyRoute.draw: 22 steps -/
def zu_150g : List aSg := []
set_option maxRecDepth 100000 in
theorem zu_150_ok : ains zSh zgt zit rx_tb 3000 39 zu_150 zu_150g = true := by decide +kernel
/-- GreyRoute$Pageant.leavesRoute: 39 steps -/
def zu_151g : List aSg := []
set_option maxRecDepth 100000 in
theorem zu_151_ok : ains zSh zgt zit rx_tb 3000 157 zu_151 zu_151g = true := by decide +kernel
/-- GreyRoute$Route.beenAhead: 29 steps -/
def zu_152g : List aSg := [(4, [(0, .inr (.inr 152)), (1, .inl (.ofNat 0, .ofNat 29)), (2, .inl (.negSucc 2147483647, .ofNat 2147483647)), (3, .inl (.ofNat 0, .ofNat 29))], [], [.inl 3996, .inr (.inl 3, true, .ofNat 29)])]
set_option maxRecDepth 100000 in
theorem zu_152_ok : ains zSh zgt zit rx_tb 3000 266 zu_152 zu_152g = true := by decide +kernel
/-- GreyRoute$Pageant.pass: 250 steps -/
def zu_153g : List aSg := []
set_option maxRecDepth 100000 in
theorem zu_153_ok : ains zSh zgt zit rx_tb 3000 17 zu_153 zu_153g = true := by decide +kernel
/-- GreyRoute$Past.keep: 31 steps -/
def zu_154g : List aSg := []
set_option maxRecDepth 100000 in
theorem zu_154_ok : ains zSh zgt zit rx_tb 3000 28 zu_154 zu_154g = true := by decide +kernel
/-- GreyRoute$Sums.work: 140 steps -/
def zu_155g : List aSg := [(9, [(0, .inr (.inr 167)), (1, .inr (.inr 134)), (3, .inl (.ofNat 0, .ofNat 64)), (4, .inl (.ofNat 0, .ofNat 1600))], [], [.inl 3991, .inr (.inl 4, true, .ofNat 1600)])]
set_option maxRecDepth 100000 in
theorem zu_155_ok : ains zSh zgt zit rx_tb 3000 273 zu_155 zu_155g = true := by decide +kernel
/-- GreyRoute$Sums.work: 140 steps -/
def zu_156g : List aSg := [(9, [(0, .inr (.inr 167)), (1, .inr (.inr 147)), (3, .inl (.ofNat 0, .ofNat 64)), (4, .inl (.ofNat 0, .ofNat 1600))], [], [.inl 3991, .inr (.inl 4, true, .ofNat 1600)])]
set_option maxRecDepth 100000 in
theorem zu_156_ok : ains zSh zgt zit rx_tb 3000 273 zu_156 zu_156g = true := by decide +kernel
/-- GreyRoute$Pageant.sumByPlace: 29 steps -/
def zu_157g : List aSg := [(10, [(0, .inr (.inr 151)), (1, .inl (.ofNat 0, .ofNat 30))], [], [.inl 3990, .inr (.inl 1, true, .ofNat 30)])]
set_option maxRecDepth 100000 in
theorem zu_157_ok : ains zSh zgt zit rx_tb 3000 232 zu_157 zu_157g = true := by decide +kernel
/-- GreyRoute$Route.isLike: 39 steps -/
def zu_158g : List aSg := [(15, [(0, .inr (.inr 161)), (1, .inr (.inr 152)), (2, .inl (.ofNat 0, .ofNat 30))], [], [.inl 3985, .inr (.inl 2, true, .ofNat 30)])]
set_option maxRecDepth 100000 in
theorem zu_158_ok : ains zSh zgt zit rx_tb 3000 158 zu_158 zu_158g = true := by decide +kernel
/-- java/util/Arrays.fill: 15 steps -/
def zu_159g : List aSg := [(5, [(0, .inr (.inr 159)), (1, .inl (.ofNat 0, .ofNat 0)), (2, .inl (.ofNat 0, .ofNat 8)), (3, .inl (.ofNat 8, .ofNat 8))], [], [.inl 3995, .inr (.inl 2, true, .ofNat 8)])]
set_option maxRecDepth 100000 in
theorem zu_159_ok : ains zSh zgt zit rx_tb 3000 23 zu_159 zu_159g = true := by decide +kernel
/-- GreyRoute$Pageant.standingAt: 194 steps -/
def zu_160g : List aSg := []
set_option maxRecDepth 100000 in
theorem zu_160_ok : ains zSh zgt zit rx_tb 3000 230 zu_160 zu_160g = true := by decide +kernel
/-- GreyRoute$Sums.join: 202 steps -/
def zu_161g : List aSg := []
set_option maxRecDepth 100000 in
theorem zu_161_ok : ains zSh zgt zit rx_tb 3000 275 zu_161 zu_161g = true := by decide +kernel
/-- GreyRoute$Pageant.standsWithin: 22 steps -/
def zu_162g : List aSg := [(9, [(0, .inr (.inr 151)), (1, .inl (.ofNat 0, .ofNat 60)), (4, .inl (.ofNat 0, .ofNat 30))], [], [.inl 3991, .inr (.inl 4, true, .ofNat 30)])]
set_option maxRecDepth 100000 in
theorem zu_162_ok : ains zSh zgt zit rx_tb 3000 155 zu_162 zu_162g = true := by decide +kernel
/-- GreyRoute$Half.sumBeside: 84 steps -/
def zu_163g : List aSg := [(6, [(0, .inr (.inr 122)), (1, .inr (.inr 119)), (2, .inl (.ofNat 1, .ofNat 19)), (3, .inl (.ofNat 0, .ofNat 7)), (4, .inr (.inl (.negSucc 9223372036854775807, .ofNat 9223372036854775807))), (6, .inl (.ofNat 0, .ofNat 8))], [], [.inl 3994, .inr (.inl 6, true, .ofNat 8)])]
set_option maxRecDepth 100000 in
theorem zu_163_ok : ains zSh zgt zit rx_tb 3000 226 zu_163 zu_163g = true := by decide +kernel
/-- GreyRoute$Half.sumOf: 22 steps -/
def zu_164g : List aSg := [(5, [(0, .inr (.inr 122)), (1, .inr (.inr 119)), (2, .inl (.ofNat 0, .ofNat 0)), (3, .inr (.inl (.negSucc 9223372036854775807, .ofNat 9223372036854775807))), (5, .inl (.ofNat 0, .ofNat 8))], [], [.inl 3995, .inr (.inl 5, true, .ofNat 8)])]
set_option maxRecDepth 100000 in
theorem zu_164_ok : ains zSh zgt zit rx_tb 3000 34 zu_164 zu_164g = true := by decide +kernel
/-- GreyRoute$Half.sumBeside: 84 steps -/
def zu_165g : List aSg := [(6, [(0, .inr (.inr 135)), (1, .inr (.inr 119)), (2, .inl (.ofNat 1, .ofNat 19)), (3, .inl (.ofNat 0, .ofNat 7)), (4, .inr (.inl (.negSucc 9223372036854775807, .ofNat 9223372036854775807))), (6, .inl (.ofNat 0, .ofNat 8))], [], [.inl 3994, .inr (.inl 6, true, .ofNat 8)])]
set_option maxRecDepth 100000 in
theorem zu_165_ok : ains zSh zgt zit rx_tb 3000 226 zu_165 zu_165g = true := by decide +kernel
/-- GreyRoute$Half.sumOf: 22 steps -/
def zu_166g : List aSg := [(5, [(0, .inr (.inr 135)), (1, .inr (.inr 119)), (2, .inl (.ofNat 0, .ofNat 0)), (3, .inr (.inl (.negSucc 9223372036854775807, .ofNat 9223372036854775807))), (5, .inl (.ofNat 0, .ofNat 8))], [], [.inl 3995, .inr (.inl 5, true, .ofNat 8)])]
set_option maxRecDepth 100000 in
theorem zu_166_ok : ains zSh zgt zit rx_tb 3000 34 zu_166 zu_166g = true := by decide +kernel
/-- GreyRoute$Sums.ofTwo: 419 steps -/
def zu_168g : List aSg := []
set_option maxRecDepth 100000 in
theorem zu_168_ok : ains zSh zgt zit rx_tb 3000 276 zu_168 zu_168g = true := by decide +kernel
/-- GreyRoute$Half.ask: 146 steps -/
def zu_173g : List aSg := [(2, [(0, .inr (.inr 115)), (1, .inr (.inr 122)), (2, .inl (.ofNat 1, .ofNat 20)), (3, .inl (.ofNat 0, .ofNat 20))], [], [.inl 3998, .inr (.inl 3, true, .ofNat 20)]), (10, [(0, .inr (.inr 115)), (1, .inr (.inr 122)), (2, .inl (.ofNat 1, .ofNat 20)), (3, .inl (.ofNat 0, .ofNat 19)), (4, .inl (.ofNat 0, .ofNat 8))], [], [.inl 3998, .inr (.inl 3, true, .ofNat 20), .inl 3990, .inr (.inl 4, true, .ofNat 8)]), (89, [(0, .inr (.inr 115)), (1, .inr (.inr 122)), (2, .inl (.ofNat 1, .ofNat 20)), (3, .inl (.ofNat 0, .ofNat 20))], [], [.inl 3911, .inr (.inl 3, true, .ofNat 20)])]
set_option maxRecDepth 100000 in
theorem zu_173_ok : ains zSh zgt zit rx_tb 3000 228 zu_173 zu_173g = true := by decide +kernel
/-- GreyRoute$Half.leastOnward: 145 steps -/
def zu_174g : List aSg := [(3, [(0, .inr (.inr 115)), (1, .inr (.inr 122)), (2, .inl (.ofNat 0, .ofNat 19)), (3, .inl (.negSucc 0, .ofNat 7)), (4, .inl (.ofNat 0, .ofNat 8))], [], [.inl 3997, .inr (.inl 4, true, .ofNat 8)])]
set_option maxRecDepth 100000 in
theorem zu_174_ok : ains zSh zgt zit rx_tb 3000 227 zu_174 zu_174g = true := by decide +kernel
/-- GreyRoute$Half.ask: 146 steps -/
def zu_175g : List aSg := [(2, [(0, .inr (.inr 115)), (1, .inr (.inr 135)), (2, .inl (.ofNat 1, .ofNat 20)), (3, .inl (.ofNat 0, .ofNat 20))], [], [.inl 3998, .inr (.inl 3, true, .ofNat 20)]), (10, [(0, .inr (.inr 115)), (1, .inr (.inr 135)), (2, .inl (.ofNat 1, .ofNat 20)), (3, .inl (.ofNat 0, .ofNat 19)), (4, .inl (.ofNat 0, .ofNat 8))], [], [.inl 3998, .inr (.inl 3, true, .ofNat 20), .inl 3990, .inr (.inl 4, true, .ofNat 8)]), (89, [(0, .inr (.inr 115)), (1, .inr (.inr 135)), (2, .inl (.ofNat 1, .ofNat 20)), (3, .inl (.ofNat 0, .ofNat 20))], [], [.inl 3911, .inr (.inl 3, true, .ofNat 20)])]
set_option maxRecDepth 100000 in
theorem zu_175_ok : ains zSh zgt zit rx_tb 3000 228 zu_175 zu_175g = true := by decide +kernel
/-- GreyRoute$Half.leastOnward: 145 steps -/
def zu_176g : List aSg := [(3, [(0, .inr (.inr 115)), (1, .inr (.inr 135)), (2, .inl (.ofNat 0, .ofNat 19)), (3, .inl (.negSucc 0, .ofNat 7)), (4, .inl (.ofNat 0, .ofNat 8))], [], [.inl 3997, .inr (.inl 4, true, .ofNat 8)])]
set_option maxRecDepth 100000 in
theorem zu_176_ok : ains zSh zgt zit rx_tb 3000 227 zu_176 zu_176g = true := by decide +kernel
/-- GreyRoute$Words.rewind: 9 steps -/
def zu_177g : List aSg := []
set_option maxRecDepth 100000 in
theorem zu_177_ok : ains zSh zgt zit rx_tb 3000 142 zu_177 zu_177g = true := by decide +kernel
