/-! printed by wip/p32/chk.py: the class, method by method -/
/-- GreyRoute$Half.sumBeside: 84 steps -/
def zu_179g : List aSg := [(6, [(0, .inr (.inr 122)), (1, .inr (.inr 120)), (2, .inl (.ofNat 0, .ofNat 19)), (3, .inl (.ofNat 0, .ofNat 7)), (4, .inr (.inl (.negSucc 9223372036854775807, .ofNat 9223372036854775807))), (6, .inl (.ofNat 0, .ofNat 8))], [], [.inl 3994, .inr (.inl 6, true, .ofNat 8)])]
set_option maxRecDepth 100000 in
theorem zu_179_ok : ains zSh zgt zit rx_tb 3000 226 zu_179 zu_179g = true := by decide +kernel
/-- GreyRoute$Half.mostAt: 50 steps -/
def zu_180g : List aSg := [(5, [(0, .inr (.inr 115)), (1, .inr (.inr 122)), (2, .inl (.ofNat 0, .ofNat 19)), (3, .inr (.inl (.ofNat 0, .ofNat 9223372036854775807))), (5, .inl (.ofNat 0, .ofNat 8))], [], [.inl 3995, .inr (.inl 5, true, .ofNat 8)])]
set_option maxRecDepth 100000 in
theorem zu_180_ok : ains zSh zgt zit rx_tb 3000 229 zu_180 zu_180g = true := by decide +kernel
/-- GreyRoute$Half.sumBeside: 84 steps -/
def zu_181g : List aSg := [(6, [(0, .inr (.inr 135)), (1, .inr (.inr 120)), (2, .inl (.ofNat 0, .ofNat 19)), (3, .inl (.ofNat 0, .ofNat 7)), (4, .inr (.inl (.negSucc 9223372036854775807, .ofNat 9223372036854775807))), (6, .inl (.ofNat 0, .ofNat 8))], [], [.inl 3994, .inr (.inl 6, true, .ofNat 8)])]
set_option maxRecDepth 100000 in
theorem zu_181_ok : ains zSh zgt zit rx_tb 3000 226 zu_181 zu_181g = true := by decide +kernel
/-- GreyRoute$Half.mostAt: 50 steps -/
def zu_182g : List aSg := [(5, [(0, .inr (.inr 115)), (1, .inr (.inr 135)), (2, .inl (.ofNat 0, .ofNat 19)), (3, .inr (.inl (.ofNat 0, .ofNat 9223372036854775807))), (5, .inl (.ofNat 0, .ofNat 8))], [], [.inl 3995, .inr (.inl 5, true, .ofNat 8)])]
set_option maxRecDepth 100000 in
theorem zu_182_ok : ains zSh zgt zit rx_tb 3000 229 zu_182 zu_182g = true := by decide +kernel
/-- GreyRoute$Words.takeNumber: 400 steps -/
def zu_183g : List aSg := [(4, [(0, .inr (.inr 149)), (1, .inl (.ofNat 0, .ofNat 4)), (2, .inl (.negSucc 2147483647, .ofNat 2147483647))], [], [.inl 3996, .inr (.inl 1, true, .ofNat 4)])]
set_option maxRecDepth 100000 in
theorem zu_183_ok : ains zSh zgt zit rx_tb 3000 300 zu_183 zu_183g = true := by decide +kernel
/-- GreyRoute$Words.takeWord: 554 steps -/
def zu_184g : List aSg := [(4, [(0, .inr (.inr 149)), (1, .inl (.ofNat 0, .ofNat 6)), (2, .inl (.negSucc 2147483647, .ofNat 2147483647))], [], [.inl 3996, .inr (.inl 1, true, .ofNat 6)])]
set_option maxRecDepth 100000 in
theorem zu_184_ok : ains zSh zgt zit rx_tb 3000 298 zu_184 zu_184g = true := by decide +kernel
/-- GreyRoute$Words.findOwnWord: 24 steps -/
def zu_185g : List aSg := [(2, [(0, .inr (.inr 149)), (1, .inl (.ofNat 0, .ofNat 26))], [], [.inl 3998, .inr (.inl 1, true, .ofNat 26)])]
set_option maxRecDepth 100000 in
theorem zu_185_ok : ains zSh zgt zit rx_tb 3000 299 zu_185 zu_185g = true := by decide +kernel
/-- GreyRoute$Pageant.seenFrom: 27 steps -/
def zu_186g : List aSg := [(4, [(0, .inr (.inr 151)), (1, .inl (.ofNat 0, .ofNat 2147483647)), (2, .inl (.negSucc 2147483647, .ofNat 2147483647)), (3, .inl (.ofNat 0, .ofNat 8))], [], [.inl 3996, .inr (.inl 3, true, .ofNat 8)])]
set_option maxRecDepth 100000 in
theorem zu_186_ok : ains zSh zgt zit rx_tb 3000 233 zu_186 zu_186g = true := by decide +kernel
/-- GreyRoute$Reader.readStatement: 679 steps -/
def zu_187g : List aSg := []
set_option maxRecDepth 100000 in
theorem zu_187_ok : ains zSh zgt zit rx_tb 3000 237 zu_187 zu_187g = true := by decide +kernel
/-- GreyRoute$Reader.another: 22 steps -/
def zu_188g : List aSg := []
set_option maxRecDepth 100000 in
theorem zu_188_ok : ains zSh zgt zit rx_tb 3000 238 zu_188 zu_188g = true := by decide +kernel
/-- GreyRoute$Reader.readPlace: 128 steps -/
def zu_189g : List aSg := []
set_option maxRecDepth 100000 in
theorem zu_189_ok : ains zSh zgt zit rx_tb 3000 239 zu_189 zu_189g = true := by decide +kernel
/-- GreyRoute$Reader.readStreet: 918 steps -/
def zu_190g : List aSg := []
set_option maxRecDepth 100000 in
theorem zu_190_ok : ains zSh zgt zit rx_tb 3000 240 zu_190 zu_190g = true := by decide +kernel
/-- GreyRoute$Reader.readStep: 490 steps -/
def zu_191g : List aSg := []
set_option maxRecDepth 100000 in
theorem zu_191_ok : ains zSh zgt zit rx_tb 3000 241 zu_191 zu_191g = true := by decide +kernel
/-- GreyRoute$Reader.readThing: 244 steps -/
def zu_192g : List aSg := []
set_option maxRecDepth 100000 in
theorem zu_192_ok : ains zSh zgt zit rx_tb 3000 242 zu_192 zu_192g = true := by decide +kernel
/-- GreyRoute$Reader.beginCode: 35 steps -/
def zu_193g : List aSg := []
set_option maxRecDepth 100000 in
theorem zu_193_ok : ains zSh zgt zit rx_tb 3000 243 zu_193 zu_193g = true := by decide +kernel
/-- GreyRoute$Reader.readHeat: 32 steps -/
def zu_194g : List aSg := []
set_option maxRecDepth 100000 in
theorem zu_194_ok : ains zSh zgt zit rx_tb 3000 245 zu_194 zu_194g = true := by decide +kernel
/-- GreyRoute$Reader.readHot: 32 steps -/
def zu_195g : List aSg := []
set_option maxRecDepth 100000 in
theorem zu_195_ok : ains zSh zgt zit rx_tb 3000 246 zu_195 zu_195g = true := by decide +kernel
/-- GreyRoute$Reader.newName: 101 steps -/
def zu_196g : List aSg := []
set_option maxRecDepth 100000 in
theorem zu_196_ok : ains zSh zgt zit rx_tb 3000 247 zu_196 zu_196g = true := by decide +kernel
/-- GreyRoute$Reader.knownPlace: 107 steps -/
def zu_197g : List aSg := []
set_option maxRecDepth 100000 in
theorem zu_197_ok : ains zSh zgt zit rx_tb 3000 248 zu_197 zu_197g = true := by decide +kernel
/-- GreyRoute$Reader.number: 94 steps -/
def zu_198g : List aSg := []
set_option maxRecDepth 100000 in
theorem zu_198_ok : ains zSh zgt zit rx_tb 3000 249 zu_198 zu_198g = true := by decide +kernel
/-- GreyRoute$Town.isNamed: 26 steps -/
def zu_199g : List aSg := [(2, [(0, .inr (.inr 122)), (1, .inl (.negSucc 2147483647, .ofNat 2147483647)), (2, .inl (.ofNat 0, .ofNat 8))], [], [.inl 3998, .inr (.inl 2, true, .ofNat 8)])]
set_option maxRecDepth 100000 in
theorem zu_199_ok : ains zSh zgt zit rx_tb 3000 284 zu_199 zu_199g = true := by decide +kernel
/-- GreyRoute$Town.isNamed: 26 steps -/
def zu_200g : List aSg := [(2, [(0, .inr (.inr 135)), (1, .inl (.negSucc 2147483647, .ofNat 2147483647)), (2, .inl (.ofNat 0, .ofNat 8))], [], [.inl 3998, .inr (.inl 2, true, .ofNat 8)])]
set_option maxRecDepth 100000 in
theorem zu_200_ok : ains zSh zgt zit rx_tb 3000 284 zu_200 zu_200g = true := by decide +kernel
/-- GreyRoute$Town.placeNamed: 18 steps -/
def zu_201g : List aSg := [(2, [(0, .inr (.inr 122)), (1, .inl (.negSucc 2147483647, .ofNat 2147483647)), (2, .inl (.ofNat 0, .ofNat 8))], [], [.inl 3998, .inr (.inl 2, true, .ofNat 8)])]
set_option maxRecDepth 100000 in
theorem zu_201_ok : ains zSh zgt zit rx_tb 3000 283 zu_201 zu_201g = true := by decide +kernel
/-- GreyRoute$Town.placeNamed: 18 steps -/
def zu_202g : List aSg := [(2, [(0, .inr (.inr 135)), (1, .inl (.negSucc 2147483647, .ofNat 2147483647)), (2, .inl (.ofNat 0, .ofNat 8))], [], [.inl 3998, .inr (.inl 2, true, .ofNat 8)])]
set_option maxRecDepth 100000 in
theorem zu_202_ok : ains zSh zgt zit rx_tb 3000 283 zu_202 zu_202g = true := by decide +kernel
/-- GreyRoute$Reader.readSum: 296 steps -/
def zu_203g : List aSg := [(12, [(0, .inr (.inr 148)), (1, .inl (.ofNat 0, .ofNat 7)), (2, .inl (.ofNat 0, .ofNat 1600))], [], [.inl 3988, .inr (.inl 2, true, .ofNat 1600)])]
set_option maxRecDepth 100000 in
theorem zu_203_ok : ains zSh zgt zit rx_tb 3000 253 zu_203 zu_203g = true := by decide +kernel
/-- GreyRoute$Reader.readTest: 146 steps -/
def zu_204g : List aSg := [(12, [(0, .inr (.inr 148)), (1, .inl (.ofNat 0, .ofNat 7)), (2, .inl (.ofNat 0, .ofNat 1600))], [], [.inl 3988, .inr (.inl 2, true, .ofNat 1600)])]
set_option maxRecDepth 100000 in
theorem zu_204_ok : ains zSh zgt zit rx_tb 3000 259 zu_204 zu_204g = true := by decide +kernel
/-- GreyRoute$Ways.shortenOver: 61 steps -/
def zu_205g : List aSg := [(2, [(0, .inr (.inr 164)), (1, .inl (.ofNat 0, .ofNat 7)), (2, .inl (.ofNat 1, .ofNat 8)), (3, .inl (.ofNat 0, .ofNat 8))], [], [.inl 3998, .inr (.inl 3, true, .ofNat 8)]), (30, [(0, .inr (.inr 164)), (1, .inl (.ofNat 0, .ofNat 7)), (2, .inl (.ofNat 1, .ofNat 8)), (3, .inl (.ofNat 0, .ofNat 7)), (4, .inl (.negSucc 2147483647, .ofNat 999999)), (5, .inl (.ofNat 0, .ofNat 8))], [], [.inl 3998, .inr (.inl 3, true, .ofNat 8), .inl 3970, .inr (.inl 5, true, .ofNat 8)])]
set_option maxRecDepth 100000 in
theorem zu_205_ok : ains zSh zgt zit rx_tb 3000 290 zu_205 zu_205g = true := by decide +kernel
