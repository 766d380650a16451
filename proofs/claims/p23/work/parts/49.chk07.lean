/-! printed by wip/p32/chk.py: the class, method by method -/
/-- GreyRoute$Reader.readProduct: 457 steps -/
def zu_206g : List aSg := [(12, [(0, .inr (.inr 148)), (1, .inl (.ofNat 0, .ofNat 7)), (2, .inl (.ofNat 0, .ofNat 1600))], [], [.inl 3988, .inr (.inl 2, true, .ofNat 1600)])]
set_option maxRecDepth 100000 in
theorem zu_206_ok : ains zSh zgt zit rx_tb 3000 254 zu_206 zu_206g = true := by decide +kernel
/-- GreyRoute$Reader.readBoth: 146 steps -/
def zu_207g : List aSg := [(12, [(0, .inr (.inr 148)), (1, .inl (.ofNat 0, .ofNat 7)), (2, .inl (.ofNat 0, .ofNat 1600))], [], [.inl 3988, .inr (.inl 2, true, .ofNat 1600)])]
set_option maxRecDepth 100000 in
theorem zu_207_ok : ains zSh zgt zit rx_tb 3000 260 zu_207 zu_207g = true := by decide +kernel
/-- GreyRoute$Reader.readPart: 583 steps -/
def zu_208g : List aSg := []
set_option maxRecDepth 100000 in
theorem zu_208_ok : ains zSh zgt zit rx_tb 3000 255 zu_208 zu_208g = true := by decide +kernel
/-- GreyRoute$Reader.readFact: 453 steps -/
def zu_209g : List aSg := []
set_option maxRecDepth 100000 in
theorem zu_209_ok : ains zSh zgt zit rx_tb 3000 261 zu_209 zu_209g = true := by decide +kernel
/-- GreyRoute$Reader.readFigure: 104 steps -/
def zu_210g : List aSg := []
set_option maxRecDepth 100000 in
theorem zu_210_ok : ains zSh zgt zit rx_tb 3000 256 zu_210 zu_210g = true := by decide +kernel
/-- GreyRoute$Reader.readIf: 272 steps -/
def zu_211g : List aSg := []
set_option maxRecDepth 100000 in
theorem zu_211_ok : ains zSh zgt zit rx_tb 3000 258 zu_211 zu_211g = true := by decide +kernel
/-- GreyRoute$Reader.readOfTwo: 258 steps -/
def zu_212g : List aSg := []
set_option maxRecDepth 100000 in
theorem zu_212_ok : ains zSh zgt zit rx_tb 3000 257 zu_212 zu_212g = true := by decide +kernel
/-- GreyRoute$Reader.readComparison: 488 steps -/
def zu_213g : List aSg := []
set_option maxRecDepth 100000 in
theorem zu_213_ok : ains zSh zgt zit rx_tb 3000 262 zu_213 zu_213g = true := by decide +kernel
/-- GreyRoute$Reader.takeSign: 84 steps -/
def zu_214g : List aSg := []
set_option maxRecDepth 100000 in
theorem zu_214_ok : ains zSh zgt zit rx_tb 3000 251 zu_214 zu_214g = true := by decide +kernel
/-- GreyRoute$Reader.takeOwn: 84 steps -/
def zu_215g : List aSg := []
set_option maxRecDepth 100000 in
theorem zu_215_ok : ains zSh zgt zit rx_tb 3000 250 zu_215 zu_215g = true := by decide +kernel
/-- GreyRoute$Reader.endCode: 72 steps -/
def zu_216g : List aSg := []
set_option maxRecDepth 100000 in
theorem zu_216_ok : ains zSh zgt zit rx_tb 3000 244 zu_216 zu_216g = true := by decide +kernel
