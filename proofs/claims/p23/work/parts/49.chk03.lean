/-! printed by wip/p32/chk.py: the class, method by method -/
/-- GreyRoute$Half.countRoutes: 115 steps -/
def zu_74g : List aSg := [(10, [(0, .inr (.inr 115)), (1, .inr (.inr 135)), (2, .inl (.ofNat 11, .ofNat 11)), (3, .inl (.negSucc 0, .ofNat 10))], [], [.inl 3990, .inr (.inl 3, false, .negSucc 0)]), (17, [(0, .inr (.inr 115)), (1, .inr (.inr 135)), (2, .inl (.ofNat 11, .ofNat 11)), (3, .inl (.ofNat 0, .ofNat 10)), (4, .inl (.ofNat 0, .ofNat 8))], [], [.inl 3990, .inr (.inl 3, false, .negSucc 0), .inl 3983, .inr (.inl 4, true, .ofNat 8)])]
set_option maxRecDepth 100000 in
theorem zu_74_ok : ains zSh zgt zit rx_tb 3000 25 zu_74 zu_74g = true := by decide +kernel
/-- GreyRoute$Half.countRoutes: 115 steps -/
def zu_75g : List aSg := [(10, [(0, .inr (.inr 115)), (1, .inr (.inr 135)), (2, .inl (.ofNat 12, .ofNat 12)), (3, .inl (.negSucc 0, .ofNat 11))], [], [.inl 3990, .inr (.inl 3, false, .negSucc 0)]), (17, [(0, .inr (.inr 115)), (1, .inr (.inr 135)), (2, .inl (.ofNat 12, .ofNat 12)), (3, .inl (.ofNat 0, .ofNat 11)), (4, .inl (.ofNat 0, .ofNat 8))], [], [.inl 3990, .inr (.inl 3, false, .negSucc 0), .inl 3983, .inr (.inl 4, true, .ofNat 8)])]
set_option maxRecDepth 100000 in
theorem zu_75_ok : ains zSh zgt zit rx_tb 3000 25 zu_75 zu_75g = true := by decide +kernel
/-- GreyRoute$Half.countRoutes: 115 steps -/
def zu_76g : List aSg := [(10, [(0, .inr (.inr 115)), (1, .inr (.inr 135)), (2, .inl (.ofNat 13, .ofNat 13)), (3, .inl (.negSucc 0, .ofNat 12))], [], [.inl 3990, .inr (.inl 3, false, .negSucc 0)]), (17, [(0, .inr (.inr 115)), (1, .inr (.inr 135)), (2, .inl (.ofNat 13, .ofNat 13)), (3, .inl (.ofNat 0, .ofNat 12)), (4, .inl (.ofNat 0, .ofNat 8))], [], [.inl 3990, .inr (.inl 3, false, .negSucc 0), .inl 3983, .inr (.inl 4, true, .ofNat 8)])]
set_option maxRecDepth 100000 in
theorem zu_76_ok : ains zSh zgt zit rx_tb 3000 25 zu_76 zu_76g = true := by decide +kernel
/-- GreyRoute$Half.countRoutes: 115 steps -/
def zu_77g : List aSg := [(10, [(0, .inr (.inr 115)), (1, .inr (.inr 135)), (2, .inl (.ofNat 14, .ofNat 14)), (3, .inl (.negSucc 0, .ofNat 13))], [], [.inl 3990, .inr (.inl 3, false, .negSucc 0)]), (17, [(0, .inr (.inr 115)), (1, .inr (.inr 135)), (2, .inl (.ofNat 14, .ofNat 14)), (3, .inl (.ofNat 0, .ofNat 13)), (4, .inl (.ofNat 0, .ofNat 8))], [], [.inl 3990, .inr (.inl 3, false, .negSucc 0), .inl 3983, .inr (.inl 4, true, .ofNat 8)])]
set_option maxRecDepth 100000 in
theorem zu_77_ok : ains zSh zgt zit rx_tb 3000 25 zu_77 zu_77g = true := by decide +kernel
/-- GreyRoute$Half.countRoutes: 115 steps -/
def zu_78g : List aSg := [(10, [(0, .inr (.inr 115)), (1, .inr (.inr 135)), (2, .inl (.ofNat 15, .ofNat 15)), (3, .inl (.negSucc 0, .ofNat 14))], [], [.inl 3990, .inr (.inl 3, false, .negSucc 0)]), (17, [(0, .inr (.inr 115)), (1, .inr (.inr 135)), (2, .inl (.ofNat 15, .ofNat 15)), (3, .inl (.ofNat 0, .ofNat 14)), (4, .inl (.ofNat 0, .ofNat 8))], [], [.inl 3990, .inr (.inl 3, false, .negSucc 0), .inl 3983, .inr (.inl 4, true, .ofNat 8)])]
set_option maxRecDepth 100000 in
theorem zu_78_ok : ains zSh zgt zit rx_tb 3000 25 zu_78 zu_78g = true := by decide +kernel
/-- GreyRoute$Half.countRoutes: 115 steps -/
def zu_79g : List aSg := [(10, [(0, .inr (.inr 115)), (1, .inr (.inr 135)), (2, .inl (.ofNat 16, .ofNat 16)), (3, .inl (.negSucc 0, .ofNat 15))], [], [.inl 3990, .inr (.inl 3, false, .negSucc 0)]), (17, [(0, .inr (.inr 115)), (1, .inr (.inr 135)), (2, .inl (.ofNat 16, .ofNat 16)), (3, .inl (.ofNat 0, .ofNat 15)), (4, .inl (.ofNat 0, .ofNat 8))], [], [.inl 3990, .inr (.inl 3, false, .negSucc 0), .inl 3983, .inr (.inl 4, true, .ofNat 8)])]
set_option maxRecDepth 100000 in
theorem zu_79_ok : ains zSh zgt zit rx_tb 3000 25 zu_79 zu_79g = true := by decide +kernel
/-- GreyRoute$Half.countRoutes: 115 steps -/
def zu_80g : List aSg := [(10, [(0, .inr (.inr 115)), (1, .inr (.inr 135)), (2, .inl (.ofNat 17, .ofNat 17)), (3, .inl (.negSucc 0, .ofNat 16))], [], [.inl 3990, .inr (.inl 3, false, .negSucc 0)]), (17, [(0, .inr (.inr 115)), (1, .inr (.inr 135)), (2, .inl (.ofNat 17, .ofNat 17)), (3, .inl (.ofNat 0, .ofNat 16)), (4, .inl (.ofNat 0, .ofNat 8))], [], [.inl 3990, .inr (.inl 3, false, .negSucc 0), .inl 3983, .inr (.inl 4, true, .ofNat 8)])]
set_option maxRecDepth 100000 in
theorem zu_80_ok : ains zSh zgt zit rx_tb 3000 25 zu_80 zu_80g = true := by decide +kernel
/-- GreyRoute$Half.countRoutes: 115 steps -/
def zu_81g : List aSg := [(10, [(0, .inr (.inr 115)), (1, .inr (.inr 135)), (2, .inl (.ofNat 18, .ofNat 18)), (3, .inl (.negSucc 0, .ofNat 17))], [], [.inl 3990, .inr (.inl 3, false, .negSucc 0)]), (17, [(0, .inr (.inr 115)), (1, .inr (.inr 135)), (2, .inl (.ofNat 18, .ofNat 18)), (3, .inl (.ofNat 0, .ofNat 17)), (4, .inl (.ofNat 0, .ofNat 8))], [], [.inl 3990, .inr (.inl 3, false, .negSucc 0), .inl 3983, .inr (.inl 4, true, .ofNat 8)])]
set_option maxRecDepth 100000 in
theorem zu_81_ok : ains zSh zgt zit rx_tb 3000 25 zu_81 zu_81g = true := by decide +kernel
/-- GreyRoute$Half.countRoutes: 115 steps -/
def zu_82g : List aSg := [(10, [(0, .inr (.inr 115)), (1, .inr (.inr 135)), (2, .inl (.ofNat 19, .ofNat 19)), (3, .inl (.negSucc 0, .ofNat 18))], [], [.inl 3990, .inr (.inl 3, false, .negSucc 0)]), (17, [(0, .inr (.inr 115)), (1, .inr (.inr 135)), (2, .inl (.ofNat 19, .ofNat 19)), (3, .inl (.ofNat 0, .ofNat 18)), (4, .inl (.ofNat 0, .ofNat 8))], [], [.inl 3990, .inr (.inl 3, false, .negSucc 0), .inl 3983, .inr (.inl 4, true, .ofNat 8)])]
set_option maxRecDepth 100000 in
theorem zu_82_ok : ains zSh zgt zit rx_tb 3000 25 zu_82 zu_82g = true := by decide +kernel
/-- GreyRoute$Half.countRoutes: 115 steps -/
def zu_83g : List aSg := [(10, [(0, .inr (.inr 115)), (1, .inr (.inr 135)), (2, .inl (.ofNat 20, .ofNat 20)), (3, .inl (.negSucc 0, .ofNat 19))], [], [.inl 3990, .inr (.inl 3, false, .negSucc 0)]), (17, [(0, .inr (.inr 115)), (1, .inr (.inr 135)), (2, .inl (.ofNat 20, .ofNat 20)), (3, .inl (.ofNat 0, .ofNat 19)), (4, .inl (.ofNat 0, .ofNat 8))], [], [.inl 3990, .inr (.inl 3, false, .negSucc 0), .inl 3983, .inr (.inl 4, true, .ofNat 8)])]
set_option maxRecDepth 100000 in
theorem zu_83_ok : ains zSh zgt zit rx_tb 3000 25 zu_83 zu_83g = true := by decide +kernel
/-- GreyRoute$Half.placeOfFirst: 317 steps -/
def zu_84g : List aSg := [(19, [(0, .inr (.inr 115)), (1, .inr (.inr 122)), (3, .inl (.ofNat 0, .ofNat 19)), (4, .inl (.negSucc 0, .ofNat 7)), (5, .inl (.ofNat 0, .ofNat 20))], [], [.inl 3981, .inr (.inl 5, true, .ofNat 20)])]
set_option maxRecDepth 100000 in
theorem zu_84_ok : ains zSh zgt zit rx_tb 3000 54 zu_84 zu_84g = true := by decide +kernel
/-- GreyRoute$Half.placeOfFirst: 317 steps -/
def zu_85g : List aSg := [(19, [(0, .inr (.inr 115)), (1, .inr (.inr 135)), (3, .inl (.ofNat 0, .ofNat 19)), (4, .inl (.negSucc 0, .ofNat 7)), (5, .inl (.ofNat 0, .ofNat 20))], [], [.inl 3981, .inr (.inl 5, true, .ofNat 20)])]
set_option maxRecDepth 100000 in
theorem zu_85_ok : ains zSh zgt zit rx_tb 3000 54 zu_85 zu_85g = true := by decide +kernel
/-- GreyRoute.canPass: 22 steps -/
def zu_86g : List aSg := []
set_option maxRecDepth 100000 in
theorem zu_86_ok : ains zSh zgt zit rx_tb 3000 80 zu_86 zu_86g = true := by decide +kernel
/-- GreyRoute$Past.remember: 585 steps -/
def zu_87g : List aSg := []
set_option maxRecDepth 100000 in
theorem zu_87_ok : ains zSh zgt zit rx_tb 3000 81 zu_87 zu_87g = true := by decide +kernel
/-- GreyRoute$Past.takeBack: 87 steps -/
def zu_88g : List aSg := []
set_option maxRecDepth 100000 in
theorem zu_88_ok : ains zSh zgt zit rx_tb 3000 168 zu_88 zu_88g = true := by decide +kernel
/-- GreyRoute$State.write: 283 steps -/
def zu_90g : List aSg := [(21, [(0, .inr (.inr 5)), (1, .inr (.inr 3)), (2, .inr (.inr 122)), (3, .inl (.ofNat 0, .ofNat 14))], [], [.inl 3979, .inr (.inl 3, true, .ofNat 14)]), (49, [(0, .inr (.inr 5)), (1, .inr (.inr 3)), (2, .inr (.inr 122)), (3, .inl (.ofNat 0, .ofNat 8))], [], [.inl 3951, .inr (.inl 3, true, .ofNat 8)]), (86, [(0, .inr (.inr 5)), (1, .inr (.inr 3)), (3, .inl (.ofNat 0, .ofNat 30))], [], [.inl 3914, .inr (.inl 3, true, .ofNat 30)])]
set_option maxRecDepth 100000 in
theorem zu_90_ok : ains zSh zgt zit rx_tb 3000 171 zu_90 zu_90g = true := by decide +kernel
/-- GreyRoute$State.write: 283 steps -/
def zu_91g : List aSg := [(21, [(0, .inr (.inr 5)), (1, .inr (.inr 3)), (2, .inr (.inr 135)), (3, .inl (.ofNat 0, .ofNat 14))], [], [.inl 3979, .inr (.inl 3, true, .ofNat 14)]), (49, [(0, .inr (.inr 5)), (1, .inr (.inr 3)), (2, .inr (.inr 135)), (3, .inl (.ofNat 0, .ofNat 8))], [], [.inl 3951, .inr (.inl 3, true, .ofNat 8)]), (86, [(0, .inr (.inr 5)), (1, .inr (.inr 3)), (3, .inl (.ofNat 0, .ofNat 30))], [], [.inl 3914, .inr (.inl 3, true, .ofNat 30)])]
set_option maxRecDepth 100000 in
theorem zu_91_ok : ains zSh zgt zit rx_tb 3000 171 zu_91 zu_91g = true := by decide +kernel
/-- java/util/Arrays.fill: 15 steps -/
def zu_92g : List aSg := [(5, [(0, .inr (.inr 127)), (1, .inl (.negSucc 0, .negSucc 0)), (2, .inl (.ofNat 0, .ofNat 64)), (3, .inl (.ofNat 64, .ofNat 64))], [], [.inl 3995, .inr (.inl 2, true, .ofNat 64)])]
set_option maxRecDepth 100000 in
theorem zu_92_ok : ains zSh zgt zit rx_tb 3000 23 zu_92 zu_92g = true := by decide +kernel
/-- java/util/Arrays.fill: 15 steps -/
def zu_93g : List aSg := [(5, [(0, .inr (.inr 140)), (1, .inl (.negSucc 0, .negSucc 0)), (2, .inl (.ofNat 0, .ofNat 64)), (3, .inl (.ofNat 64, .ofNat 64))], [], [.inl 3995, .inr (.inl 2, true, .ofNat 64)])]
set_option maxRecDepth 100000 in
theorem zu_93_ok : ains zSh zgt zit rx_tb 3000 23 zu_93 zu_93g = true := by decide +kernel
/-- java/util/Arrays.fill: 15 steps -/
def zu_94g : List aSg := [(5, [(0, .inr (.inr 165)), (1, .inl (.ofNat 1000000, .ofNat 1000000)), (2, .inl (.ofNat 0, .ofNat 64)), (3, .inl (.ofNat 64, .ofNat 64))], [], [.inl 3995, .inr (.inl 2, true, .ofNat 64)])]
set_option maxRecDepth 100000 in
theorem zu_94_ok : ains zSh zgt zit rx_tb 3000 23 zu_94 zu_94g = true := by decide +kernel
/-- GreyRoute$Pageant.beginRoute: 61 steps -/
def zu_95g : List aSg := []
set_option maxRecDepth 100000 in
theorem zu_95_ok : ains zSh zgt zit rx_tb 3000 43 zu_95 zu_95g = true := by decide +kernel
/-- GreyRoute$Pageant.beginRoute: 61 steps -/
def zu_96g : List aSg := []
set_option maxRecDepth 100000 in
theorem zu_96_ok : ains zSh zgt zit rx_tb 3000 43 zu_96 zu_96g = true := by decide +kernel
/-- GreyRoute$Half.openPlaces: 84 steps -/
def zu_97g : List aSg := [(17, [(0, .inr (.inr 115)), (2, .inl (.ofNat 1, .ofNat 20)), (3, .inl (.ofNat 0, .ofNat 20))], [], [.inl 3983, .inr (.inl 3, true, .ofNat 20)])]
set_option maxRecDepth 100000 in
theorem zu_97_ok : ains zSh zgt zit rx_tb 3000 26 zu_97 zu_97g = true := by decide +kernel
/-- GreyRoute$Half.openPlaces: 84 steps -/
def zu_98g : List aSg := [(17, [(0, .inr (.inr 115)), (2, .inl (.ofNat 1, .ofNat 20)), (3, .inl (.ofNat 0, .ofNat 20))], [], [.inl 3983, .inr (.inl 3, true, .ofNat 20)])]
set_option maxRecDepth 100000 in
theorem zu_98_ok : ains zSh zgt zit rx_tb 3000 26 zu_98 zu_98g = true := by decide +kernel
/-- GreyRoute$State.copy: 49 steps -/
def zu_99g : List aSg := []
set_option maxRecDepth 100000 in
theorem zu_99_ok : ains zSh zgt zit rx_tb 3000 82 zu_99 zu_99g = true := by decide +kernel
/-- GreyRoute$State.copy: 49 steps -/
def zu_100g : List aSg := []
set_option maxRecDepth 100000 in
theorem zu_100_ok : ains zSh zgt zit rx_tb 3000 82 zu_100 zu_100g = true := by decide +kernel
/-- GreyRoute$State.copy: 49 steps -/
def zu_101g : List aSg := []
set_option maxRecDepth 100000 in
theorem zu_101_ok : ains zSh zgt zit rx_tb 3000 82 zu_101 zu_101g = true := by decide +kernel
/-- GreyRoute$State.copy: 49 steps -/
def zu_102g : List aSg := []
set_option maxRecDepth 100000 in
theorem zu_102_ok : ains zSh zgt zit rx_tb 3000 82 zu_102 zu_102g = true := by decide +kernel
/-- GreyRoute$State.copy: 49 steps -/
def zu_103g : List aSg := []
set_option maxRecDepth 100000 in
theorem zu_103_ok : ains zSh zgt zit rx_tb 3000 82 zu_103 zu_103g = true := by decide +kernel
/-- GreyRoute$State.copy: 49 steps -/
def zu_104g : List aSg := []
set_option maxRecDepth 100000 in
theorem zu_104_ok : ains zSh zgt zit rx_tb 3000 82 zu_104 zu_104g = true := by decide +kernel
/-- GreyRoute$State.copy: 49 steps -/
def zu_105g : List aSg := []
set_option maxRecDepth 100000 in
theorem zu_105_ok : ains zSh zgt zit rx_tb 3000 82 zu_105 zu_105g = true := by decide +kernel
/-- GreyRoute$State.copy: 49 steps -/
def zu_106g : List aSg := []
set_option maxRecDepth 100000 in
theorem zu_106_ok : ains zSh zgt zit rx_tb 3000 82 zu_106 zu_106g = true := by decide +kernel
/-- GreyRoute$State.copy: 49 steps -/
def zu_107g : List aSg := []
set_option maxRecDepth 100000 in
theorem zu_107_ok : ains zSh zgt zit rx_tb 3000 82 zu_107 zu_107g = true := by decide +kernel
/-- GreyRoute$State.copy: 49 steps -/
def zu_108g : List aSg := []
set_option maxRecDepth 100000 in
theorem zu_108_ok : ains zSh zgt zit rx_tb 3000 82 zu_108 zu_108g = true := by decide +kernel
/-- GreyRoute$State.copy: 49 steps -/
def zu_109g : List aSg := []
set_option maxRecDepth 100000 in
theorem zu_109_ok : ains zSh zgt zit rx_tb 3000 82 zu_109 zu_109g = true := by decide +kernel
/-- GreyRoute$State.copy: 49 steps -/
def zu_110g : List aSg := []
set_option maxRecDepth 100000 in
theorem zu_110_ok : ains zSh zgt zit rx_tb 3000 82 zu_110 zu_110g = true := by decide +kernel
/-- GreyRoute$State.copy: 49 steps -/
def zu_111g : List aSg := []
set_option maxRecDepth 100000 in
theorem zu_111_ok : ains zSh zgt zit rx_tb 3000 82 zu_111 zu_111g = true := by decide +kernel
/-- GreyRoute$State.copy: 49 steps -/
def zu_112g : List aSg := []
set_option maxRecDepth 100000 in
theorem zu_112_ok : ains zSh zgt zit rx_tb 3000 82 zu_112 zu_112g = true := by decide +kernel
/-- GreyRoute$State.copy: 49 steps -/
def zu_113g : List aSg := []
set_option maxRecDepth 100000 in
theorem zu_113_ok : ains zSh zgt zit rx_tb 3000 82 zu_113 zu_113g = true := by decide +kernel
/-- GreyRoute$State.copy: 49 steps -/
def zu_114g : List aSg := []
set_option maxRecDepth 100000 in
theorem zu_114_ok : ains zSh zgt zit rx_tb 3000 82 zu_114 zu_114g = true := by decide +kernel
/-- GreyRoute$State.copy: 49 steps -/
def zu_115g : List aSg := []
set_option maxRecDepth 100000 in
theorem zu_115_ok : ains zSh zgt zit rx_tb 3000 82 zu_115 zu_115g = true := by decide +kernel
/-- GreyRoute$State.copy: 49 steps -/
def zu_116g : List aSg := []
set_option maxRecDepth 100000 in
theorem zu_116_ok : ains zSh zgt zit rx_tb 3000 82 zu_116 zu_116g = true := by decide +kernel
/-- GreyRoute$State.copy: 49 steps -/
def zu_117g : List aSg := []
set_option maxRecDepth 100000 in
theorem zu_117_ok : ains zSh zgt zit rx_tb 3000 82 zu_117 zu_117g = true := by decide +kernel
/-- GreyRoute$State.copy: 49 steps -/
def zu_118g : List aSg := []
set_option maxRecDepth 100000 in
theorem zu_118_ok : ains zSh zgt zit rx_tb 3000 82 zu_118 zu_118g = true := by decide +kernel
/-- GreyRoute$State.copy: 49 steps -/
def zu_119g : List aSg := []
set_option maxRecDepth 100000 in
theorem zu_119_ok : ains zSh zgt zit rx_tb 3000 82 zu_119 zu_119g = true := by decide +kernel
/-- GreyRoute$State.copy: 49 steps -/
def zu_120g : List aSg := []
set_option maxRecDepth 100000 in
theorem zu_120_ok : ains zSh zgt zit rx_tb 3000 82 zu_120 zu_120g = true := by decide +kernel
/-- GreyRoute$State.copy: 49 steps -/
def zu_121g : List aSg := []
set_option maxRecDepth 100000 in
theorem zu_121_ok : ains zSh zgt zit rx_tb 3000 82 zu_121 zu_121g = true := by decide +kernel
/-- GreyRoute$State.copy: 49 steps -/
def zu_122g : List aSg := []
set_option maxRecDepth 100000 in
theorem zu_122_ok : ains zSh zgt zit rx_tb 3000 82 zu_122 zu_122g = true := by decide +kernel
/-- GreyRoute$State.copy: 49 steps -/
def zu_123g : List aSg := []
set_option maxRecDepth 100000 in
theorem zu_123_ok : ains zSh zgt zit rx_tb 3000 82 zu_123 zu_123g = true := by decide +kernel
/-- GreyRoute$State.copy: 49 steps -/
def zu_124g : List aSg := []
set_option maxRecDepth 100000 in
theorem zu_124_ok : ains zSh zgt zit rx_tb 3000 82 zu_124 zu_124g = true := by decide +kernel
/-- GreyRoute$State.copy: 49 steps -/
def zu_125g : List aSg := []
set_option maxRecDepth 100000 in
theorem zu_125_ok : ains zSh zgt zit rx_tb 3000 82 zu_125 zu_125g = true := by decide +kernel
/-- GreyRoute$State.copy: 49 steps -/
def zu_126g : List aSg := []
set_option maxRecDepth 100000 in
theorem zu_126_ok : ains zSh zgt zit rx_tb 3000 82 zu_126 zu_126g = true := by decide +kernel
/-- GreyRoute$State.copy: 49 steps -/
def zu_127g : List aSg := []
set_option maxRecDepth 100000 in
theorem zu_127_ok : ains zSh zgt zit rx_tb 3000 82 zu_127 zu_127g = true := by decide +kernel
/-- GreyRoute$State.copy: 49 steps -/
def zu_128g : List aSg := []
set_option maxRecDepth 100000 in
theorem zu_128_ok : ains zSh zgt zit rx_tb 3000 82 zu_128 zu_128g = true := by decide +kernel
/-- GreyRoute$State.copy: 49 steps -/
def zu_129g : List aSg := []
set_option maxRecDepth 100000 in
theorem zu_129_ok : ains zSh zgt zit rx_tb 3000 82 zu_129 zu_129g = true := by decide +kernel
/-- GreyRoute$State.copy: 49 steps -/
def zu_130g : List aSg := []
set_option maxRecDepth 100000 in
theorem zu_130_ok : ains zSh zgt zit rx_tb 3000 82 zu_130 zu_130g = true := by decide +kernel
/-- GreyRoute$State.copy: 49 steps -/
def zu_131g : List aSg := []
set_option maxRecDepth 100000 in
theorem zu_131_ok : ains zSh zgt zit rx_tb 3000 82 zu_131 zu_131g = true := by decide +kernel
