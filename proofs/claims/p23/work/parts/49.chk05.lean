/-! printed by wip/p32/chk.py: the class, method by method -/
/-- GreyRoute$Words.advance: 13219 steps -/
def zu_178g : List aSg := [(10, [(0, .inr (.inr 149)), (1, .inl (.ofNat 0, .ofNat 1)), (2, .inl (.ofNat 0, .ofNat 1600))], [(149, 2)], [.inl 3990, .inr (.inr (149, 2), true, .ofNat 1600)])]
set_option maxRecDepth 100000 in
theorem zu_178_ok : ains zSh zgt zit rx_tb 3000 143 zu_178 zu_178g = true := by decide +kernel
