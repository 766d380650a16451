def rx_dV : DecidableEq rx_V := inferInstance
def rx_dP : DecidableEq (Nat × rx_V) := letI := rx_dV; inferInstance
def rx_dL : DecidableEq (List (Nat × rx_V)) := letI := rx_dP; inferInstance
def rx_dS : DecidableEq (List rx_V) := letI := rx_dV; inferInstance
def rx_dO : DecidableEq (Nat × List rx_V) := letI := rx_dS; inferInstance
def rx_dA : DecidableEq (Nat × Nat × List (Nat × rx_V)) := letI := rx_dL; inferInstance
def rx_dC : DecidableEq rx_C := letI := rx_dO; letI := rx_dA; inferInstance
def rx_dW : DecidableEq (List rx_C) := letI := rx_dC; inferInstance
noncomputable def rx_G0 (F : rx_F) : rx_G := (F, true, 6, rx_txt, 125, rx_dfs)
noncomputable def rx_is (o : Option rx_R) (pc : Nat) (L : rx_L) (S : List rx_V) (w : List rx_C) (cc ss : Nat) : Bool := match o with
  | some (e :: _, L', S', w', cc', ss') => Nat.beq e.1 pc && (@decide _ (rx_dL L' L) && (@decide _ (rx_dS S' S) && (@decide _ (rx_dW w' w) && (Nat.beq cc' cc && Nat.beq ss' ss))))
  | _ => false

noncomputable def rx_isd (q : Nat) (o : Option rx_R) (pc : Nat) (L : rx_L) (S : List rx_V) (w : List rx_C) (cc ss : Nat) : Bool := match o with
  | some (e :: _, L', S', w', cc', ss') => (match q with
    | 0 => Nat.beq e.1 pc
    | 1 => @decide _ (rx_dL L' L)
    | 2 => @decide _ (rx_dS S' S)
    | 3 => @decide _ (rx_dW w' w)
    | 4 => Nat.beq cc' cc
    | 5 => Nat.beq ss' ss
    | _ => Nat.beq w'.length w.length)
  | _ => false
set_option maxRecDepth 1000000 in
theorem rx_t0 : rx_is (rx_loop (rx_G0 []) rx_mL 4 600000 7302250 (rx_cap rx_tb) (rx_ex (rx_G0 []) rx_tb 10000000 20) 18 10000000 rx_mL [(0, .inr (.inr (.inr 0)))] [] [] 0 0) 18 rx_L0 [] rx_w0 221 26609 = true := by decide +kernel
