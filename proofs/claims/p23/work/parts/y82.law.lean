/-! the law's own table is what it must be -/
set_option maxRecDepth 100000 in
theorem rx_ml0 : ((rx_mL.drop (0 + 0 * 100)).take 100).all (rx_okb rx_mis "GreyRouteLaw" "law" code) = true := by decide +kernel
set_option maxRecDepth 100000 in
theorem rx_ml1 : ((rx_mL.drop (0 + 1 * 100)).take 100).all (rx_okb rx_mis "GreyRouteLaw" "law" code) = true := by decide +kernel
set_option maxRecDepth 100000 in
theorem rx_ml2 : ((rx_mL.drop (0 + 2 * 100)).take 100).all (rx_okb rx_mis "GreyRouteLaw" "law" code) = true := by decide +kernel
set_option maxRecDepth 100000 in
theorem rx_ml3 : ((rx_mL.drop (0 + 3 * 100)).take 100).all (rx_okb rx_mis "GreyRouteLaw" "law" code) = true := by decide +kernel
set_option maxRecDepth 100000 in
theorem rx_ml4 : ((rx_mL.drop (0 + 4 * 100)).take 100).all (rx_okb rx_mis "GreyRouteLaw" "law" code) = true := by decide +kernel
set_option maxRecDepth 100000 in
theorem rx_ml5 : ((rx_mL.drop (0 + 5 * 100)).take 100).all (rx_okb rx_mis "GreyRouteLaw" "law" code) = true := by decide +kernel
set_option maxRecDepth 100000 in
theorem rx_ml6 : ((rx_mL.drop (0 + 6 * 100)).take 100).all (rx_okb rx_mis "GreyRouteLaw" "law" code) = true := by decide +kernel
set_option maxRecDepth 100000 in
theorem rx_ml7 : ((rx_mL.drop (0 + 7 * 100)).take 100).all (rx_okb rx_mis "GreyRouteLaw" "law" code) = true := by decide +kernel
theorem rx_mL_len : rx_mL.length ≤ 0 + 8 * 100 := by decide +kernel
theorem rx_mL_ok : rx_mL.all (rx_okb rx_mis "GreyRouteLaw" "law" code) = true := by
  have h := rx_alln (f := rx_okb rx_mis "GreyRouteLaw" "law" code) (xs := rx_mL) (n := 100) (by decide) 8 0 rx_mL_len (fun j hj => by
    match j, hj with
    | 0, _ => exact rx_ml0
    | 1, _ => exact rx_ml1
    | 2, _ => exact rx_ml2
    | 3, _ => exact rx_ml3
    | 4, _ => exact rx_ml4
    | 5, _ => exact rx_ml5
    | 6, _ => exact rx_ml6
    | 7, _ => exact rx_ml7
    | j + 8, hj => omega)
  exact h
set_option maxRecDepth 100000 in
theorem rx_mL_sq : rx_seq rx_mL = true := by decide +kernel
