/-! printed by wip/p4/py/tk.py: a row of the tables in pieces (memory) -/
set_option maxRecDepth 100000 in
theorem rx_tk192_4_q : rx_wq 1985 = some (.code yX12_operand cX12_operand 4 (some .boolean)) := rfl
set_option maxRecDepth 100000 in
theorem rx_tk192_4_g : goodWord (.code yX12_operand cX12_operand 4 (some .boolean)) = true := by decide +kernel
set_option maxRecDepth 100000 in
theorem rx_tk192_4_p : plainFor yX12_operand = true := by decide +kernel
set_option maxRecDepth 100000 in
theorem rx_tk192_4_s : rx_seq rx_m196 = true := by decide +kernel
set_option maxRecDepth 100000 in
theorem rx_tk192_4 : rx_tkn 196 = true := by
  have hY : rx_mis.getD 196 rx_y0 = (yX12_operand, cX12_operand, 4, (some .boolean)) := rfl
  have hp : rx_cps.getD 196 0 = 1985 := rfl
  have hx : rx_tb.getD 196 rx_x0 = (rx_m196, 4, 0, 0, 2) := rfl
  unfold rx_tkn
  rw [hY, hp, hx]
  exact rx_tkb_of rfl rfl (rx_wd_of rx_tk192_4_q rx_tk192_4_g) rx_tk192_4_p rx_tk192_4_s rfl
