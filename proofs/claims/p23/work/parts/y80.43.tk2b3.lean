/-! printed by wip/p4/py/tk.py: a row of the tables in pieces (memory) -/
set_option maxRecDepth 100000 in
theorem rx_tk192_5_q : rx_wq 2008 = some (.code yX12_goesOn cX12_goesOn 5 (some .boolean)) := rfl
set_option maxRecDepth 100000 in
theorem rx_tk192_5_g : goodWord (.code yX12_goesOn cX12_goesOn 5 (some .boolean)) = true := by decide +kernel
set_option maxRecDepth 100000 in
theorem rx_tk192_5_p : plainFor yX12_goesOn = true := by decide +kernel
set_option maxRecDepth 100000 in
theorem rx_tk192_5_s : rx_seq rx_m197 = true := by decide +kernel
set_option maxRecDepth 100000 in
theorem rx_tk192_5 : rx_tkn 197 = true := by
  have hY : rx_mis.getD 197 rx_y0 = (yX12_goesOn, cX12_goesOn, 5, (some .boolean)) := rfl
  have hp : rx_cps.getD 197 0 = 2008 := rfl
  have hx : rx_tb.getD 197 rx_x0 = (rx_m197, 5, 0, 0, 2) := rfl
  unfold rx_tkn
  rw [hY, hp, hx]
  exact rx_tkb_of rfl rfl (rx_wd_of rx_tk192_5_q rx_tk192_5_g) rx_tk192_5_p rx_tk192_5_s rfl
