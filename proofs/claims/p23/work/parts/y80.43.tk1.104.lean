/-! printed by wip/p4/py/tk.py: a row of the tables in pieces (memory) -/
theorem rx_wd_of {p : Nat} {w : Jvm.Cond} (h : rx_wq p = some w) (g : goodWord w = true) : rx_wd p w = true := by
  unfold rx_wd
  rw [g, Bool.and_true]
  exact decide_eq_true h
theorem rx_tkb_of {x : List rx_E × Nat × Nat × Nat × Nat} {Y : rx_Y} {p : Nat} (h1 : Nat.beq Y.2.2.1 x.2.1 = true) (h2 : rx_rk x.2.2.2.2 Y.2.2.2 = true) (h3 : rx_wd p (.code Y.1 Y.2.1 Y.2.2.1 Y.2.2.2) = true) (h4 : plainFor Y.1 = true) (h5 : rx_seq x.1 = true) (h6 : (match x.1 with
  | e :: _ => Nat.beq e.1 0
  | [] => false) = true) : rx_tkb x Y p = true := by
  unfold rx_tkb
  rw [h1, h2, h3, h4, h5]
  exact h6
set_option maxRecDepth 100000 in
theorem rx_tk104_0_q : rx_wq 1582 = some (.code yX12_init cX12_init 2 none) := rfl
set_option maxRecDepth 100000 in
theorem rx_tk104_0_g : goodWord (.code yX12_init cX12_init 2 none) = true := by decide +kernel
set_option maxRecDepth 100000 in
theorem rx_tk104_0_p : plainFor yX12_init = true := by decide +kernel
set_option maxRecDepth 100000 in
theorem rx_tk104_0_s : rx_seq rx_m104 = true := by decide +kernel
set_option maxRecDepth 100000 in
theorem rx_tk104_0 : rx_tkn 104 = true := by
  have hY : rx_mis.getD 104 rx_y0 = (yX12_init, cX12_init, 2, none) := rfl
  have hp : rx_cps.getD 104 0 = 1582 := rfl
  have hx : rx_tb.getD 104 rx_x0 = (rx_m104, 2, 50, 14622, 0) := rfl
  unfold rx_tkn
  rw [hY, hp, hx]
  exact rx_tkb_of rfl rfl (rx_wd_of rx_tk104_0_q rx_tk104_0_g) rx_tk104_0_p rx_tk104_0_s rfl
set_option maxRecDepth 100000 in
theorem rx_tk104_1 : rx_tkn 105 = true := by decide +kernel
set_option maxRecDepth 100000 in
theorem rx_tk104_2 : rx_tkn 106 = true := by decide +kernel
set_option maxRecDepth 100000 in
theorem rx_tk104_3 : rx_tkn 107 = true := by decide +kernel
set_option maxRecDepth 100000 in
theorem rx_tk104_4 : rx_tkn 108 = true := by decide +kernel
set_option maxRecDepth 100000 in
theorem rx_tk104_5 : rx_tkn 109 = true := by decide +kernel
set_option maxRecDepth 100000 in
theorem rx_tk104_6 : rx_tkn 110 = true := by decide +kernel
set_option maxRecDepth 100000 in
theorem rx_tk104_7 : rx_tkn 111 = true := by decide +kernel
theorem rx_tk104 : (List.range 8).all (fun i => rx_tkn (104 + i)) = true := by
  show (rx_tkn 104 && (rx_tkn 105 && (rx_tkn 106 && (rx_tkn 107 && (rx_tkn 108 && (rx_tkn 109 && (rx_tkn 110 && (rx_tkn 111 && true)))))))) = true
  rw [rx_tk104_0, rx_tk104_1, rx_tk104_2, rx_tk104_3, rx_tk104_4, rx_tk104_5, rx_tk104_6, rx_tk104_7]
  rfl
