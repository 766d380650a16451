/-! printed by wip/p32/tables.py, then parted by hand -/
theorem rx_tk192 : (List.range 8).all (fun i => rx_tkn (192 + i)) = true := by
  show (rx_tkn 192 && (rx_tkn 193 && (rx_tkn 194 && (rx_tkn 195 && (rx_tkn 196 && (rx_tkn 197 && (rx_tkn 198 && (rx_tkn 199 && true)))))))) = true
  rw [rx_tk192_0, rx_tk192_1, rx_tk192_2, rx_tk192_3, rx_tk192_4, rx_tk192_5, rx_tk192_6, rx_tk192_7]
  rfl
