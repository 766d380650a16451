/-! printed by wip/p1/tables.py -/
theorem rx_tk_lt : ∀ nu, nu < 178 → rx_tkn nu = true := by
  intro nu h
  have go : ∀ a n : Nat, (List.range n).all (fun i => rx_tkn (a + i)) = true → a ≤ nu → nu < a + n → rx_tkn nu = true := fun a n h1 h2 h3 => by
    have h4 := List.all_eq_true.mp h1 (nu - a) (List.mem_range.mpr (by omega))
    rw [show a + (nu - a) = nu by omega] at h4
    exact h4
  by_cases h0 : nu < 15
  · exact go 0 15 rx_tk0 (by omega) h0
  by_cases h15 : nu < 30
  · exact go 15 15 rx_tk15 (by omega) h15
  by_cases h30 : nu < 45
  · exact go 30 15 rx_tk30 (by omega) h30
  by_cases h45 : nu < 60
  · exact go 45 15 rx_tk45 (by omega) h45
  by_cases h60 : nu < 75
  · exact go 60 15 rx_tk60 (by omega) h60
  by_cases h75 : nu < 90
  · exact go 75 15 rx_tk75 (by omega) h75
  by_cases h90 : nu < 105
  · exact go 90 15 rx_tk90 (by omega) h90
  by_cases h105 : nu < 120
  · exact go 105 15 rx_tk105 (by omega) h105
  by_cases h120 : nu < 135
  · exact go 120 15 rx_tk120 (by omega) h120
  by_cases h135 : nu < 150
  · exact go 135 15 rx_tk135 (by omega) h135
  by_cases h150 : nu < 165
  · exact go 150 15 rx_tk150 (by omega) h150
  by_cases h165 : nu < 178
  · exact go 165 13 rx_tk165 (by omega) h165
  omega
theorem rx_tb_len : rx_tb.length = 178 := by decide +kernel
theorem rx_mis_len : rx_mis.length = 178 := by decide +kernel
theorem rx_T_ok : ∀ (nu : Nat) (x : List rx_E × Nat × Nat × Nat × Nat), rx_tb[nu]? = some x → ∃ Y, rx_mis[nu]? = some Y ∧ rx_tOk rx_mis x Y := by
  intro nu x hx
  have hlt : nu < rx_tb.length := (List.getElem?_eq_some_iff.mp hx).1
  have h2 : nu < rx_mis.length := by rw [rx_mis_len]; rw [rx_tb_len] at hlt; exact hlt
  refine ⟨rx_mis[nu], List.getElem?_eq_getElem h2, ?_⟩
  have h3 := rx_tk_lt nu (by rw [rx_tb_len] at hlt; exact hlt)
  unfold rx_tkn at h3
  rw [List.getD_eq_getElem?_getD, hx, List.getD_eq_getElem?_getD, List.getElem?_eq_getElem h2] at h3
  exact rx_tkb_ok h3
