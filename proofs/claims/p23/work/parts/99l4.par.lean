/-! the whole text: a town, or none -/
def CHI (t : Int → Int) (n : Int) (T : zS) (q i : Int) : Prop := ∃ (T0 : zS) (p0 : Int), Clr T0 ∧ wrn (fun j => wbl (tcc t n j)) 0 p0 ∧ Chn t n T0 p0 i.toNat T q
def POK (t : Int → Int) (n : Int) (T : zS) (m : Int) : Prop := ∃ (k : Nat) (T0 : zS) (p0 q : Int), Clr T0 ∧ wrn (fun j => wbl (tcc t n j)) 0 p0 ∧ Chn t n T0 p0 k T q ∧ k ≤ 80 ∧ m = (k : Int) ∧ ∃ v e : Int, tk t n q 0 v e
def PNO (t : Int → Int) (n : Int) : Prop := ∃ (k : Nat) (T0 : zS) (p0 : Int) (T : zS) (q : Int), Clr T0 ∧ wrn (fun j => wbl (tcc t n j)) 0 p0 ∧ Chn t n T0 p0 k T q ∧ (¬ ∃ v e : Int, tk t n q 0 v e) ∧ ((k < 80 ∧ FS t n T q) ∨ k = 80)
theorem end_no {st : zS} (h : RDc st) (ho : cOW st) (hk : ¬ st 149 3 = 0) : ¬ ∃ v e : Int, tk (ctx st) (st 1 1) (st 149 5) 0 v e := by
  intro hx
  obtain ⟨v, e, h1⟩ := hx
  obtain ⟨k', v', e', h3, h4⟩ := rd_tk h ho
  have u := tk_u h3 h1
  exact hk ((tv_n h4).2.2.1.mp u.1)
theorem end_is {st : zS} (h : RDc st) (ho : cOW st) (hk : st 149 3 = 0) : ∃ v e : Int, tk (ctx st) (st 1 1) (st 149 5) 0 v e := by
  obtain ⟨k', v', e', h3, h4⟩ := rd_tk h ho
  have z := (tv_n h4).2.2.1.mpr hk
  subst z
  exact ⟨v', e', h3⟩
