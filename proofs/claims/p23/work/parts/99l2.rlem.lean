/-! what a token is not -/
theorem isN6_lo {v x : Int} (h : isN6 v x) : 33554432 ≤ x ∧ x ≤ 1073741823 := by
  obtain ⟨a, b, c, d, e, f, h1, h2, h3, h4, h5, h6, hx, -⟩ := h
  omega
theorem nam_no {st : zS} (h : RDc st) (ho : cOW st) (hk : ¬ st 149 3 = 1) : ¬ ∃ v e : Int, tk (ctx st) (st 1 1) (st 149 5) 1 v e ∧ NOwn v := by
  intro hx
  obtain ⟨v, e, h1, h2⟩ := hx
  obtain ⟨k', v', e', h3, h4⟩ := rd_tk h ho
  have u := tk_u h3 h1
  obtain ⟨rfl, rfl, rfl⟩ := u
  rcases h4 with ⟨a, b⟩ | ⟨a, b, c, d⟩ | ⟨a, b, c, d, e⟩ | ⟨a, b, c⟩ | ⟨a, b, c⟩ | ⟨a, b⟩
  · omega
  · exact hk b
  · exact h2 _ (by omega) e
  · omega
  · omega
  · omega
theorem nam_tk {st : zS} (h : RDc st) (ho : cOW st) (hk : st 149 3 = 1) : ∃ v e : Int, tk (ctx st) (st 1 1) (st 149 5) 1 v e ∧ isN6 v (st 149 4) ∧ NOwn v := by
  obtain ⟨k', v', e', h3, h4⟩ := rd_tk h ho
  rcases h4 with ⟨a, b⟩ | ⟨a, b, c, d⟩ | ⟨a, b, c, d, e⟩ | ⟨a, b, c⟩ | ⟨a, b, c⟩ | ⟨a, b⟩
  · omega
  · subst a; exact ⟨v', e', h3, c, d⟩
  · omega
  · omega
  · omega
  · omega
theorem own_no {st : zS} (h : RDc st) (ho : cOW st) {i : Nat} (hi : i < 26) (hk : ¬ (st 149 3 = 2 ∧ st 149 4 = (i : Int))) : ¬ ∃ e : Int, tk (ctx st) (st 1 1) (st 149 5) 1 (owv i) e := by
  intro hx
  obtain ⟨e, h1⟩ := hx
  obtain ⟨k', v', e', h3, h4⟩ := rd_tk h ho
  have u := tk_u h3 h1
  exact hk ((tv_w h4 i hi).mp ⟨u.1, u.2.1⟩)
theorem own_nk {st : zS} (h : RDc st) (ho : cOW st) (hk : ¬ st 149 3 = 2) : ¬ ∃ (i : Nat) (e : Int), i < 26 ∧ tk (ctx st) (st 1 1) (st 149 5) 1 (owv i) e := by
  intro hx
  obtain ⟨i, e, hi, h1⟩ := hx
  exact own_no h ho hi (fun z => hk z.1) ⟨e, h1⟩
theorem sig_no {st : zS} (h : RDc st) (ho : cOW st) {x : Int} (hk : ¬ (st 149 3 = 4 ∧ st 149 4 = x)) : ¬ ∃ e : Int, tk (ctx st) (st 1 1) (st 149 5) 3 x e := by
  intro hx
  obtain ⟨e, h1⟩ := hx
  obtain ⟨k', v', e', h3, h4⟩ := rd_tk h ho
  have u := tk_u h3 h1
  exact hk ((tv_s h4 x).mp ⟨u.1, u.2.1⟩)
theorem num_no {st : zS} (h : RDc st) (ho : cOW st) {a b : Int} (hk : st 149 3 = 3 → ¬ (a ≤ st 149 4 ∧ st 149 4 ≤ b)) : ¬ ∃ v e : Int, tk (ctx st) (st 1 1) (st 149 5) 2 v e ∧ a ≤ v ∧ v ≤ b := by
  intro hx
  obtain ⟨v, e, h1, h2, h5⟩ := hx
  obtain ⟨k', v', e', h3, h4⟩ := rd_tk h ho
  have u := tk_u h3 h1
  have z := tv_n h4
  have z1 := z.1.mp u.1
  have z2 := z.2.1 u.1
  refine hk z1 ?_
  rw [← z2, u.2.1]
  exact ⟨h2, h5⟩
/-- a number read is not below 0 -/
theorem tk_num {t : Int → Int} {n p v q : Int} (h : tk t n p 2 v q) : 0 ≤ v ∧ v ≤ 9999 := by
  obtain ⟨e, h1, -⟩ := h
  exact TK_num h1 rfl
/-- the steps told are in places told -/
def TIv (T : zS) : Prop := ∀ j : Int, 0 ≤ j → j < T 9 2 → 0 ≤ T 10 j.toNat ∧ T 10 j.toNat < T 0 1
theorem neg_e {P Q : Prop} (h : ¬ P) (k : Q → P) : ¬ Q := fun z => h (k z)
theorem tk_ex {st s : zS} (hT : sT st s) {p k v : Int} (h : ¬ ∃ e : Int, tk (ctx s) (s 1 1) p k v e) : ¬ ∃ e : Int, tk (ctx st) (st 1 1) p k v e := by
  rw [hT.1, hT.2.1] at h
  exact h
theorem KnP_b {T : zS} {v a : Int} (h : KnP T v a) : 0 ≤ a ∧ a < T 0 1 := by
  obtain ⟨-, x, -, ⟨a1, a2, -⟩, -⟩ := h
  exact ⟨a1, a2⟩
