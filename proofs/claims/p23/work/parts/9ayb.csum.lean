/-! printed by wip/p4/py/c7.py: parts of the class's town by their summaries -/
def m_cForget : aM := ([(10, 5)], [])
def rq_cForget  (st : zS) : Prop := gInv zgt st
def en_cForget  (st : zS) (s1 : zS) : Prop := gInv zgt s1 ∧ aFr m_cForget st s1
def ct_cForget  (st : zS) (Q : zQ) : Prop := rq_cForget  st ∧ (∀ (s1 : zS), en_cForget  st s1 → Q none s1)
theorem ct_cForget_m {st : zS} {Q Q' : zQ} (hQ : ∀ r st', Q r st' → Q' r st') (h : ct_cForget  st Q) : ct_cForget  st Q' := ⟨h.1, fun x0 x1 => hQ _ _ (h.2 x0 x1)⟩
def k_cForget : zCall := fun _ as st Q => match as with
  | [.inr (.inr (.inl z_o))] => z_o = 10 ∧ ct_cForget  st Q
  | _ => False
def m_cRowsClear : aM := ([(115, 5)], [])
def rq_cRowsClear  (st : zS) : Prop := gInv zgt st
def en_cRowsClear  (st : zS) (s1 : zS) : Prop := gInv zgt s1 ∧ aFr m_cRowsClear st s1
def ct_cRowsClear  (st : zS) (Q : zQ) : Prop := rq_cRowsClear  st ∧ (∀ (s1 : zS), en_cRowsClear  st s1 → Q none s1)
theorem ct_cRowsClear_m {st : zS} {Q Q' : zQ} (hQ : ∀ r st', Q r st' → Q' r st') (h : ct_cRowsClear  st Q) : ct_cRowsClear  st Q' := ⟨h.1, fun x0 x1 => hQ _ _ (h.2 x0 x1)⟩
def k_cRowsClear : zCall := fun _ as st Q => match as with
  | [.inr (.inr (.inl z_o))] => z_o = 115 ∧ ct_cRowsClear  st Q
  | _ => False
section R9z
variable {cl : Nat → zCall}
theorem c_cForget (hTb : aTb zSh rx_tb cl) {D : Nat} (hD : 3 ≤ D) {st : zS} {Q : zQ} (h : ct_cForget st Q) : cl D 146 [.inr (.inr (.inl 10))] st Q := kYv_m (ains_ok hTb zb_f_ok D (fun d' _ => z_all hTb d')) rfl (by show 2 ≤ D; omega) rfl _ _ _ Q (fun _ _ z => z) ⟨⟨rfl, True.intro⟩, h.1, fun s1 g f => h.2 s1 ⟨g, f⟩⟩
theorem k_cForget_m (hTb : aTb zSh rx_tb cl) {D : Nat} (hD : 3 ≤ D) : ∀ as st (Q Q' : zQ), (∀ r st', Q r st' → Q' r st') → k_cForget 146 as st Q → cl D 146 as st Q' := by
  intro as st Q Q' hQ h
  unfold k_cForget at h
  split at h
  · obtain ⟨rfl, h⟩ := h
    exact c_cForget hTb hD (ct_cForget_m hQ h)
  · exact h.elim
theorem c_cRowsClear (hTb : aTb zSh rx_tb cl) {D : Nat} (hD : 3 ≤ D) {st : zS} {Q : zQ} (h : ct_cRowsClear st Q) : cl D 147 [.inr (.inr (.inl 115))] st Q := kYv_m (ains_ok hTb zb_c_ok D (fun d' _ => z_all hTb d')) rfl (by show 2 ≤ D; omega) rfl _ _ _ Q (fun _ _ z => z) ⟨⟨rfl, True.intro⟩, h.1, fun s1 g f => h.2 s1 ⟨g, f⟩⟩
theorem k_cRowsClear_m (hTb : aTb zSh rx_tb cl) {D : Nat} (hD : 3 ≤ D) : ∀ as st (Q Q' : zQ), (∀ r st', Q r st' → Q' r st') → k_cRowsClear 147 as st Q → cl D 147 as st Q' := by
  intro as st Q Q' hQ h
  unfold k_cRowsClear at h
  split at h
  · obtain ⟨rfl, h⟩ := h
    exact c_cRowsClear hTb hD (ct_cRowsClear_m hQ h)
  · exact h.elim
end R9z
