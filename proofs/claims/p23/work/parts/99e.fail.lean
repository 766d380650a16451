/-! the driver, where it is not there -/
section DRF
variable (t : Int → Int) (n : Int) (KH : mKH) (KF : Prop)
def Fz4 (o p : Int) : Prop := ∀ (k ph bg pr : Int) (w : List Int) (fs : List mFr) (c0 : List Int), 0 ≤ o ∧ o ≤ 7 → NB t n k bg p → (fs.length : Int) ≤ o → (w.length : Int) + (7 - o) ≤ 14 → KF → KH ((k, ph, bg, pr, w) :: fs) 0 o c0 p
def Fz2 (o p : Int) : Prop := ∀ (k ph bg pr : Int) (w : List Int) (fs : List mFr) (c0 : List Int), 0 ≤ o ∧ o ≤ 7 → NB t n k bg p → (fs.length : Int) ≤ o → (w.length : Int) + 1 + (7 - o) ≤ 14 → TR w 6 → ph < 2 → KF → KH ((k, ph, bg, pr, w) :: fs) 0 o c0 p
def Fz3 (o p : Int) : Prop := ∀ (k ph pr : Int) (w : List Int) (fs : List mFr) (c0 u : List Int), 0 ≤ o ∧ o ≤ 7 → (fs.length : Int) ≤ o → (w.length : Int) + 1 + (7 - o) ≤ 14 → TR w 6 → ph < 2 → RG u 6 → KF → KH ((k, ph, 0, pr, u ++ w) :: fs) 1 o c0 p
def Fz0 (o p : Int) : Prop := ∀ (k ph bg pr : Int) (w : List Int) (fs : List mFr) (c0 : List Int), 0 ≤ o ∧ o ≤ 7 → NB t n k bg p → (fs.length : Int) ≤ o → (w.length : Int) + 2 + (7 - o) ≤ 14 → TR w 5 → ph < 2 → KF → KH ((k, ph, bg, pr, w) :: fs) 0 o c0 p
def Fz1 (o p : Int) : Prop := ∀ (k ph pr : Int) (w : List Int) (fs : List mFr) (c0 u : List Int), 0 ≤ o ∧ o ≤ 7 → (fs.length : Int) ≤ o → (w.length : Int) + 2 + (7 - o) ≤ 14 → TR w 5 → ph < 2 → RG u 5 → NM t n p → KF → KH ((k, ph, 0, pr, u ++ w) :: fs) 1 o c0 p
def Fz9 (o p : Int) : Prop := ∀ (k pr : Int) (w : List Int) (fs : List mFr) (c0 : List Int), 0 ≤ o ∧ o ≤ 7 → isT k → (fs.length : Int) ≤ o → (w.length : Int) + 3 + (7 - o) ≤ 14 → TR w 4 → KF → KH ((k, 0, 1, pr, w) :: fs) 0 o c0 p
def Fz10 (o p : Int) : Prop := ∀ (k pr : Int) (w : List Int) (fs : List mFr) (c0 : List Int), NB t n k 1 p → 0 ≤ o ∧ o ≤ 7 → isT k → (fs.length : Int) ≤ o → (w.length : Int) + 3 + (7 - o) ≤ 14 → TR w 4 → KF → KH ((k, 0, 1, pr, w) :: fs) 0 o c0 p
def Fz7 (o p : Int) : Prop := ∀ (k pr : Int) (w : List Int) (fs : List mFr) (c0 : List Int), 0 ≤ o ∧ o ≤ 7 → isT k → (fs.length : Int) ≤ o → (w.length : Int) + 4 + (7 - o) ≤ 14 → TR w 2 → KF → KH ((k, 0, 1, pr, w) :: fs) 0 o c0 p
def Fz8 (o p : Int) : Prop := ∀ (k pr : Int) (w : List Int) (fs : List mFr) (c0 u : List Int) (ph : Int), 0 ≤ o ∧ o ≤ 7 → isT k → (fs.length : Int) ≤ o → (w.length : Int) + 4 + (7 - o) ≤ 14 → TR w 2 → RG u 2 → PHC t n ph p → KF → KH ((k, ph, 0, pr, u ++ w) :: fs) 1 (o + nots u) c0 p
def Fz5 (o p : Int) : Prop := ∀ (k pr : Int) (fs : List mFr) (c0 : List Int), 0 ≤ o ∧ o ≤ 7 → isT k → (fs.length : Int) ≤ o → KF → KH ((k, 0, 1, pr, []) :: fs) 0 o c0 p
def Fz6 (o p : Int) : Prop := ∀ (k pr : Int) (fs : List mFr) (c0 u : List Int) (ph : Int), 0 ≤ o ∧ o ≤ 7 → isT k → (fs.length : Int) ≤ o → PHC t n ph p → NAn t n p → KF → KH ((k, ph, 0, pr, u) :: fs) 1 (o + nots u) c0 p
def DF (tag : Nat) (o p : Int) : Prop := match tag with
  | 0 => Fz0 t n KH KF o p
  | 1 => Fz1 t n KH KF o p
  | 2 => Fz2 t n KH KF o p
  | 3 => Fz3 KH KF o p
  | 4 => Fz4 t n KH KF o p
  | 5 => Fz5 KH KF o p
  | 6 => Fz6 t n KH KF o p
  | 7 => Fz7 KH KF o p
  | 8 => Fz8 t n KH KF o p
  | 9 => Fz9 KH KF o p
  | _ => Fz10 t n KH KF o p
end DRF
section DRF2
variable {t : Int → Int} {n : Int} {cv : Prop} {KH : mKH} {KF : Prop} {KE : List Int → Int → Prop}
theorem f_sum1 (o p : Int) (h : Fz2 t n KH KF o p) : Fz0 t n KH KF o p := fun k ph bg pr w fs c0 ho hb hf hl ht hp => h k ph bg pr w fs c0 ho hb hf (by omega) (TR_le ht (by omega)) hp
theorem f_sum2 (hK : KCl t n cv KH KF KE) (o p q : Int) (c1 : List Int) (h1 : Gr t n cv 2 o p q c1) (h2 : Fz1 t n KH KF o q) : Fz0 t n KH KF o p := by
  intro k ph bg pr w fs c0 ho hb hf hl ht hp hF
  exact (show S2 t n KH o p q c1 from Gr_drv hK h1) k ph bg pr w fs c0 ho hb hf (by omega) (TR_le ht (by omega)) hp (fun u d hu hd hn => h2 k ph pr w fs _ u ho hf hl ht hp (RG_le hu (by omega)) hn hF)
theorem f_sumM1 (hK : KCl t n cv KH KF KE) (o p v e : Int) (h1 : tk t n p 3 v e) (h2 : v = 43 ∨ v = 45) (h3 : Fz2 t n KH KF o e) : Fz1 t n KH KF o p := by
  intro k ph pr w fs c0 u ho hf hl ht hp hu hn hF
  refine kc_G1 hK k ph 0 pr o p v e u w c0 fs h1 h2 hp hu ht (by omega) ?_
  exact h3 k ph 0 pr (sop v :: w) fs _ ho (NB_0 _ _) hf (by rw [List.length_cons]; omega) (TR_c (by rw [rk_a h2]; omega)) hp hF
theorem f_sumM2 (hK : KCl t n cv KH KF KE) (o p v e q : Int) (c1 : List Int) (h1 : tk t n p 3 v e) (h2 : v = 43 ∨ v = 45) (h3 : Gr t n cv 2 o e q c1) (h4 : Fz1 t n KH KF o q) : Fz1 t n KH KF o p := by
  intro k ph pr w fs c0 u ho hf hl ht hp hu hn hF
  refine kc_G1 hK k ph 0 pr o p v e u w c0 fs h1 h2 hp hu ht (by omega) ?_
  refine (show S2 t n KH o e q c1 from Gr_drv hK h3) k ph 0 pr (sop v :: w) fs _ ho (NB_0 _ _) hf (by rw [List.length_cons]; omega) (TR_c (by rw [rk_a h2]; omega)) hp (fun u2 d2 hu2 hd2 hn2 => ?_)
  have z := h4 k ph pr w fs (c0 ++ u ++ d2) (u2 ++ [sop v]) ho hf hl ht hp (RG_app (RG_le hu2 (by omega)) (RG_one (by rw [rk_a h2]; omega))) hn2 hF
  simp only [List.append_assoc, List.cons_append, List.nil_append] at z ⊢
  exact z
theorem f_prd1 (o p : Int) (h : Fz4 t n KH KF o p) : Fz2 t n KH KF o p := fun k ph bg pr w fs c0 ho hb hf hl ht hp => h k ph bg pr w fs c0 ho hb hf (by omega)
theorem f_prd2 (hK : KCl t n cv KH KF KE) (o p q : Int) (c1 : List Int) (h1 : Gr t n cv 4 o p q c1) (h2 : Fz3 KH KF o q) : Fz2 t n KH KF o p := by
  intro k ph bg pr w fs c0 ho hb hf hl ht hp hF
  exact (show S4 t n KH o p q c1 from Gr_drv hK h1) k ph bg pr w fs c0 ho hb hf (by omega) (h2 k ph pr w fs _ [] ho hf hl ht hp (RG_nil _) hF)
theorem f_prdM1 (hK : KCl t n cv KH KF KE) (o p v e : Int) (h1 : tk t n p 3 v e) (h2 : v = 42 ∨ v = 47 ∨ v = 37) (h3 : Fz4 t n KH KF o e) : Fz3 KH KF o p := by
  intro k ph pr w fs c0 u ho hf hl ht hp hu hF
  refine kc_G2 hK k ph 0 pr o p v e u w c0 fs h1 h2 hp hu ht (by omega) ?_
  exact h3 k ph 0 pr (sop v :: w) fs _ ho (NB_0 _ _) hf (by rw [List.length_cons]; omega) hF
theorem f_prdM2 (hK : KCl t n cv KH KF KE) (o p v e q : Int) (c1 : List Int) (h1 : tk t n p 3 v e) (h2 : v = 42 ∨ v = 47 ∨ v = 37) (h3 : Gr t n cv 4 o e q c1) (h4 : Fz3 KH KF o q) : Fz3 KH KF o p := by
  intro k ph pr w fs c0 u ho hf hl ht hp hu hF
  refine kc_G2 hK k ph 0 pr o p v e u w c0 fs h1 h2 hp hu ht (by omega) ?_
  refine (show S4 t n KH o e q c1 from Gr_drv hK h3) k ph 0 pr (sop v :: w) fs _ ho (NB_0 _ _) hf (by rw [List.length_cons]; omega) ?_
  exact h4 k ph pr w fs _ [sop v] ho hf hl ht hp (RG_one (by rw [rk_m h2]; omega)) hF
theorem f_bad (hK : KCl t n cv KH KF KE) (o p kk v e : Int) (h1 : tk t n p kk v e) (h2 : ¬ kk = 2) (h3 : ¬ (kk = 3 ∧ v = 40)) (h4 : ¬ (kk = 1 ∧ (figOk cv v ∨ v = 7170414 ∨ v = 7168376 ∨ v = 26982))) : Fz4 t n KH KF o p := by
  intro k ph bg pr w fs c0 ho hb hf hl hF
  exact kc_O8 hK k ph bg pr o p kk v e w c0 fs h1 h2 h3 h4 (fun z1 z2 => hb z1 z2 _ _ _ h1) hF
theorem f_par0 (hK : KCl t n cv KH KF KE) (o p e : Int) (h1 : tk t n p 3 40 e) (h2 : 7 ≤ o) : Fz4 t n KH KF o p := by
  intro k ph bg pr w fs c0 ho hb hf hl hF
  exact kc_O4f hK k ph bg pr o p e w c0 fs h1 h2 hF
theorem f_par1 (hK : KCl t n cv KH KF KE) (o p e : Int) (h1 : tk t n p 3 40 e) (h2 : o < 7) (h3 : Fz0 t n KH KF (o + 1) e) : Fz4 t n KH KF o p := by
  intro k ph bg pr w fs c0 ho hb hf hl hF
  refine kc_O4 hK k ph bg pr o p e w c0 fs h1 h2 (by omega) (fun r => ?_)
  exact h3 2 0 1 r [] _ c0 (by omega) (NB_k nT2) (by rw [List.length_cons]; omega) (by rw [List.length_nil]; omega) (TR_nil _) (by omega) hF
theorem f_par2 (hK : KCl t n cv KH KF KE) (o p e q kk v e1 : Int) (c1 : List Int) (h1 : tk t n p 3 40 e) (h2 : o < 7) (h3 : Gr t n cv 0 (o + 1) e q c1) (h4 : tk t n q kk v e1) (h5 : ¬ (kk = 3 ∧ v = 41)) : Fz4 t n KH KF o p := by
  intro k ph bg pr w fs c0 ho hb hf hl hF
  refine kc_O4 hK k ph bg pr o p e w c0 fs h1 h2 (by omega) (fun r => ?_)
  refine (show S0 t n KH (o + 1) e q c1 from Gr_drv hK h3) 2 0 1 r [] _ c0 (by omega) (NB_k nT2) (by rw [List.length_cons]; omega) (by rw [List.length_nil]; omega) (TR_nil _) (by omega) (fun u d hu hd hn => ?_)
  exact kc_G7f hK 2 0 0 r (o + 1) q kk v e1 _ _ _ (Or.inl rfl) h4 (by rw [if_neg (show ¬ (2 : Int) = 5 by omega)]; exact h5) (fun _ => hn _ _ _ h4) (fun z => by omega) hF
theorem f_two0 (hK : KCl t n cv KH KF KE) (o p v e kk u e1 : Int) (h1 : tk t n p 1 v e) (h2 : v = 7170414 ∨ v = 7168376 ∨ v = 26982) (h3 : tk t n e kk u e1) (h4 : ¬ (kk = 3 ∧ u = 40) ∨ 7 ≤ o) : Fz4 t n KH KF o p := by
  intro k ph bg pr w fs c0 ho hb hf hl hF
  exact kc_O5f hK k ph bg pr o p v e kk u e1 w c0 fs h1 h2 h3 h4 hF
theorem f_two1 (hK : KCl t n cv KH KF KE) (o p v e e1 : Int) (h1 : tk t n p 1 v e) (h2 : v = 7170414 ∨ v = 7168376) (h3 : tk t n e 3 40 e1) (h4 : o < 7) (h5 : Fz0 t n KH KF (o + 1) e1) : Fz4 t n KH KF o p := by
  intro k ph bg pr w fs c0 ho hb hf hl hF
  refine kc_O5 hK k ph bg pr o p v e e1 w c0 fs h1 (by omega) h3 h4 (by omega) ?_
  rw [if_neg (show ¬ v = 26982 by omega)]
  exact h5 3 0 1 _ [] _ c0 (by omega) (NB_k nT3) (by rw [List.length_cons]; omega) (by rw [List.length_nil]; omega) (TR_nil _) (by omega) hF
theorem f_two2 (hK : KCl t n cv KH KF KE) (o p v e e1 q kk x e2 : Int) (c1 : List Int) (h1 : tk t n p 1 v e) (h2 : v = 7170414 ∨ v = 7168376) (h3 : tk t n e 3 40 e1) (h4 : o < 7) (h5 : Gr t n cv 0 (o + 1) e1 q c1) (h6 : tk t n q kk x e2) (h7 : ¬ (kk = 3 ∧ x = 44)) : Fz4 t n KH KF o p := by
  intro k ph bg pr w fs c0 ho hb hf hl hF
  refine kc_O5 hK k ph bg pr o p v e e1 w c0 fs h1 (by omega) h3 h4 (by omega) ?_
  rw [if_neg (show ¬ v = 26982 by omega)]
  refine (show S0 t n KH (o + 1) e1 q c1 from Gr_drv hK h5) 3 0 1 _ [] _ c0 (by omega) (NB_k nT3) (by rw [List.length_cons]; omega) (by rw [List.length_nil]; omega) (TR_nil _) (by omega) (fun u d hu hd hn => ?_)
  exact kc_G6f hK 3 0 0 _ (o + 1) q kk x e2 _ _ _ (Or.inl rfl) h6 h7 (fun _ => hn _ _ _ h6) (fun z => by omega) hF
theorem f_two3 (hK : KCl t n cv KH KF KE) (o p v e e1 q e2 : Int) (c1 : List Int) (h1 : tk t n p 1 v e) (h2 : v = 7170414 ∨ v = 7168376) (h3 : tk t n e 3 40 e1) (h4 : o < 7) (h5 : Gr t n cv 0 (o + 1) e1 q c1) (h6 : tk t n q 3 44 e2) (h7 : Fz0 t n KH KF (o + 1) e2) : Fz4 t n KH KF o p := by
  intro k ph bg pr w fs c0 ho hb hf hl hF
  refine kc_O5 hK k ph bg pr o p v e e1 w c0 fs h1 (by omega) h3 h4 (by omega) ?_
  rw [if_neg (show ¬ v = 26982 by omega)]
  refine (show S0 t n KH (o + 1) e1 q c1 from Gr_drv hK h5) 3 0 1 _ [] _ c0 (by omega) (NB_k nT3) (by rw [List.length_cons]; omega) (by rw [List.length_nil]; omega) (TR_nil _) (by omega) (fun u d hu hd hn => ?_)
  refine kc_G6 hK 3 0 0 _ (o + 1) (o + 1) q e2 (u ++ []) (c0 ++ d) _ (Or.inl rfl) h6 ⟨(by rw [List.append_nil, RG_nots (RG_le hu (by omega))]; omega), by omega⟩ ?_
  rw [if_pos rfl]
  exact h7 4 0 0 _ [] _ _ (by omega) (NB_0 _ _) (by rw [List.length_cons]; omega) (by rw [List.length_nil]; omega) (TR_nil _) (by omega) hF
theorem f_two4 (hK : KCl t n cv KH KF KE) (o p v e e1 q e2 q2 kk x e3 : Int) (c1 c2 : List Int) (h1 : tk t n p 1 v e) (h2 : v = 7170414 ∨ v = 7168376) (h3 : tk t n e 3 40 e1) (h4 : o < 7) (h5 : Gr t n cv 0 (o + 1) e1 q c1) (h6 : tk t n q 3 44 e2) (h7 : Gr t n cv 0 (o + 1) e2 q2 c2) (h8 : tk t n q2 kk x e3) (h9 : ¬ (kk = 3 ∧ x = 41)) : Fz4 t n KH KF o p := by
  intro k ph bg pr w fs c0 ho hb hf hl hF
  refine kc_O5 hK k ph bg pr o p v e e1 w c0 fs h1 (by omega) h3 h4 (by omega) ?_
  rw [if_neg (show ¬ v = 26982 by omega)]
  refine (show S0 t n KH (o + 1) e1 q c1 from Gr_drv hK h5) 3 0 1 _ [] _ c0 (by omega) (NB_k nT3) (by rw [List.length_cons]; omega) (by rw [List.length_nil]; omega) (TR_nil _) (by omega) (fun u d hu hd hn => ?_)
  refine kc_G6 hK 3 0 0 _ (o + 1) (o + 1) q e2 (u ++ []) (c0 ++ d) _ (Or.inl rfl) h6 ⟨(by rw [List.append_nil, RG_nots (RG_le hu (by omega))]; omega), by omega⟩ ?_
  rw [if_pos rfl]
  refine (show S0 t n KH (o + 1) e2 q2 c2 from Gr_drv hK h7) 4 0 0 _ [] _ _ (by omega) (NB_0 _ _) (by rw [List.length_cons]; omega) (by rw [List.length_nil]; omega) (TR_nil _) (by omega) (fun u2 d2 hu2 hd2 hn2 => ?_)
  exact kc_G7f hK 4 0 0 _ (o + 1) q2 kk x e3 _ _ _ (Or.inr (Or.inl rfl)) h8 (by rw [if_neg (show ¬ (4 : Int) = 5 by omega)]; exact h9) (fun _ => hn2 _ _ _ h8) (fun z => by omega) hF
theorem T6 : isT 6 := by unfold isT; omega
theorem T5 : isT 5 := by unfold isT; omega
theorem f_iff1 (hK : KCl t n cv KH KF KE) (o p e e1 : Int) (h1 : tk t n p 1 26982 e) (h2 : tk t n e 3 40 e1) (h3 : o < 7) (h4 : Fz5 KH KF (o + 1) e1) : Fz4 t n KH KF o p := by
  intro k ph bg pr w fs c0 ho hb hf hl hF
  refine kc_O5 hK k ph bg pr o p 26982 e e1 w c0 fs h1 (by omega) h2 h3 (by omega) ?_
  rw [if_pos rfl]
  exact h4 6 _ _ c0 (by omega) T6 (by rw [List.length_cons]; omega) hF
theorem f_iff2 (hK : KCl t n cv KH KF KE) (o p e e1 q kk x e2 : Int) (c1 : List Int) (h1 : tk t n p 1 26982 e) (h2 : tk t n e 3 40 e1) (h3 : o < 7) (h4 : Gr t n cv 5 (o + 1) e1 q c1) (h5 : tk t n q kk x e2) (h6 : ¬ (kk = 3 ∧ x = 44)) : Fz4 t n KH KF o p := by
  intro k ph bg pr w fs c0 ho hb hf hl hF
  refine kc_O5 hK k ph bg pr o p 26982 e e1 w c0 fs h1 (by omega) h2 h3 (by omega) ?_
  rw [if_pos rfl]
  refine (show S5 t n KH (o + 1) e1 q c1 from Gr_drv hK h4) 6 _ _ c0 (by omega) T6 (by rw [List.length_cons]; omega) (fun u d ph' hd hph hn => ?_)
  exact kc_G6f hK 6 ph' 0 _ _ q kk x e2 _ _ _ (Or.inr ⟨rfl, PHC_nz hph⟩) h5 h6 (PHC_ar hph h5) (fun _ => hn _ _ _ h5) hF
theorem f_iff3 (hK : KCl t n cv KH KF KE) (o p e e1 q e2 : Int) (c1 : List Int) (h1 : tk t n p 1 26982 e) (h2 : tk t n e 3 40 e1) (h3 : o < 7) (h4 : Gr t n cv 5 (o + 1) e1 q c1) (h5 : tk t n q 3 44 e2) (h6 : Fz0 t n KH KF (o + 1) e2) : Fz4 t n KH KF o p := by
  intro k ph bg pr w fs c0 ho hb hf hl hF
  refine kc_O5 hK k ph bg pr o p 26982 e e1 w c0 fs h1 (by omega) h2 h3 (by omega) ?_
  rw [if_pos rfl]
  refine (show S5 t n KH (o + 1) e1 q c1 from Gr_drv hK h4) 6 _ _ c0 (by omega) T6 (by rw [List.length_cons]; omega) (fun u d ph' hd hph hn => ?_)
  refine kc_G6 hK 6 ph' 0 _ (o + 1 + nots u) (o + 1) q e2 u (c0 ++ d) _ (Or.inr ⟨rfl, PHC_nz hph⟩) h5 ⟨rfl, by omega⟩ ?_
  rw [if_neg (show ¬ (6 : Int) = 3 by omega)]
  exact h6 3 0 0 _ [] _ _ (by omega) (NB_0 _ _) (by rw [List.length_cons]; omega) (by rw [List.length_nil]; omega) (TR_nil _) (by omega) hF
theorem f_iff4 (hK : KCl t n cv KH KF KE) (o p e e1 q e2 q2 kk x e3 : Int) (c1 c2 : List Int) (h1 : tk t n p 1 26982 e) (h2 : tk t n e 3 40 e1) (h3 : o < 7) (h4 : Gr t n cv 5 (o + 1) e1 q c1) (h5 : tk t n q 3 44 e2) (h6 : Gr t n cv 0 (o + 1) e2 q2 c2) (h7 : tk t n q2 kk x e3) (h8 : ¬ (kk = 3 ∧ x = 44)) : Fz4 t n KH KF o p := by
  intro k ph bg pr w fs c0 ho hb hf hl hF
  refine kc_O5 hK k ph bg pr o p 26982 e e1 w c0 fs h1 (by omega) h2 h3 (by omega) ?_
  rw [if_pos rfl]
  refine (show S5 t n KH (o + 1) e1 q c1 from Gr_drv hK h4) 6 _ _ c0 (by omega) T6 (by rw [List.length_cons]; omega) (fun u d ph' hd hph hn => ?_)
  refine kc_G6 hK 6 ph' 0 _ (o + 1 + nots u) (o + 1) q e2 u (c0 ++ d) _ (Or.inr ⟨rfl, PHC_nz hph⟩) h5 ⟨rfl, by omega⟩ ?_
  rw [if_neg (show ¬ (6 : Int) = 3 by omega)]
  refine (show S0 t n KH (o + 1) e2 q2 c2 from Gr_drv hK h6) 3 0 0 _ [] _ _ (by omega) (NB_0 _ _) (by rw [List.length_cons]; omega) (by rw [List.length_nil]; omega) (TR_nil _) (by omega) (fun u2 d2 hu2 hd2 hn2 => ?_)
  exact kc_G6f hK 3 0 0 _ (o + 1) q2 kk x e3 _ _ _ (Or.inl rfl) h7 h8 (fun _ => hn2 _ _ _ h7) (fun z => by omega) hF
theorem f_iff5 (hK : KCl t n cv KH KF KE) (o p e e1 q e2 q2 e3 : Int) (c1 c2 : List Int) (h1 : tk t n p 1 26982 e) (h2 : tk t n e 3 40 e1) (h3 : o < 7) (h4 : Gr t n cv 5 (o + 1) e1 q c1) (h5 : tk t n q 3 44 e2) (h6 : Gr t n cv 0 (o + 1) e2 q2 c2) (h7 : tk t n q2 3 44 e3) (h8 : Fz0 t n KH KF (o + 1) e3) : Fz4 t n KH KF o p := by
  intro k ph bg pr w fs c0 ho hb hf hl hF
  refine kc_O5 hK k ph bg pr o p 26982 e e1 w c0 fs h1 (by omega) h2 h3 (by omega) ?_
  rw [if_pos rfl]
  refine (show S5 t n KH (o + 1) e1 q c1 from Gr_drv hK h4) 6 _ _ c0 (by omega) T6 (by rw [List.length_cons]; omega) (fun u d ph' hd hph hn => ?_)
  refine kc_G6 hK 6 ph' 0 _ (o + 1 + nots u) (o + 1) q e2 u (c0 ++ d) _ (Or.inr ⟨rfl, PHC_nz hph⟩) h5 ⟨rfl, by omega⟩ ?_
  rw [if_neg (show ¬ (6 : Int) = 3 by omega)]
  refine (show S0 t n KH (o + 1) e2 q2 c2 from Gr_drv hK h6) 3 0 0 _ [] _ _ (by omega) (NB_0 _ _) (by rw [List.length_cons]; omega) (by rw [List.length_nil]; omega) (TR_nil _) (by omega) (fun u2 d2 hu2 hd2 hn2 => ?_)
  refine kc_G6 hK 3 0 0 _ (o + 1) (o + 1) q2 e3 (u2 ++ []) _ _ (Or.inl rfl) h7 ⟨(by rw [List.append_nil, RG_nots (RG_le hu2 (by omega))]; omega), by omega⟩ ?_
  rw [if_pos rfl]
  exact h8 4 0 0 _ [] _ _ (by omega) (NB_0 _ _) (by rw [List.length_cons]; omega) (by rw [List.length_nil]; omega) (TR_nil _) (by omega) hF
theorem f_iff6 (hK : KCl t n cv KH KF KE) (o p e e1 q e2 q2 e3 q3 kk x e4 : Int) (c1 c2 c3 : List Int) (h1 : tk t n p 1 26982 e) (h2 : tk t n e 3 40 e1) (h3 : o < 7) (h4 : Gr t n cv 5 (o + 1) e1 q c1) (h5 : tk t n q 3 44 e2) (h6 : Gr t n cv 0 (o + 1) e2 q2 c2) (h7 : tk t n q2 3 44 e3) (h8 : Gr t n cv 0 (o + 1) e3 q3 c3) (h9 : tk t n q3 kk x e4) (h10 : ¬ (kk = 3 ∧ x = 41)) : Fz4 t n KH KF o p := by
  intro k ph bg pr w fs c0 ho hb hf hl hF
  refine kc_O5 hK k ph bg pr o p 26982 e e1 w c0 fs h1 (by omega) h2 h3 (by omega) ?_
  rw [if_pos rfl]
  refine (show S5 t n KH (o + 1) e1 q c1 from Gr_drv hK h4) 6 _ _ c0 (by omega) T6 (by rw [List.length_cons]; omega) (fun u d ph' hd hph hn => ?_)
  refine kc_G6 hK 6 ph' 0 _ (o + 1 + nots u) (o + 1) q e2 u (c0 ++ d) _ (Or.inr ⟨rfl, PHC_nz hph⟩) h5 ⟨rfl, by omega⟩ ?_
  rw [if_neg (show ¬ (6 : Int) = 3 by omega)]
  refine (show S0 t n KH (o + 1) e2 q2 c2 from Gr_drv hK h6) 3 0 0 _ [] _ _ (by omega) (NB_0 _ _) (by rw [List.length_cons]; omega) (by rw [List.length_nil]; omega) (TR_nil _) (by omega) (fun u2 d2 hu2 hd2 hn2 => ?_)
  refine kc_G6 hK 3 0 0 _ (o + 1) (o + 1) q2 e3 (u2 ++ []) _ _ (Or.inl rfl) h7 ⟨(by rw [List.append_nil, RG_nots (RG_le hu2 (by omega))]; omega), by omega⟩ ?_
  rw [if_pos rfl]
  refine (show S0 t n KH (o + 1) e3 q3 c3 from Gr_drv hK h8) 4 0 0 _ [] _ _ (by omega) (NB_0 _ _) (by rw [List.length_cons]; omega) (by rw [List.length_nil]; omega) (TR_nil _) (by omega) (fun u3 d3 hu3 hd3 hn3 => ?_)
  exact kc_G7f hK 4 0 0 _ (o + 1) q3 kk x e4 _ _ _ (Or.inr (Or.inl rfl)) h9 (by rw [if_neg (show ¬ (4 : Int) = 5 by omega)]; exact h10) (fun _ => hn3 _ _ _ h9) (fun z => by omega) hF
theorem f_tst1 (o p : Int) (h : Fz7 KH KF o p) : Fz5 KH KF o p := fun k pr fs c0 ho hk hf hF => h k pr [] fs c0 ho hk hf (by rw [List.length_nil]; omega) (TR_nil _) hF
theorem f_tst2 (hK : KCl t n cv KH KF KE) (o p q : Int) (c1 : List Int) (h1 : Gr t n cv 7 o p q c1) (h2 : Fz6 t n KH KF o q) : Fz5 KH KF o p := by
  intro k pr fs c0 ho hk hf hF
  refine (show S7 t n KH o p q c1 from Gr_drv hK h1) k pr [] fs c0 ho hk hf (by rw [List.length_nil]; omega) (TR_nil _) (fun u d ph' hu hd hph hn => ?_)
  rw [List.append_nil]
  exact h2 k pr fs _ u ph' ho hk hf hph hn hF
theorem f_tstM1 (hK : KCl t n cv KH KF KE) (o p e : Int) (h1 : tk t n p 1 28530 e) (h3 : Fz7 KH KF o e) : Fz6 t n KH KF o p := by
  intro k pr fs c0 u ph ho hk hf hph hn hF
  refine kc_G4o hK k ph 0 pr (o + nots u) o p e u c0 fs hk (PHC_nz hph) h1 ⟨rfl, by omega⟩ ?_
  exact h3 k pr [42] fs _ ho hk hf (by rw [List.length_singleton]; omega) (TR_c (by show (1 : Int) < 2; omega)) hF
theorem f_tstM2 (hK : KCl t n cv KH KF KE) (o p e q : Int) (c1 : List Int) (h1 : tk t n p 1 28530 e) (h3 : Gr t n cv 7 o e q c1) (h4 : Fz6 t n KH KF o q) : Fz6 t n KH KF o p := by
  intro k pr fs c0 u ph ho hk hf hph hn hF
  refine kc_G4o hK k ph 0 pr (o + nots u) o p e u c0 fs hk (PHC_nz hph) h1 ⟨rfl, by omega⟩ ?_
  refine (show S7 t n KH o e q c1 from Gr_drv hK h3) k pr [42] fs _ ho hk hf (by rw [List.length_singleton]; omega) (TR_c (by show (1 : Int) < 2; omega)) (fun u2 d2 ph2 hu2 hd2 hph2 hn2 => ?_)
  have z := h4 k pr fs (c0 ++ u ++ d2) (u2 ++ [42]) ph2 ho hk hf hph2 hn2 hF
  rw [nots_app, show nots [42] = 0 from rfl, Int.add_zero] at z
  exact z
theorem f_bth1 (o p : Int) (h : Fz9 KH KF o p) : Fz7 KH KF o p := fun k pr w fs c0 ho hk hf hl ht => h k pr w fs c0 ho hk hf (by omega) (TR_le ht (by omega))
theorem f_bth2 (hK : KCl t n cv KH KF KE) (o p q : Int) (c1 : List Int) (h1 : Gr t n cv 9 o p q c1) (h2 : Fz8 t n KH KF o q) : Fz7 KH KF o p := by
  intro k pr w fs c0 ho hk hf hl ht hF
  refine (show S9 t n KH o p q c1 from Gr_drv hK h1) k pr w fs c0 ho hk hf (by omega) (TR_le ht (by omega)) (fun u d ph' hu hd hph => ?_)
  exact h2 k pr w fs _ u ph' ho hk hf hl ht (RG_le hu (by omega)) hph hF
theorem f_bthM1 (hK : KCl t n cv KH KF KE) (o p e : Int) (h1 : tk t n p 1 6385252 e) (h3 : Fz9 KH KF o e) : Fz8 t n KH KF o p := by
  intro k pr w fs c0 u ph ho hk hf hl ht hu hph hF
  refine kc_G4a hK k ph 0 pr (o + nots u) o p e u w c0 fs hk (PHC_nz hph) h1 hu ht (by omega) ⟨rfl, by omega⟩ ?_
  exact h3 k pr (41 :: w) fs _ ho hk hf (by rw [List.length_cons]; omega) (TR_c (by show (2 : Int) < 4; omega)) hF
theorem f_bthM2 (hK : KCl t n cv KH KF KE) (o p e q : Int) (c1 : List Int) (h1 : tk t n p 1 6385252 e) (h3 : Gr t n cv 9 o e q c1) (h4 : Fz8 t n KH KF o q) : Fz8 t n KH KF o p := by
  intro k pr w fs c0 u ph ho hk hf hl ht hu hph hF
  refine kc_G4a hK k ph 0 pr (o + nots u) o p e u w c0 fs hk (PHC_nz hph) h1 hu ht (by omega) ⟨rfl, by omega⟩ ?_
  refine (show S9 t n KH o e q c1 from Gr_drv hK h3) k pr (41 :: w) fs _ ho hk hf (by rw [List.length_cons]; omega) (TR_c (by show (2 : Int) < 4; omega)) (fun u2 d2 ph2 hu2 hd2 hph2 => ?_)
  have z := h4 k pr w fs (c0 ++ u ++ d2) (u2 ++ [41]) ph2 ho hk hf hl ht (RG_app (RG_le hu2 (by omega)) (RG_one (by show (2 : Int) ≤ 2; omega))) hph2 hF
  rw [nots_app, show nots [41] = 0 from rfl, Int.add_zero] at z
  simp only [List.append_assoc, List.cons_append, List.nil_append] at z ⊢
  exact z
theorem f_fnt0 (hK : KCl t n cv KH KF KE) (o p e : Int) (h1 : tk t n p 1 7237492 e) (h2 : 7 ≤ o) : Fz9 KH KF o p := by
  intro k pr w fs c0 ho hk hf hl ht hF
  exact kc_O1f hK k 0 1 pr o p e w c0 fs hk rfl h1 h2 hF
theorem f_fnt1 (hK : KCl t n cv KH KF KE) (o p e : Int) (h1 : tk t n p 1 7237492 e) (h2 : o < 7) (h3 : Fz9 KH KF (o + 1) e) : Fz9 KH KF o p := by
  intro k pr w fs c0 ho hk hf hl ht hF
  refine kc_O1 hK k 0 1 pr o p e w c0 fs hk rfl h1 h2 (by omega) ?_
  exact h3 k pr (43 :: w) fs c0 (by omega) hk (by omega) (by rw [List.length_cons]; omega) (TR_c (by show (3 : Int) < 4; omega)) hF
theorem f_fbr0 (hK : KCl t n cv KH KF KE) (o p e : Int) (h1 : tk t n p 3 91 e) (h2 : 7 ≤ o) : Fz9 KH KF o p := by
  intro k pr w fs c0 ho hk hf hl ht hF
  exact kc_O2f hK k 0 1 pr o p e w c0 fs hk rfl h1 h2 hF
theorem f_fbr1 (hK : KCl t n cv KH KF KE) (o p e : Int) (h1 : tk t n p 3 91 e) (h2 : o < 7) (h3 : Fz5 KH KF (o + 1) e) : Fz9 KH KF o p := by
  intro k pr w fs c0 ho hk hf hl ht hF
  refine kc_O2 hK k 0 1 pr o p e w c0 fs hk rfl h1 h2 (by omega) (fun r => ?_)
  exact h3 5 r _ c0 (by omega) T5 (by rw [List.length_cons]; omega) hF
theorem f_fbr2 (hK : KCl t n cv KH KF KE) (o p e q kk v e1 : Int) (c1 : List Int) (h1 : tk t n p 3 91 e) (h2 : o < 7) (h3 : Gr t n cv 5 (o + 1) e q c1) (h4 : tk t n q kk v e1) (h5 : ¬ (kk = 3 ∧ v = 93)) : Fz9 KH KF o p := by
  intro k pr w fs c0 ho hk hf hl ht hF
  refine kc_O2 hK k 0 1 pr o p e w c0 fs hk rfl h1 h2 (by omega) (fun r => ?_)
  refine (show S5 t n KH (o + 1) e q c1 from Gr_drv hK h3) 5 r _ c0 (by omega) T5 (by rw [List.length_cons]; omega) (fun u d ph' hd hph hn => ?_)
  exact kc_G7f hK 5 ph' 0 r _ q kk v e1 _ _ _ (Or.inr (Or.inr ⟨rfl, PHC_nz hph⟩)) h4 (by rw [if_pos rfl]; exact h5) (PHC_ar hph h4) (fun _ => hn _ _ _ h4) hF
theorem f_fcm (o p kk v e : Int) (h1 : tk t n p kk v e) (h2 : ¬ (kk = 1 ∧ (v = 7237492 ∨ v = 6384748))) (h3 : ¬ (kk = 3 ∧ v = 91)) (h4 : Fz10 t n KH KF o p) : Fz9 KH KF o p := fun k pr w fs c0 => h4 k pr w fs c0 (NB_of h1 h2 h3)
theorem f_cmp1 (o p : Int) (h : Fz0 t n KH KF o p) : Fz10 t n KH KF o p := fun k pr w fs c0 hb ho hk hf hl ht hF => h k 0 1 pr w fs c0 ho hb hf (by omega) (TR_le ht (by omega)) (by omega) hF
theorem f_cmp2 (hK : KCl t n cv KH KF KE) (o p q kk v e : Int) (c1 : List Int) (h1 : Gr t n cv 0 o p q c1) (h2 : tk t n q kk v e) (h3 : ¬ (kk = 3 ∧ (v = 60 ∨ v = 61 ∨ v = 62))) : Fz10 t n KH KF o p := by
  intro k pr w fs c0 hb ho hk hf hl ht hF
  refine (show S0 t n KH o p q c1 from Gr_drv hK h1) k 0 1 pr w fs c0 ho hb hf (by omega) (TR_le ht (by omega)) (by omega) (fun u d hu hd hn => ?_)
  exact kc_G4f hK k 0 0 pr o q kk v e _ _ fs hk rfl h2 (hn _ _ _ h2) h3 hF
theorem f_cmp3 (hK : KCl t n cv KH KF KE) (o p q v e : Int) (c1 : List Int) (h1 : Gr t n cv 0 o p q c1) (h2 : tk t n q 3 v e) (h3 : v = 60 ∨ v = 61 ∨ v = 62) (h4 : Fz0 t n KH KF o e) : Fz10 t n KH KF o p := by
  intro k pr w fs c0 hb ho hk hf hl ht hF
  refine (show S0 t n KH o p q c1 from Gr_drv hK h1) k 0 1 pr w fs c0 ho hb hf (by omega) (TR_le ht (by omega)) (by omega) (fun u d hu hd hn => ?_)
  refine kc_G3 hK k 0 0 pr o q v e u w (c0 ++ d) fs hk rfl h2 h3 hu (TR_le ht (by omega)) (by omega) ?_
  exact h4 k 1 0 pr (sop v :: w) fs _ ho (NB_0 _ _) hf (by rw [List.length_cons]; omega) (TR_c (by rw [rk_c h3]; omega)) (by omega) hF
theorem Fl_drv (hK : KCl t n cv KH KF KE) {tag : Nat} {o p : Int} (h : Fl t n cv tag o p) : DF t n KH KF tag o p := h (DF t n KH KF) ⟨f_sum1, f_sum2 hK, f_sumM1 hK, f_sumM2 hK, f_prd1, f_prd2 hK, f_prdM1 hK, f_prdM2 hK, f_bad hK, f_par0 hK, f_par1 hK, f_par2 hK, f_two0 hK, f_two1 hK, f_two2 hK, f_two3 hK, f_two4 hK, f_iff1 hK, f_iff2 hK, f_iff3 hK, f_iff4 hK, f_iff5 hK, f_iff6 hK, f_tst1, f_tst2 hK, f_tstM1 hK, f_tstM2 hK, f_bth1, f_bth2 hK, f_bthM1 hK, f_bthM2 hK, f_fnt0 hK, f_fnt1 hK, f_fbr0 hK, f_fbr1 hK, f_fbr2 hK, f_fcm, f_cmp1, f_cmp2 hK, f_cmp3 hK⟩
/-- what `reads` owes: from its start to its end -/
theorem drv_S (hK : KCl t n cv KH KF KE) {p q : Int} {c c0 : List Int} {pr : Int} (h : Gr t n cv 0 0 p q c) (hq : ∃ k v e : Int, tk t n q k v e) (hE : KE (c0 ++ c) q) : KH [(0, 0, 1, pr, [])] 0 0 c0 p := by
  obtain ⟨k, v, e, hk⟩ := hq
  refine (show S0 t n KH 0 p q c from Gr_drv hK h) 0 0 1 pr [] [] c0 (by omega) (NB_k nT0) (by rw [List.length_nil]; omega) (by rw [List.length_nil]; omega) (TR_nil _) (by omega) (fun u d hu hd hn => ?_)
  refine kc_G5 hK 0 0 0 pr 0 q k v e (u ++ []) (c0 ++ d) (Or.inl rfl) hk (fun _ => hn _ _ _ hk) (fun z => by omega) ?_
  rw [List.append_nil, List.append_assoc, hd]
  exact hE
theorem drv_T (hK : KCl t n cv KH KF KE) {p q : Int} {c c0 : List Int} {pr : Int} (h : Gr t n cv 5 0 p q c) (hq : ∃ k v e : Int, tk t n q k v e) (hE : KE (c0 ++ c) q) : KH [(1, 0, 1, pr, [])] 0 0 c0 p := by
  obtain ⟨k, v, e, hk⟩ := hq
  refine (show S5 t n KH 0 p q c from Gr_drv hK h) 1 pr [] c0 (by omega) (by unfold isT; omega) (by rw [List.length_nil]; omega) (fun u d ph' hd hph hn => ?_)
  refine kc_G5 hK 1 ph' 0 pr _ q k v e u (c0 ++ d) (Or.inr rfl) hk (PHC_ar hph hk) (fun _ => ⟨PHC_nz hph, hn _ _ _ hk⟩) ?_
  rw [List.append_assoc, hd]
  exact hE
theorem drv_FS (hK : KCl t n cv KH KF KE) {p : Int} {c0 : List Int} {pr : Int} (h : Fl t n cv 0 0 p) (hF : KF) : KH [(0, 0, 1, pr, [])] 0 0 c0 p :=
  (show Fz0 t n KH KF 0 p from Fl_drv hK h) 0 0 1 pr [] [] c0 (by omega) (NB_k nT0) (by rw [List.length_nil]; omega) (by rw [List.length_nil]; omega) (TR_nil _) (by omega) hF
theorem drv_FT (hK : KCl t n cv KH KF KE) {p : Int} {c0 : List Int} {pr : Int} (h : Fl t n cv 5 0 p) (hF : KF) : KH [(1, 0, 1, pr, [])] 0 0 c0 p :=
  (show Fz5 KH KF 0 p from Fl_drv hK h) 1 pr [] c0 (by omega) (by unfold isT; omega) (by rw [List.length_nil]; omega) hF
end DRF2
