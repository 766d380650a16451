/-! THE DRIVER: a derivation takes the machine from its first token to behind its last -/
section DRV
variable (t : Int → Int) (n : Int) (KH : mKH)
def S4 (o p q : Int) (c : List Int) : Prop := ∀ (k ph bg pr : Int) (w : List Int) (fs : List mFr) (c0 : List Int), 0 ≤ o ∧ o ≤ 7 → NB t n k bg p → (fs.length : Int) ≤ o → (w.length : Int) + (7 - o) ≤ 14 → KH ((k, ph, 0, pr, w) :: fs) 1 o (c0 ++ c) q → KH ((k, ph, bg, pr, w) :: fs) 0 o c0 p
def S2 (o p q : Int) (c : List Int) : Prop := ∀ (k ph bg pr : Int) (w : List Int) (fs : List mFr) (c0 : List Int), 0 ≤ o ∧ o ≤ 7 → NB t n k bg p → (fs.length : Int) ≤ o → (w.length : Int) + 1 + (7 - o) ≤ 14 → TR w 6 → ph < 2 → (∀ (u c1 : List Int), RG u 6 → c1 ++ u = c → NM t n q → KH ((k, ph, 0, pr, u ++ w) :: fs) 1 o (c0 ++ c1) q) → KH ((k, ph, bg, pr, w) :: fs) 0 o c0 p
def S3 (o p q : Int) (c : List Int) : Prop := ∀ (k ph pr : Int) (w : List Int) (fs : List mFr) (c0 u c1 : List Int), 0 ≤ o ∧ o ≤ 7 → (fs.length : Int) ≤ o → (w.length : Int) + 1 + (7 - o) ≤ 14 → TR w 6 → ph < 2 → RG u 6 → (∀ (u' c1' : List Int), RG u' 6 → c1' ++ u' = c1 ++ (u ++ c) → NM t n q → KH ((k, ph, 0, pr, u' ++ w) :: fs) 1 o (c0 ++ c1') q) → KH ((k, ph, 0, pr, u ++ w) :: fs) 1 o (c0 ++ c1) p
def S0 (o p q : Int) (c : List Int) : Prop := ∀ (k ph bg pr : Int) (w : List Int) (fs : List mFr) (c0 : List Int), 0 ≤ o ∧ o ≤ 7 → NB t n k bg p → (fs.length : Int) ≤ o → (w.length : Int) + 2 + (7 - o) ≤ 14 → TR w 5 → ph < 2 → (∀ (u c1 : List Int), RG u 5 → c1 ++ u = c → NA t n q → KH ((k, ph, 0, pr, u ++ w) :: fs) 1 o (c0 ++ c1) q) → KH ((k, ph, bg, pr, w) :: fs) 0 o c0 p
def S1 (o p q : Int) (c : List Int) : Prop := ∀ (k ph pr : Int) (w : List Int) (fs : List mFr) (c0 u c1 : List Int), 0 ≤ o ∧ o ≤ 7 → (fs.length : Int) ≤ o → (w.length : Int) + 2 + (7 - o) ≤ 14 → TR w 5 → ph < 2 → RG u 5 → NM t n p → (∀ (u' c1' : List Int), RG u' 5 → c1' ++ u' = c1 ++ (u ++ c) → NA t n q → KH ((k, ph, 0, pr, u' ++ w) :: fs) 1 o (c0 ++ c1') q) → KH ((k, ph, 0, pr, u ++ w) :: fs) 1 o (c0 ++ c1) p
def S9 (o p q : Int) (c : List Int) : Prop := ∀ (k pr : Int) (w : List Int) (fs : List mFr) (c0 : List Int), 0 ≤ o ∧ o ≤ 7 → isT k → (fs.length : Int) ≤ o → (w.length : Int) + 3 + (7 - o) ≤ 14 → TR w 4 → (∀ (u c1 : List Int) (ph' : Int), RG u 3 → c1 ++ u = c → PHC t n ph' q → KH ((k, ph', 0, pr, u ++ w) :: fs) 1 (o + nots u) (c0 ++ c1) q) → KH ((k, 0, 1, pr, w) :: fs) 0 o c0 p
def S10 (o p q : Int) (c : List Int) : Prop := ∀ (k pr : Int) (w : List Int) (fs : List mFr) (c0 : List Int), NB t n k 1 p → 0 ≤ o ∧ o ≤ 7 → isT k → (fs.length : Int) ≤ o → (w.length : Int) + 3 + (7 - o) ≤ 14 → TR w 4 → (∀ (u c1 : List Int) (ph' : Int), RG u 3 → c1 ++ u = c → PHC t n ph' q → KH ((k, ph', 0, pr, u ++ w) :: fs) 1 (o + nots u) (c0 ++ c1) q) → KH ((k, 0, 1, pr, w) :: fs) 0 o c0 p
def S7 (o p q : Int) (c : List Int) : Prop := ∀ (k pr : Int) (w : List Int) (fs : List mFr) (c0 : List Int), 0 ≤ o ∧ o ≤ 7 → isT k → (fs.length : Int) ≤ o → (w.length : Int) + 4 + (7 - o) ≤ 14 → TR w 2 → (∀ (u c1 : List Int) (ph' : Int), RG u 2 → c1 ++ u = c → PHC t n ph' q → NAn t n q → KH ((k, ph', 0, pr, u ++ w) :: fs) 1 (o + nots u) (c0 ++ c1) q) → KH ((k, 0, 1, pr, w) :: fs) 0 o c0 p
def S8 (o p q : Int) (c : List Int) : Prop := ∀ (k pr : Int) (w : List Int) (fs : List mFr) (c0 u c1 : List Int) (ph : Int), 0 ≤ o ∧ o ≤ 7 → isT k → (fs.length : Int) ≤ o → (w.length : Int) + 4 + (7 - o) ≤ 14 → TR w 2 → RG u 2 → PHC t n ph p → (∀ (u' c1' : List Int) (ph' : Int), RG u' 2 → c1' ++ u' = c1 ++ (u ++ c) → PHC t n ph' q → NAn t n q → KH ((k, ph', 0, pr, u' ++ w) :: fs) 1 (o + nots u') (c0 ++ c1') q) → KH ((k, ph, 0, pr, u ++ w) :: fs) 1 (o + nots u) (c0 ++ c1) p
def S5 (o p q : Int) (c : List Int) : Prop := ∀ (k pr : Int) (fs : List mFr) (c0 : List Int), 0 ≤ o ∧ o ≤ 7 → isT k → (fs.length : Int) ≤ o → (∀ (u c1 : List Int) (ph' : Int), c1 ++ u = c → PHC t n ph' q → NAO t n q → KH ((k, ph', 0, pr, u) :: fs) 1 (o + nots u) (c0 ++ c1) q) → KH ((k, 0, 1, pr, []) :: fs) 0 o c0 p
def S6 (o p q : Int) (c : List Int) : Prop := ∀ (k pr : Int) (fs : List mFr) (c0 u c1 : List Int) (ph : Int), 0 ≤ o ∧ o ≤ 7 → isT k → (fs.length : Int) ≤ o → PHC t n ph p → NAn t n p → (∀ (u' c1' : List Int) (ph' : Int), c1' ++ u' = c1 ++ (u ++ c) → PHC t n ph' q → NAO t n q → KH ((k, ph', 0, pr, u') :: fs) 1 (o + nots u') (c0 ++ c1') q) → KH ((k, ph, 0, pr, u) :: fs) 1 (o + nots u) (c0 ++ c1) p
def DG (tag : Nat) (o p q : Int) (c : List Int) : Prop := match tag with
  | 0 => S0 t n KH o p q c
  | 1 => S1 t n KH o p q c
  | 2 => S2 t n KH o p q c
  | 3 => S3 t n KH o p q c
  | 4 => S4 t n KH o p q c
  | 5 => S5 t n KH o p q c
  | 6 => S6 t n KH o p q c
  | 7 => S7 t n KH o p q c
  | 8 => S8 t n KH o p q c
  | 9 => S9 t n KH o p q c
  | _ => S10 t n KH o p q c
end DRV
section DRV2
variable {t : Int → Int} {n : Int} {cv : Prop} {KH : mKH} {KF : Prop} {KE : List Int → Int → Prop}
theorem twoS_b (v : Int) : 31 ≤ twoS v ∧ twoS v ≤ 44 := by
  unfold twoS
  split
  · omega
  · split <;> omega
theorem NB_0 (k p : Int) : NB t n k 0 p := fun _ h => absurd h (by decide)
theorem NB_k {k bg p : Int} (h : ¬ isT k) : NB t n k bg p := fun z => absurd z h
theorem nT2 : ¬ isT 2 := by unfold isT; omega
theorem nT3 : ¬ isT 3 := by unfold isT; omega
theorem nT4 : ¬ isT 4 := by unfold isT; omega
theorem nT0 : ¬ isT 0 := by unfold isT; omega
theorem PHC_nz {ph p : Int} (h : PHC t n ph p) : ¬ ph = 0 := by rcases h with h | h <;> omega
theorem PHC_ar {ph p k v e : Int} (h : PHC t n ph p) (hk : tk t n p k v e) : ph < 2 → ¬ arS k v := fun z => by
  rcases h with h | h
  · omega
  · exact h.2 _ _ _ hk
theorem d_sum (o p q r : Int) (c1 c2 : List Int) (h1 : S2 t n KH o p q c1) (h2 : S1 t n KH o q r c2) : S0 t n KH o p r (c1 ++ c2) := by
  intro k ph bg pr w fs c0 ho hb hf hl ht hp hc
  refine h1 k ph bg pr w fs c0 ho hb hf (by omega) (TR_le ht (by omega)) hp (fun u d hu hd hn => ?_)
  refine h2 k ph pr w fs c0 u d ho hf (by omega) ht hp (RG_le hu (by omega)) hn (fun u' d' hu' hd' hn' => ?_)
  exact hc u' d' hu' (by rw [hd', ← hd, List.append_assoc]) hn'
theorem d_sumE (o p k v e : Int) (h1 : tk t n p k v e) (h2 : ¬ (k = 3 ∧ (v = 43 ∨ v = 45))) : S1 t n KH o p p [] := by
  intro k' ph pr w fs c0 u d ho hf hl ht hp hu hn hc
  refine hc u d hu (by rw [List.append_nil]) (fun kk vv ee hk => ?_)
  have z := tk_u h1 hk
  have z2 := hn _ _ _ hk
  unfold arS
  omega
theorem d_sumM (hK : KCl t n cv KH KF KE) (o p v e q r : Int) (c1 c2 : List Int) (h1 : tk t n p 3 v e) (h2 : v = 43 ∨ v = 45) (h3 : S2 t n KH o e q c1) (h4 : S1 t n KH o q r c2) : S1 t n KH o p r (c1 ++ sop v :: c2) := by
  intro k ph pr w fs c0 u d ho hf hl ht hp hu hn hc
  refine kc_G1 hK k ph 0 pr o p v e u w (c0 ++ d) fs h1 h2 hp hu ht (by omega) ?_
  refine h3 k ph 0 pr (sop v :: w) fs ((c0 ++ d) ++ u) ho (NB_0 _ _) hf (by rw [List.length_cons]; omega) (TR_c (by rw [rk_a h2]; omega)) hp (fun u2 d2 hu2 hd2 hn2 => ?_)
  have z := h4 k ph pr w fs c0 (u2 ++ [sop v]) ((d ++ u) ++ d2) ho hf hl ht hp (RG_app (RG_le hu2 (by omega)) (RG_one (by rw [rk_a h2]; omega))) hn2 (fun u3 d3 hu3 hd3 hn3 => hc u3 d3 hu3 (by rw [hd3, ← hd2]; simp only [List.append_assoc, List.cons_append, List.nil_append]) hn3)
  simp only [List.append_assoc, List.cons_append, List.nil_append] at z ⊢
  exact z
theorem d_prd (o p q r : Int) (c1 c2 : List Int) (h1 : S4 t n KH o p q c1) (h2 : S3 t n KH o q r c2) : S2 t n KH o p r (c1 ++ c2) := by
  intro k ph bg pr w fs c0 ho hb hf hl ht hp hc
  refine h1 k ph bg pr w fs c0 ho hb hf (by omega) ?_
  exact h2 k ph pr w fs c0 [] c1 ho hf hl ht hp (RG_nil _) (fun u' d' hu' hd' hn' => hc u' d' hu' (by rw [hd', List.nil_append]) hn')
theorem d_prdE (o p k v e : Int) (h1 : tk t n p k v e) (h2 : ¬ (k = 3 ∧ (v = 42 ∨ v = 47 ∨ v = 37))) : S3 t n KH o p p [] := by
  intro k' ph pr w fs c0 u d ho hf hl ht hp hu hc
  refine hc u d hu (by rw [List.append_nil]) (fun kk vv ee hk => ?_)
  have z := tk_u h1 hk
  omega
theorem d_prdM (hK : KCl t n cv KH KF KE) (o p v e q r : Int) (c1 c2 : List Int) (h1 : tk t n p 3 v e) (h2 : v = 42 ∨ v = 47 ∨ v = 37) (h3 : S4 t n KH o e q c1) (h4 : S3 t n KH o q r c2) : S3 t n KH o p r (c1 ++ sop v :: c2) := by
  intro k ph pr w fs c0 u d ho hf hl ht hp hu hc
  refine kc_G2 hK k ph 0 pr o p v e u w (c0 ++ d) fs h1 h2 hp hu ht (by omega) ?_
  refine h3 k ph 0 pr (sop v :: w) fs ((c0 ++ d) ++ u) ho (NB_0 _ _) hf (by rw [List.length_cons]; omega) ?_
  have z := h4 k ph pr w fs c0 [sop v] ((d ++ u) ++ c1) ho hf hl ht hp (RG_one (by rw [rk_m h2]; omega)) (fun u3 d3 hu3 hd3 hn3 => hc u3 d3 hu3 (by rw [hd3]; simp only [List.append_assoc, List.cons_append, List.nil_append]) hn3)
  simp only [List.append_assoc, List.cons_append, List.nil_append] at z ⊢
  exact z
theorem d_num (hK : KCl t n cv KH KF KE) (o p v e : Int) (h1 : tk t n p 2 v e) : S4 t n KH o p e [64 * v] := by
  intro k ph bg pr w fs c0 ho hb hf hl hc
  exact kc_O6 hK k ph bg pr o p v e w c0 fs h1 hc
theorem d_fig (hK : KCl t n cv KH KF KE) (o p v e : Int) (h1 : tk t n p 1 v e) (h2 : figOk cv v) : S4 t n KH o p e [figS v] := by
  intro k ph bg pr w fs c0 ho hb hf hl hc
  exact kc_O7 hK k ph bg pr o p v e w c0 fs h1 h2 hc
theorem fl_ne (f : mFr) (fs : List mFr) : ¬ f :: fs = [] := fun h => by cases h
theorem d_par (hK : KCl t n cv KH KF KE) (o p e q e1 : Int) (c1 : List Int) (h1 : tk t n p 3 40 e) (h2 : o < 7) (h3 : S0 t n KH (o + 1) e q c1) (h4 : tk t n q 3 41 e1) : S4 t n KH o p e1 c1 := by
  intro k ph bg pr w fs c0 ho hb hf hl hc
  refine kc_O4 hK k ph bg pr o p e w c0 fs h1 h2 (by omega) (fun r => ?_)
  refine h3 2 0 1 r [] _ c0 (by omega) (NB_k nT2) (by rw [List.length_cons]; omega) (by rw [List.length_nil]; omega) (TR_nil _) (by omega) (fun u d hu hd hn => ?_)
  refine kc_G7 hK 2 0 0 r (o + 1) o q e1 (u ++ []) (c0 ++ d) _ (Or.inl rfl) (fun h => by omega) (fl_ne _ _) h4 ⟨(by rw [List.append_nil, RG_nots (RG_le hu (by omega))]; omega), by omega⟩ ?_
  rw [if_neg (show ¬ (2 : Int) = 4 by omega)]
  simp only [List.append_assoc, List.append_nil]
  rw [hd]
  exact hc
theorem d_two (hK : KCl t n cv KH KF KE) (o p v e e1 q e2 q2 e3 : Int) (c1 c2 : List Int) (h1 : tk t n p 1 v e) (h2 : v = 7170414 ∨ v = 7168376) (h3 : tk t n e 3 40 e1) (h4 : o < 7) (h5 : S0 t n KH (o + 1) e1 q c1) (h6 : tk t n q 3 44 e2) (h7 : S0 t n KH (o + 1) e2 q2 c2) (h8 : tk t n q2 3 41 e3) : S4 t n KH o p e3 (c1 ++ (c2 ++ [twoS v])) := by
  intro k ph bg pr w fs c0 ho hb hf hl hc
  refine kc_O5 hK k ph bg pr o p v e e1 w c0 fs h1 (by omega) h3 h4 (by omega) ?_
  rw [if_neg (show ¬ v = 26982 by omega)]
  refine h5 3 0 1 _ [] _ c0 (by omega) (NB_k nT3) (by rw [List.length_cons]; omega) (by rw [List.length_nil]; omega) (TR_nil _) (by omega) (fun u d hu hd hn => ?_)
  refine kc_G6 hK 3 0 0 _ (o + 1) (o + 1) q e2 (u ++ []) (c0 ++ d) _ (Or.inl rfl) h6 ⟨(by rw [List.append_nil, RG_nots (RG_le hu (by omega))]; omega), by omega⟩ ?_
  rw [if_pos rfl]
  refine h7 4 0 0 _ [] _ _ (by omega) (NB_0 _ _) (by rw [List.length_cons]; omega) (by rw [List.length_nil]; omega) (TR_nil _) (by omega) (fun u2 d2 hu2 hd2 hn2 => ?_)
  refine kc_G7 hK 4 0 0 _ (o + 1) o q2 e3 (u2 ++ []) _ _ (Or.inr rfl) (fun _ => twoS_b _) (fl_ne _ _) h8 ⟨(by rw [List.append_nil, RG_nots (RG_le hu2 (by omega))]; omega), by omega⟩ ?_
  rw [if_pos rfl]
  have ec : c0 ++ d ++ (u ++ []) ++ d2 ++ (u2 ++ [] ++ [twoS v]) = c0 ++ (c1 ++ (c2 ++ [twoS v])) := by
    rw [← hd, ← hd2]
    simp only [List.append_assoc, List.append_nil]
  rw [ec]
  exact hc
theorem d_iff (hK : KCl t n cv KH KF KE) (o p e e1 q e2 q2 e3 q3 e4 : Int) (c1 c2 c3 : List Int) (h1 : tk t n p 1 26982 e) (h2 : tk t n e 3 40 e1) (h3 : o < 7) (h4 : S5 t n KH (o + 1) e1 q c1) (h5 : tk t n q 3 44 e2) (h6 : S0 t n KH (o + 1) e2 q2 c2) (h7 : tk t n q2 3 44 e3) (h8 : S0 t n KH (o + 1) e3 q3 c3) (h9 : tk t n q3 3 41 e4) : S4 t n KH o p e4 (c1 ++ (c2 ++ (c3 ++ [44]))) := by
  intro k ph bg pr w fs c0 ho hb hf hl hc
  refine kc_O5 hK k ph bg pr o p 26982 e e1 w c0 fs h1 (by omega) h2 h3 (by omega) ?_
  rw [if_pos rfl]
  refine h4 6 _ _ c0 (by omega) (by unfold isT; omega) (by rw [List.length_cons]; omega) (fun u d ph' hd hph hn => ?_)
  refine kc_G6 hK 6 ph' 0 _ (o + 1 + nots u) (o + 1) q e2 u (c0 ++ d) _ (Or.inr ⟨rfl, PHC_nz hph⟩) h5 ⟨rfl, by omega⟩ ?_
  rw [if_neg (show ¬ (6 : Int) = 3 by omega)]
  refine h6 3 0 0 _ [] _ _ (by omega) (NB_0 _ _) (by rw [List.length_cons]; omega) (by rw [List.length_nil]; omega) (TR_nil _) (by omega) (fun u2 d2 hu2 hd2 hn2 => ?_)
  refine kc_G6 hK 3 0 0 _ (o + 1) (o + 1) q2 e3 (u2 ++ []) _ _ (Or.inl rfl) h7 ⟨(by rw [List.append_nil, RG_nots (RG_le hu2 (by omega))]; omega), by omega⟩ ?_
  rw [if_pos rfl]
  refine h8 4 0 0 _ [] _ _ (by omega) (NB_0 _ _) (by rw [List.length_cons]; omega) (by rw [List.length_nil]; omega) (TR_nil _) (by omega) (fun u3 d3 hu3 hd3 hn3 => ?_)
  refine kc_G7 hK 4 0 0 _ (o + 1) o q3 e4 (u3 ++ []) _ _ (Or.inr rfl) (fun _ => twoS_b _) (fl_ne _ _) h9 ⟨(by rw [List.append_nil, RG_nots (RG_le hu3 (by omega))]; omega), by omega⟩ ?_
  rw [if_pos rfl]
  have ec : c0 ++ d ++ u ++ d2 ++ (u2 ++ []) ++ d3 ++ (u3 ++ [] ++ [twoS 26982]) = c0 ++ (c1 ++ (c2 ++ (c3 ++ [44]))) := by
    rw [← hd, ← hd2, ← hd3]
    simp only [List.append_assoc, List.append_nil]
    rfl
  rw [ec]
  exact hc
theorem d_tst (o p q r : Int) (c1 c2 : List Int) (h1 : S7 t n KH o p q c1) (h2 : S6 t n KH o q r c2) : S5 t n KH o p r (c1 ++ c2) := by
  intro k pr fs c0 ho hk hf hc
  refine h1 k pr [] fs c0 ho hk hf (by rw [List.length_nil]; omega) (TR_nil _) (fun u d ph' hu hd hph hn => ?_)
  rw [List.append_nil]
  refine h2 k pr fs c0 u d ph' ho hk hf hph hn (fun u' d' ph2 hd' hph2 hn2 => ?_)
  exact hc u' d' ph2 (by rw [hd', ← hd, List.append_assoc]) hph2 hn2
theorem d_tstE (o p k v e : Int) (h1 : tk t n p k v e) (h2 : ¬ (k = 1 ∧ v = 28530)) : S6 t n KH o p p [] := by
  intro k' pr fs c0 u d ph ho hk hf hph hn hc
  refine hc u d ph (by rw [List.append_nil]) hph (fun kk vv ee hkk => ?_)
  have z := tk_u h1 hkk
  have z2 := hn _ _ _ hkk
  unfold aoS
  omega
theorem d_tstM (hK : KCl t n cv KH KF KE) (o p e q r : Int) (c1 c2 : List Int) (h1 : tk t n p 1 28530 e) (h3 : S7 t n KH o e q c1) (h4 : S6 t n KH o q r c2) : S6 t n KH o p r (c1 ++ 42 :: c2) := by
  intro k pr fs c0 u d ph ho hk hf hph hn hc
  refine kc_G4o hK k ph 0 pr (o + nots u) o p e u (c0 ++ d) fs hk (PHC_nz hph) h1 ⟨rfl, by omega⟩ ?_
  refine h3 k pr [42] fs (c0 ++ d ++ u) ho hk hf (by rw [List.length_singleton]; omega) (TR_c (by show (1 : Int) < 2; omega)) (fun u2 d2 ph2 hu2 hd2 hph2 hn2 => ?_)
  have z := h4 k pr fs c0 (u2 ++ [42]) ((d ++ u) ++ d2) ph2 ho hk hf hph2 hn2 (fun u3 d3 ph3 hd3 hph3 hn3 => hc u3 d3 ph3 (by rw [hd3, ← hd2]; simp only [List.append_assoc, List.cons_append, List.nil_append]) hph3 hn3)
  rw [nots_app, show nots [42] = 0 from rfl, Int.add_zero] at z
  simp only [List.append_assoc, List.cons_append, List.nil_append] at z ⊢
  exact z
theorem d_bth (o p q r : Int) (c1 c2 : List Int) (h1 : S9 t n KH o p q c1) (h2 : S8 t n KH o q r c2) : S7 t n KH o p r (c1 ++ c2) := by
  intro k pr w fs c0 ho hk hf hl ht hc
  refine h1 k pr w fs c0 ho hk hf (by omega) (TR_le ht (by omega)) (fun u d ph' hu hd hph => ?_)
  refine h2 k pr w fs c0 u d ph' ho hk hf hl ht (RG_le hu (by omega)) hph (fun u' d' ph2 hu' hd' hph2 hn2 => ?_)
  exact hc u' d' ph2 hu' (by rw [hd', ← hd, List.append_assoc]) hph2 hn2
theorem d_bthE (o p k v e : Int) (h1 : tk t n p k v e) (h2 : ¬ (k = 1 ∧ v = 6385252)) : S8 t n KH o p p [] := by
  intro k' pr w fs c0 u d ph ho hk hf hl ht hu hph hc
  refine hc u d ph hu (by rw [List.append_nil]) hph (fun kk vv ee hkk => ?_)
  have z := tk_u h1 hkk
  omega
theorem d_bthM (hK : KCl t n cv KH KF KE) (o p e q r : Int) (c1 c2 : List Int) (h1 : tk t n p 1 6385252 e) (h3 : S9 t n KH o e q c1) (h4 : S8 t n KH o q r c2) : S8 t n KH o p r (c1 ++ 41 :: c2) := by
  intro k pr w fs c0 u d ph ho hk hf hl ht hu hph hc
  refine kc_G4a hK k ph 0 pr (o + nots u) o p e u w (c0 ++ d) fs hk (PHC_nz hph) h1 hu ht (by omega) ⟨rfl, by omega⟩ ?_
  refine h3 k pr (41 :: w) fs (c0 ++ d ++ u) ho hk hf (by rw [List.length_cons]; omega) (TR_c (by show (2 : Int) < 4; omega)) (fun u2 d2 ph2 hu2 hd2 hph2 => ?_)
  have z := h4 k pr w fs c0 (u2 ++ [41]) ((d ++ u) ++ d2) ph2 ho hk hf hl ht (RG_app (RG_le hu2 (by omega)) (RG_one (by show (2 : Int) ≤ 2; omega))) hph2 (fun u3 d3 ph3 hu3 hd3 hph3 hn3 => hc u3 d3 ph3 hu3 (by rw [hd3, ← hd2]; simp only [List.append_assoc, List.cons_append, List.nil_append]) hph3 hn3)
  rw [nots_app, show nots [41] = 0 from rfl, Int.add_zero] at z
  simp only [List.append_assoc, List.cons_append, List.nil_append] at z ⊢
  exact z
theorem d_fnt (hK : KCl t n cv KH KF KE) (o p e q : Int) (c1 : List Int) (h1 : tk t n p 1 7237492 e) (h2 : o < 7) (h3 : S9 t n KH (o + 1) e q c1) : S9 t n KH o p q (c1 ++ [43]) := by
  intro k pr w fs c0 ho hk hf hl ht hc
  refine kc_O1 hK k 0 1 pr o p e w c0 fs hk rfl h1 h2 (by omega) ?_
  refine h3 k pr (43 :: w) fs c0 (by omega) hk (by omega) (by rw [List.length_cons]; omega) (TR_c (by show (3 : Int) < 4; omega)) (fun u d ph' hu hd hph => ?_)
  have z := hc (u ++ [43]) d ph' (RG_app hu (RG_one (by show (3 : Int) ≤ 3; omega))) (by rw [← hd, List.append_assoc]) hph
  rw [nots_app, show nots [43] = 1 from rfl] at z
  rw [show o + 1 + nots u = o + (nots u + 1) by omega]
  simp only [List.append_assoc, List.cons_append, List.nil_append] at z ⊢
  exact z
theorem d_fbr (hK : KCl t n cv KH KF KE) (o p e q e1 : Int) (c1 : List Int) (h1 : tk t n p 3 91 e) (h2 : o < 7) (h3 : S5 t n KH (o + 1) e q c1) (h4 : tk t n q 3 93 e1) : S9 t n KH o p e1 c1 := by
  intro k pr w fs c0 ho hk hf hl ht hc
  refine kc_O2 hK k 0 1 pr o p e w c0 fs hk rfl h1 h2 (by omega) (fun r => ?_)
  refine h3 5 r _ c0 (by omega) (by unfold isT; omega) (by rw [List.length_cons]; omega) (fun u d ph' hd hph hn => ?_)
  refine kc_G7b hK ph' 0 r k 0 0 pr (o + 1 + nots u) o q e1 u w (c0 ++ d) fs (PHC_nz hph) h4 ⟨rfl, by omega⟩ ?_
  have z := hc [] c1 2 (RG_nil _) (by rw [List.append_nil]) (Or.inl rfl)
  rw [nots_n, Int.add_zero] at z
  rw [List.append_assoc, hd]
  exact z
theorem d_fal (hK : KCl t n cv KH KF KE) (o p e : Int) (h1 : tk t n p 1 6384748 e) : S9 t n KH o p e [30] := by
  intro k pr w fs c0 ho hk hf hl ht hc
  refine kc_O3 hK k 0 1 pr o p e w c0 fs hk rfl h1 ?_
  have z := hc [] [30] 2 (RG_nil _) (by rw [List.append_nil]) (Or.inl rfl)
  rw [nots_n, Int.add_zero] at z
  exact z
theorem NB_of {k bg p kk v e : Int} (h1 : tk t n p kk v e) (h2 : ¬ (kk = 1 ∧ (v = 7237492 ∨ v = 6384748))) (h3 : ¬ (kk = 3 ∧ v = 91)) : NB t n k bg p := by
  intro _ _ k2 v2 e2 h
  have z := tk_u h1 h
  rw [← z.1, ← z.2.1]
  exact ⟨h2, h3⟩
theorem d_fcm (o p kk v e q : Int) (c1 : List Int) (h1 : tk t n p kk v e) (h2 : ¬ (kk = 1 ∧ (v = 7237492 ∨ v = 6384748))) (h3 : ¬ (kk = 3 ∧ v = 91)) (h4 : S10 t n KH o p q c1) : S9 t n KH o p q c1 := fun k pr w fs c0 => h4 k pr w fs c0 (NB_of h1 h2 h3)
theorem d_cmp (hK : KCl t n cv KH KF KE) (o p q v e r : Int) (c1 c2 : List Int) (h1 : S0 t n KH o p q c1) (h2 : tk t n q 3 v e) (h3 : v = 60 ∨ v = 61 ∨ v = 62) (h4 : S0 t n KH o e r c2) : S10 t n KH o p r (c1 ++ (c2 ++ [sop v])) := by
  intro k pr w fs c0 hb ho hk hf hl ht hc
  refine h1 k 0 1 pr w fs c0 ho hb hf (by omega) (TR_le ht (by omega)) (by omega) (fun u d hu hd hn => ?_)
  refine kc_G3 hK k 0 0 pr o q v e u w (c0 ++ d) fs hk rfl h2 h3 hu (TR_le ht (by omega)) (by omega) ?_
  refine h4 k 1 0 pr (sop v :: w) fs (c0 ++ d ++ u) ho (NB_0 _ _) hf (by rw [List.length_cons]; omega) (TR_c (by rw [rk_c h3]; omega)) (by omega) (fun u2 d2 hu2 hd2 hn2 => ?_)
  have g2 : RG (u2 ++ [sop v]) 4 := RG_app (RG_le hu2 (by omega)) (RG_one (by rw [rk_c h3]; omega))
  have z := hc (u2 ++ [sop v]) (d ++ (u ++ d2)) 1 (RG_le g2 (by omega)) (by rw [← hd, ← hd2]; simp only [List.append_assoc]) (Or.inr ⟨rfl, hn2⟩)
  rw [RG_nots g2, Int.add_zero] at z
  simp only [List.append_assoc, List.cons_append, List.nil_append] at z ⊢
  exact z
theorem Gr_drv (hK : KCl t n cv KH KF KE) {tag : Nat} {o p q : Int} {c : List Int} (h : Gr t n cv tag o p q c) : DG t n KH tag o p q c := h (DG t n KH) ⟨d_sum, d_sumE, d_sumM hK, d_prd, d_prdE, d_prdM hK, d_num hK, d_fig hK, d_par hK, d_two hK, d_iff hK, d_tst, d_tstE, d_tstM hK, d_bth, d_bthE, d_bthM hK, d_fnt hK, d_fbr hK, d_fal hK, d_fcm, d_cmp hK⟩
end DRV2
