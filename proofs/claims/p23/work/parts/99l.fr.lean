/-! the reference's frames and what they hold back, as lists; its codes -/
noncomputable def opsAt (ops : Nat → Int) : List Int → Int → Prop := fun w => List.rec (fun _ => True) (fun x _ ih m => 1 ≤ m ∧ ops (m - 1).toNat = x ∧ ih (m - 1)) w
theorem opsAt_c (ops : Nat → Int) (x : Int) (l : List Int) (m : Int) : opsAt ops (x :: l) m = (1 ≤ m ∧ ops (m - 1).toNat = x ∧ opsAt ops l (m - 1)) := rfl
noncomputable def FR (fr ph bg pr bs ops : Nat → Int) : List mFr → Int → Int → Prop := fun fs => List.rec (fun d m => d = 0 ∧ m = 0) (fun f _ ih d m => 1 ≤ d ∧ fr (d - 1).toNat = f.1 ∧ ph (d - 1).toNat = f.2.1 ∧ bg (d - 1).toNat = f.2.2.1 ∧ pr (d - 1).toNat = f.2.2.2.1 ∧ bs (d - 1).toNat = m - (f.2.2.2.2.length : Int) ∧ opsAt ops f.2.2.2.2 m ∧ ih (d - 1) (m - (f.2.2.2.2.length : Int))) fs
theorem FR_c (fr ph bg pr bs ops : Nat → Int) (k p b r : Int) (w : List Int) (fs : List mFr) (d m : Int) : FR fr ph bg pr bs ops ((k, p, b, r, w) :: fs) d m = (1 ≤ d ∧ fr (d - 1).toNat = k ∧ ph (d - 1).toNat = p ∧ bg (d - 1).toNat = b ∧ pr (d - 1).toNat = r ∧ bs (d - 1).toNat = m - (w.length : Int) ∧ opsAt ops w m ∧ FR fr ph bg pr bs ops fs (d - 1) (m - (w.length : Int))) := rfl
theorem opsAt_e {a b : Nat → Int} : ∀ (w : List Int) (m : Int), (∀ i : Nat, (i : Int) < m → b i = a i) → opsAt a w m → opsAt b w m := by
  intro w
  induction w with
  | nil => intro m _ _; exact True.intro
  | cons x l ih =>
    intro m h k
    rw [opsAt_c] at k ⊢
    exact ⟨k.1, (h _ (by omega)).trans k.2.1, ih (m - 1) (fun i hi => h i (by omega)) k.2.2⟩
theorem opsAt_len {a : Nat → Int} : ∀ (w : List Int) (m : Int), 0 ≤ m → opsAt a w m → (w.length : Int) ≤ m := by
  intro w
  induction w with
  | nil => intro m h _; rw [List.length_nil]; omega
  | cons x l ih =>
    intro m h k
    rw [opsAt_c] at k
    have := ih (m - 1) (by omega) k.2.2
    rw [List.length_cons]; omega
theorem FR_e {fr ph bg pr bs ops fr' ph' bg' pr' bs' ops' : Nat → Int} : ∀ (fs : List mFr) (d m : Int), 0 ≤ m → (∀ i : Nat, (i : Int) < d → fr' i = fr i ∧ ph' i = ph i ∧ bg' i = bg i ∧ pr' i = pr i ∧ bs' i = bs i) → (∀ i : Nat, (i : Int) < m → ops' i = ops i) → FR fr ph bg pr bs ops fs d m → FR fr' ph' bg' pr' bs' ops' fs d m := by
  intro fs
  induction fs with
  | nil => intro d m _ _ _ k; exact k
  | cons f l ih =>
    intro d m hm h g k
    obtain ⟨fk, fp, fb, fr_, fw⟩ := f
    rw [FR_c] at k ⊢
    obtain ⟨k1, k2, k3, k4, k5, k6, k7, k8⟩ := k
    have q := h (d - 1).toNat (by omega)
    have z := opsAt_len fw m hm k7
    exact ⟨k1, q.1.trans k2, q.2.1.trans k3, q.2.2.1.trans k4, q.2.2.2.1.trans k5, q.2.2.2.2.trans k6, opsAt_e fw m g k7, ih (d - 1) _ (by omega) (fun i hi => h i (by omega)) (fun i hi => g i (by omega)) k8⟩
section FRS
variable {fr ph bg pr bs ops : Nat → Int} {k p b r : Int} {w : List Int} {fs : List mFr} {d m : Int}
theorem FR_top (h : FR fr ph bg pr bs ops ((k, p, b, r, w) :: fs) d m) : 1 ≤ d ∧ fr (d - 1).toNat = k ∧ ph (d - 1).toNat = p ∧ bg (d - 1).toNat = b ∧ pr (d - 1).toNat = r ∧ bs (d - 1).toNat = m - (w.length : Int) := by
  rw [FR_c] at h
  exact ⟨h.1, h.2.1, h.2.2.1, h.2.2.2.1, h.2.2.2.2.1, h.2.2.2.2.2.1⟩
theorem FR_hold (x : Int) (hm : 0 ≤ m) (h : FR fr ph bg pr bs ops ((k, p, b, r, w) :: fs) d m) : FR fr ph bg pr bs (up1 ops m.toNat x) ((k, p, b, r, x :: w) :: fs) d (m + 1) := by
  rw [FR_c] at h ⊢
  obtain ⟨k1, k2, k3, k4, k5, k6, k7, k8⟩ := h
  have z := opsAt_len w m hm k7
  rw [List.length_cons]
  refine ⟨k1, k2, k3, k4, k5, by omega, ?_, ?_⟩
  · rw [opsAt_c]
    refine ⟨by omega, ?_, ?_⟩
    · rw [show m + 1 - 1 = m by omega]; exact up1_e _ _ _
    · rw [show m + 1 - 1 = m by omega]
      exact opsAt_e w m (fun i hi => up1_n _ _ (by omega)) k7
  · rw [show m + 1 - ((w.length + 1 : Nat) : Int) = m - (w.length : Int) by omega]
    exact FR_e fs _ _ (by omega) (fun i _ => ⟨rfl, rfl, rfl, rfl, rfl⟩) (fun i hi => up1_n _ _ (by omega)) k8
theorem FR_bg (x : Int) (hm : 0 ≤ m) (h : FR fr ph bg pr bs ops ((k, p, b, r, w) :: fs) d m) : FR fr ph (up1 bg (d - 1).toNat x) pr bs ops ((k, p, x, r, w) :: fs) d m := by
  rw [FR_c] at h ⊢
  obtain ⟨k1, k2, k3, k4, k5, k6, k7, k8⟩ := h
  have z := opsAt_len w m hm k7
  exact ⟨k1, k2, k3, up1_e _ _ _, k5, k6, k7, FR_e fs _ _ (by omega) (fun i hi => ⟨rfl, rfl, up1_n _ _ (by omega), rfl, rfl⟩) (fun i hi => rfl) k8⟩
theorem FR_ph (x : Int) (hm : 0 ≤ m) (h : FR fr ph bg pr bs ops ((k, p, b, r, w) :: fs) d m) : FR fr (up1 ph (d - 1).toNat x) bg pr bs ops ((k, x, b, r, w) :: fs) d m := by
  rw [FR_c] at h ⊢
  obtain ⟨k1, k2, k3, k4, k5, k6, k7, k8⟩ := h
  have z := opsAt_len w m hm k7
  exact ⟨k1, k2, up1_e _ _ _, k4, k5, k6, k7, FR_e fs _ _ (by omega) (fun i hi => ⟨rfl, up1_n _ _ (by omega), rfl, rfl, rfl⟩) (fun i hi => rfl) k8⟩
theorem FR_pr (x : Int) (hm : 0 ≤ m) (h : FR fr ph bg pr bs ops ((k, p, b, r, w) :: fs) d m) : FR fr ph bg (up1 pr (d - 1).toNat x) bs ops ((k, p, b, x, w) :: fs) d m := by
  rw [FR_c] at h ⊢
  obtain ⟨k1, k2, k3, k4, k5, k6, k7, k8⟩ := h
  have z := opsAt_len w m hm k7
  exact ⟨k1, k2, k3, k4, up1_e _ _ _, k6, k7, FR_e fs _ _ (by omega) (fun i hi => ⟨rfl, rfl, rfl, up1_n _ _ (by omega), rfl⟩) (fun i hi => rfl) k8⟩
theorem FR_kd (x : Int) (hm : 0 ≤ m) (h : FR fr ph bg pr bs ops ((k, p, b, r, w) :: fs) d m) : FR (up1 fr (d - 1).toNat x) ph bg pr bs ops ((x, p, b, r, w) :: fs) d m := by
  rw [FR_c] at h ⊢
  obtain ⟨k1, k2, k3, k4, k5, k6, k7, k8⟩ := h
  have z := opsAt_len w m hm k7
  exact ⟨k1, up1_e _ _ _, k3, k4, k5, k6, k7, FR_e fs _ _ (by omega) (fun i hi => ⟨up1_n _ _ (by omega), rfl, rfl, rfl, rfl⟩) (fun i hi => rfl) k8⟩
theorem FR_push (x : Int) (hm : 0 ≤ m) (hd : 0 ≤ d) (h : FR fr ph bg pr bs ops fs d m) : FR (up1 fr d.toNat x) (up1 ph d.toNat 0) (up1 bg d.toNat 1) pr (up1 bs d.toNat m) ops ((x, 0, 1, pr d.toNat, []) :: fs) (d + 1) m := by
  rw [FR_c, List.length_nil, show d + 1 - 1 = d by omega]
  refine ⟨by omega, up1_e _ _ _, up1_e _ _ _, up1_e _ _ _, rfl, ?_, True.intro, ?_⟩
  · rw [up1_e]; omega
  · rw [show m - ((0 : Nat) : Int) = m by omega]
    exact FR_e fs _ _ hm (fun i hi => ⟨up1_n _ _ (by omega), up1_n _ _ (by omega), up1_n _ _ (by omega), rfl, up1_n _ _ (by omega)⟩) (fun i hi => rfl) h
theorem FR_pop (h : FR fr ph bg pr bs ops ((k, p, b, r, []) :: fs) d m) : FR fr ph bg pr bs ops fs (d - 1) m := by
  rw [FR_c, List.length_nil] at h
  have z := h.2.2.2.2.2.2.2
  rw [show m - ((0 : Nat) : Int) = m by omega] at z
  exact z
theorem FR_take {x : Int} (h : FR fr ph bg pr bs ops ((k, p, b, r, x :: w) :: fs) d m) : 1 ≤ m ∧ ops (m - 1).toNat = x ∧ FR fr ph bg pr bs ops ((k, p, b, r, w) :: fs) d (m - 1) := by
  rw [FR_c, List.length_cons] at h
  obtain ⟨k1, k2, k3, k4, k5, k6, k7, k8⟩ := h
  rw [opsAt_c] at k7
  refine ⟨k7.1, k7.2.1, ?_⟩
  rw [FR_c]
  refine ⟨k1, k2, k3, k4, k5, by omega, k7.2.2, ?_⟩
  rw [show m - 1 - (w.length : Int) = m - ((w.length + 1 : Nat) : Int) by omega]
  exact k8
end FRS
/-- no frame holds many -/
def WB (fs : List mFr) : Prop := ∀ f : mFr, f ∈ fs → f.2.2.2.2.length ≤ 15 ∧ ∀ x : Int, x ∈ f.2.2.2.2 → 31 ≤ x ∧ x ≤ 43
theorem FR_bnd {fr ph bg pr bs ops : Nat → Int} : ∀ (fs : List mFr) (d m : Int), WB fs → FR fr ph bg pr bs ops fs d m → d = (fs.length : Int) ∧ 0 ≤ m ∧ m ≤ 15 * (fs.length : Int) := by
  intro fs
  induction fs with
  | nil =>
    intro d m _ h
    have h : d = 0 ∧ m = 0 := h
    rw [List.length_nil]; omega
  | cons f l ih =>
    intro d m hw h
    obtain ⟨fk, fp, fb, fr_, fw⟩ := f
    rw [FR_c] at h
    obtain ⟨k1, k2, k3, k4, k5, k6, k7, k8⟩ := h
    have q := ih (d - 1) _ (fun f hf => hw f (List.mem_cons_of_mem _ hf)) k8
    have z := hw _ List.mem_cons_self
    have z : fw.length ≤ 15 := z.1
    rw [List.length_cons]
    omega
theorem WB_hd {k p b r : Int} {w : List Int} {fs : List mFr} (h : WB ((k, p, b, r, w) :: fs)) : w.length ≤ 15 := (h _ List.mem_cons_self).1
theorem WB_el {k p b r : Int} {w : List Int} {fs : List mFr} (h : WB ((k, p, b, r, w) :: fs)) : ∀ x : Int, x ∈ w → 31 ≤ x ∧ x ≤ 43 := (h _ List.mem_cons_self).2
theorem WB_tl {f : mFr} {fs : List mFr} (h : WB (f :: fs)) : WB fs := fun g hg => h g (List.mem_cons_of_mem _ hg)
theorem WB_c {k p b r : Int} {w : List Int} {fs : List mFr} (h : w.length ≤ 15) (he : ∀ x : Int, x ∈ w → 31 ≤ x ∧ x ≤ 43) (hf : WB fs) : WB ((k, p, b, r, w) :: fs) := fun f hm => by
  rcases List.mem_cons.mp hm with rfl | hm
  · exact ⟨h, he⟩
  · exact hf f hm
/-- the reference's codes -/
def CDr (b n : Int) (cs cv : Nat → Int) (c : List Int) : Prop := n = (c.length : Int) ∧ ∀ i : Nat, i < c.length → cs (1600 * b + (i : Int)).toNat = c.getD i 0 % 64 ∧ (c.getD i 0 % 64 = 0 → cv (1600 * b + (i : Int)).toNat = c.getD i 0 / 64)
theorem CDr_add {b n x v y : Int} {cs cv : Nat → Int} {c : List Int} (hb : 0 ≤ b) (h : CDr b n cs cv c) (hx : x = y % 64) (hv : y % 64 = 0 → v = y / 64) : CDr b (n + 1) (up1 cs (1600 * b + n).toNat x) (up1 cv (1600 * b + n).toNat v) (c ++ [y]) := by
  obtain ⟨h1, h2⟩ := h
  refine ⟨by rw [List.length_append, List.length_singleton]; omega, fun i hi => ?_⟩
  rw [List.length_append, List.length_singleton] at hi
  by_cases q : i < c.length
  · rw [getD_a1 _ _ _ q, up1_n _ _ (by omega), up1_n _ _ (by omega)]
    exact h2 i q
  · have e : i = c.length := by omega
    subst e
    rw [getD_a2 _ _ _ (Nat.le_refl _), Nat.sub_self, show (1600 * b + (c.length : Int)).toNat = (1600 * b + n).toNat by omega, up1_e, up1_e]
    exact ⟨hx, hv⟩
