/-! the store as a function, and the world that it stands for. A cell's shape: an object (class, kinds of its fields: 0 int, 2 boolean, 3 long, 4 a reference, 10 + c the fixed reference c), or an array (0 int, 1 byte, 2 boolean, 3 long, 4 references; length) -/
abbrev zC : Type := (Nat × List Nat) ⊕ (Nat × Nat)
def zK (k : Nat) (z : Int) : zV := cond (Nat.ble 10 k) (.inr (.inr (.inl (k - 10)))) (cond (Nat.beq k 3) (.inr (.inl z)) (cond (Nat.beq k 4) (.inr (.inr (.inl z.toNat))) (.inl z)))
def zin (k : Nat) (z : Int) : Prop := cond (Nat.ble 10 k) True (cond (Nat.beq k 4) (0 ≤ z) (cond (Nat.beq k 3) (zsL z) (cond (Nat.beq k 2) (z = 0 ∨ z = 1) (cond (Nat.beq k 1) (-128 ≤ z ∧ z ≤ 127) (zsI z)))))
def zR (Sh : List zC) (st : zS) (w : List rx_C) : Prop := w.length = Sh.length ∧
  (∀ (c a : Nat) (ks : List Nat), Sh[c]? = some (.inl (a, ks)) → ∃ fs : List rx_V, w[c]? = some (.inl (a, fs)) ∧ fs.length = ks.length ∧ ∀ (f k : Nat), ks[f]? = some k → fs[f]? = some (zv (zK k (st c f)))) ∧
  (∀ (c t n : Nat), Sh[c]? = some (.inr (t, n)) → ∃ u : List (Nat × rx_V), w[c]? = some (.inr (t, n, u)) ∧ (n < 2147483648 ∧ t < 5) ∧ ∀ j, j < n → rx_lk u j (rx_df t) = zv (zK t (st c j)))
def zup (st : zS) (c i : Nat) (z : Int) : zS := fun c' i' => cond (Nat.beq c' c && Nat.beq i' i) z (st c' i')
def zcp (st : zS) (c0 s0 c1 d1 n : Nat) : zS := fun c i => cond (Nat.beq c c1 && (Nat.ble d1 i && Nat.blt i (d1 + n))) (st c0 (s0 + (i - d1))) (st c i)
theorem zup_eq (st : zS) (c i : Nat) (z : Int) : zup st c i z c i = z := by
  unfold zup
  rw [zbeq, zbeq]
  simp
theorem zup_ne (st : zS) {c i c' i' : Nat} (z : Int) (h : ¬ (c' = c ∧ i' = i)) : zup st c i z c' i' = st c' i' := by
  unfold zup
  rw [zbeq, zbeq]
  by_cases h1 : c' = c
  · have h2 : ¬ i' = i := fun q => h ⟨h1, q⟩
    simp [h1, h2]
  · simp [h1]
theorem zup_nc (st : zS) {c i c' i' : Nat} (z : Int) (h : ¬ c' = c) : zup st c i z c' i' = st c' i' := zup_ne st z (fun q => h q.1)
theorem zup_ni (st : zS) {c i i' : Nat} (z : Int) (h : ¬ i' = i) : zup st c i z c i' = st c i' := zup_ne st z (fun q => h q.2)
theorem zup_if (st : zS) (c i c' i' : Nat) (z : Int) : zup st c i z c' i' = if c' = c ∧ i' = i then z else st c' i' := by
  by_cases h : c' = c ∧ i' = i
  · rw [if_pos h, h.1, h.2, zup_eq]
  · rw [if_neg h, zup_ne st z h]
theorem zcp_if (st : zS) (c0 s0 c1 d1 n c i : Nat) : zcp st c0 s0 c1 d1 n c i = if c = c1 ∧ d1 ≤ i ∧ i < d1 + n then st c0 (s0 + (i - d1)) else st c i := by
  unfold zcp
  rw [zbeq, zble, zblt]
  by_cases h1 : c = c1
  · by_cases h2 : d1 ≤ i
    · by_cases h3 : i < d1 + n
      · simp [h1, h2, h3]
      · simp [h1, h2, h3]
    · simp [h1, h2]
  · simp [h1]
theorem zat_eq {α β : Type} {l : List α} : ∀ {n : Nat} {x : α} (k : α → Option β), l[n]? = some x → rx_at l n k = k x := by
  induction l with
  | nil => intro n x k h; simp at h
  | cons a t ih =>
    intro n x k h
    cases n with
    | zero => simp at h; rw [← h]; rfl
    | succ n => exact ih k (by simpa using h)
theorem zset_eq {α β : Type} {l : List α} : ∀ {n : Nat} (v : α) (k : List α → Option β), n < l.length → rx_set l n v k = k (l.set n v) := by
  induction l with
  | nil => intro n v k h; simp at h
  | cons a t ih =>
    intro n v k h
    cases n with
    | zero => rfl
    | succ n => exact ih v (fun t' => k (a :: t')) (by simpa using h)
theorem zlt_of {α : Type} {l : List α} {n : Nat} {x : α} (h : l[n]? = some x) : n < l.length := by
  rcases Nat.lt_or_ge n l.length with q | q
  · exact q
  · rw [List.getElem?_eq_none q] at h; cases h
theorem zlk_cons (j i : Nat) (v d : rx_V) (l : List (Nat × rx_V)) : rx_lk ((j, v) :: l) i d = if j = i then v else rx_lk l i d := by
  show cond (Nat.beq j i) v (rx_lk l i d) = _
  rw [zbeq]
  by_cases h : j = i <;> simp [h]
theorem zlk_filter (j i : Nat) (d : rx_V) (l : List (Nat × rx_V)) (h : ¬ j = i) : rx_lk (l.filter (fun q => !Nat.beq q.1 j)) i d = rx_lk l i d := by
  induction l with
  | nil => rfl
  | cons q t ih =>
    obtain ⟨a, v⟩ := q
    by_cases ha : a = j
    · have h1 : (!Nat.beq a j) = false := by rw [zbeq]; simp [ha]
      rw [List.filter_cons]
      simp only [h1]
      rw [zlk_cons]
      have h2 : ¬ a = i := fun q => h (by rw [← ha, q])
      rw [if_neg h2]
      exact ih
    · have h1 : (!Nat.beq a j) = true := by rw [zbeq]; simp [ha]
      rw [List.filter_cons]
      simp only [h1, if_true]
      rw [zlk_cons, zlk_cons, ih]
theorem zK_lt {k : Nat} (h : k < 10) : Nat.ble 10 k = false := by rw [zble]; simp; omega
theorem zR_putf {Sh : List zC} {st : zS} {w : List rx_C} {c a f k : Nat} {ks : List Nat} {fs : List rx_V} {z : Int} (h : zR Sh st w) (hc : Sh[c]? = some (.inl (a, ks))) (hf : ks[f]? = some k) (hw : w[c]? = some (.inl (a, fs))) : zR Sh (zup st c f z) (w.set c (.inl (a, fs.set f (zv (zK k z))))) := by
  obtain ⟨h1, h2, h3⟩ := h
  have hcw : c < w.length := zlt_of hw
  refine ⟨by rw [List.length_set]; exact h1, ?_, ?_⟩
  · intro c' a' ks' hc'
    by_cases e : c' = c
    · subst e
      rw [hc] at hc'
      cases hc'
      obtain ⟨fs', g1, g2, g3⟩ := h2 c' a ks hc
      rw [hw] at g1
      cases g1
      refine ⟨_, List.getElem?_set_self hcw, by rw [List.length_set]; exact g2, ?_⟩
      intro f' k' hk'
      by_cases e2 : f' = f
      · subst e2
        rw [hf] at hk'
        cases hk'
        rw [zup_eq]
        exact List.getElem?_set_self (by rw [g2]; exact zlt_of hf)
      · rw [zup_ni st z e2, List.getElem?_set_ne (fun q => e2 q.symm)]
        exact g3 f' k' hk'
    · obtain ⟨fs', g1, g2, g3⟩ := h2 c' a' ks' hc'
      refine ⟨fs', by rw [List.getElem?_set_ne (fun q => e q.symm)]; exact g1, g2, ?_⟩
      intro f' k' hk'
      rw [zup_nc st z e]
      exact g3 f' k' hk'
  · intro c' t' n' hc'
    by_cases e : c' = c
    · subst e
      rw [hc] at hc'
      cases hc'
    · obtain ⟨u, g1, g2, g3⟩ := h3 c' t' n' hc'
      refine ⟨u, by rw [List.getElem?_set_ne (fun q => e q.symm)]; exact g1, g2, ?_⟩
      intro j hj
      rw [zup_nc st z e]
      exact g3 j hj
theorem zR_puta {Sh : List zC} {st : zS} {w : List rx_C} {c t n j : Nat} {u : List (Nat × rx_V)} {z : Int} (h : zR Sh st w) (hc : Sh[c]? = some (.inr (t, n))) (hw : w[c]? = some (.inr (t, n, u))) : zR Sh (zup st c j z) (w.set c (.inr (t, n, (j, zv (zK t z)) :: u.filter (fun q => !Nat.beq q.1 j)))) := by
  obtain ⟨h1, h2, h3⟩ := h
  have hcw : c < w.length := zlt_of hw
  refine ⟨by rw [List.length_set]; exact h1, ?_, ?_⟩
  · intro c' a' ks' hc'
    by_cases e : c' = c
    · subst e
      rw [hc] at hc'
      cases hc'
    · obtain ⟨fs', g1, g2, g3⟩ := h2 c' a' ks' hc'
      refine ⟨fs', by rw [List.getElem?_set_ne (fun q => e q.symm)]; exact g1, g2, ?_⟩
      intro f' k' hk'
      rw [zup_nc st z e]
      exact g3 f' k' hk'
  · intro c' t' n' hc'
    by_cases e : c' = c
    · subst e
      rw [hc] at hc'
      cases hc'
      obtain ⟨u', g1, g2, g3⟩ := h3 c' t n hc
      rw [hw] at g1
      cases g1
      refine ⟨_, List.getElem?_set_self hcw, g2, ?_⟩
      intro i hi
      rw [zlk_cons]
      by_cases e2 : j = i
      · subst e2
        rw [if_pos rfl, zup_eq]
      · rw [if_neg e2, zlk_filter j i _ _ e2, zup_ni st z (fun q => e2 q.symm)]
        exact g3 i hi
    · obtain ⟨u', g1, g2, g3⟩ := h3 c' t' n' hc'
      refine ⟨u', by rw [List.getElem?_set_ne (fun q => e q.symm)]; exact g1, g2, ?_⟩
      intro i hi
      rw [zup_nc st z e]
      exact g3 i hi
theorem zlk_cpl (u0 : List (Nat × rx_V)) (sp dp : Nat) (tl : List (Nat × rx_V)) (i : Nat) (d : rx_V) : ∀ n, rx_lk (rx_cpl u0 sp dp tl n) i d = if dp ≤ i ∧ i < dp + n then rx_lk u0 (sp + (i - dp)) (.inl (.inl 0)) else rx_lk tl i d := by
  intro n
  induction n with
  | zero =>
    rw [if_neg (by omega)]
    rfl
  | succ n ih =>
    show rx_lk ((dp + n, rx_lk u0 (sp + n) (.inl (.inl 0))) :: rx_cpl u0 sp dp tl n) i d = _
    rw [zlk_cons, ih]
    by_cases e : dp + n = i
    · rw [if_pos e, if_pos (by omega), show sp + (i - dp) = sp + n by omega]
    · rw [if_neg e]
      by_cases e2 : dp ≤ i ∧ i < dp + n
      · rw [if_pos e2, if_pos (by omega)]
      · rw [if_neg e2, if_neg (by omega)]
theorem zR_copy {Sh : List zC} {st : zS} {w : List rx_C} {c0 c1 n0 n1 s0 d1 n : Nat} {u0 u1 : List (Nat × rx_V)} (h : zR Sh st w) (hc0 : Sh[c0]? = some (.inr (0, n0))) (hc1 : Sh[c1]? = some (.inr (0, n1))) (hs : s0 + n ≤ n0) (hd : d1 + n ≤ n1) (hw0 : w[c0]? = some (.inr (0, n0, u0))) (hw1 : w[c1]? = some (.inr (0, n1, u1))) : zR Sh (zcp st c0 s0 c1 d1 n) (w.set c1 (.inr (0, n1, rx_cpl u0 s0 d1 u1 n))) := by
  obtain ⟨h1, h2, h3⟩ := h
  have hcw : c1 < w.length := zlt_of hw1
  refine ⟨by rw [List.length_set]; exact h1, ?_, ?_⟩
  · intro c' a' ks' hc'
    by_cases e : c' = c1
    · subst e
      rw [hc1] at hc'
      cases hc'
    · obtain ⟨fs', g1, g2, g3⟩ := h2 c' a' ks' hc'
      refine ⟨fs', by rw [List.getElem?_set_ne (fun q => e q.symm)]; exact g1, g2, ?_⟩
      intro f' k' hk'
      rw [zcp_if, if_neg (fun q => e q.1)]
      exact g3 f' k' hk'
  · intro c' t' n' hc'
    by_cases e : c' = c1
    · subst e
      rw [hc1] at hc'
      cases hc'
      obtain ⟨u', g1, g2, g3⟩ := h3 c' 0 n1 hc1
      rw [hw1] at g1
      cases g1
      obtain ⟨u'', k1, k2, k3⟩ := h3 c0 0 n0 hc0
      rw [hw0] at k1
      cases k1
      refine ⟨_, List.getElem?_set_self hcw, g2, ?_⟩
      intro i hi
      rw [zlk_cpl, zcp_if]
      by_cases e2 : d1 ≤ i ∧ i < d1 + n
      · rw [if_pos e2, if_pos ⟨rfl, e2⟩]
        exact k3 _ (by omega)
      · rw [if_neg e2, if_neg (fun q => e2 q.2)]
        exact g3 i hi
    · obtain ⟨u', g1, g2, g3⟩ := h3 c' t' n' hc'
      refine ⟨u', by rw [List.getElem?_set_ne (fun q => e q.symm)]; exact g1, g2, ?_⟩
      intro i hi
      rw [zcp_if, if_neg (fun q => e q.1)]
      exact g3 i hi
/-- the store within its kinds -/
def zsk (Sh : List zC) (st : zS) : Prop := (∀ (c a : Nat) (ks : List Nat), Sh[c]? = some (.inl (a, ks)) → ∀ (f k : Nat), ks[f]? = some k → zin k (st c f)) ∧ (∀ (c t n : Nat), Sh[c]? = some (.inr (t, n)) → ∀ j, j < n → zin t (st c j))
theorem zsk_putf {Sh : List zC} {st : zS} {c a f k : Nat} {ks : List Nat} {z : Int} (h : zsk Sh st) (hc : Sh[c]? = some (.inl (a, ks))) (hf : ks[f]? = some k) (hz : zin k z) : zsk Sh (zup st c f z) := by
  refine ⟨fun c' a' ks' hc' f' k' hk' => ?_, fun c' t n hc' j hj => ?_⟩
  · rw [zup_if]
    split
    · rename_i e
      obtain ⟨rfl, rfl⟩ := e
      rw [hc] at hc'
      cases hc'
      rw [hf] at hk'
      cases hk'
      exact hz
    · exact h.1 c' a' ks' hc' f' k' hk'
  · rw [zup_if]
    split
    · rename_i e
      obtain ⟨rfl, rfl⟩ := e
      rw [hc] at hc'
      cases hc'
    · exact h.2 c' t n hc' j hj
theorem zsk_puta {Sh : List zC} {st : zS} {c t n i : Nat} {z : Int} (h : zsk Sh st) (hc : Sh[c]? = some (.inr (t, n))) (hz : zin t z) : zsk Sh (zup st c i z) := by
  refine ⟨fun c' a' ks' hc' f' k' hk' => ?_, fun c' t' n' hc' j hj => ?_⟩
  · rw [zup_if]
    split
    · rename_i e
      obtain ⟨rfl, rfl⟩ := e
      rw [hc] at hc'
      cases hc'
    · exact h.1 c' a' ks' hc' f' k' hk'
  · rw [zup_if]
    split
    · rename_i e
      obtain ⟨rfl, rfl⟩ := e
      rw [hc] at hc'
      cases hc'
      exact hz
    · exact h.2 c' t' n' hc' j hj
theorem zsk_copy {Sh : List zC} {st : zS} {c0 c1 n0 n1 s0 d1 n : Nat} (h : zsk Sh st) (hc0 : Sh[c0]? = some (.inr (0, n0))) (hc1 : Sh[c1]? = some (.inr (0, n1))) (hs : s0 + n ≤ n0) : zsk Sh (zcp st c0 s0 c1 d1 n) := by
  refine ⟨fun c' a' ks' hc' f' k' hk' => ?_, fun c' t' n' hc' j hj => ?_⟩
  · rw [zcp_if]
    split
    · rename_i e
      obtain ⟨rfl, -⟩ := e
      rw [hc1] at hc'
      cases hc'
    · exact h.1 c' a' ks' hc' f' k' hk'
  · rw [zcp_if]
    split
    · rename_i e
      obtain ⟨rfl, e1, e2⟩ := e
      rw [hc1] at hc'
      cases hc'
      exact h.2 c0 0 n0 hc0 _ (by omega)
    · exact h.2 c' t' n' hc' j hj
theorem zK_ok {k : Nat} {z : Int} (h : zin k z) : zok (zK k z) := by
  unfold zin at h
  unfold zK
  cases h1 : Nat.ble 10 k with
  | true => trivial
  | false =>
    rw [h1] at h
    cases h2 : Nat.beq k 4 with
    | true =>
      have h3 : Nat.beq k 3 = false := by rw [rx_bq h2]; rfl
      simp only [h3, cond_false, cond_true]
      trivial
    | false =>
      cases h3 : Nat.beq k 3 with
      | true =>
        rw [h2, h3] at h
        exact h
      | false =>
        rw [h2, h3] at h
        simp only [cond_false] at h ⊢
        show zsI z
        unfold zsI
        cases h4 : Nat.beq k 2 with
        | true => rw [h4] at h; simp only [cond_true] at h; omega
        | false =>
          rw [h4] at h
          simp only [cond_false] at h
          cases h5 : Nat.beq k 1 with
          | true => rw [h5] at h; simp only [cond_true] at h; omega
          | false => rw [h5] at h; exact h
