/-! the class's reader by tokens -/
def ctx (st : zS) : Int → Int := fun j : Int => st 2 j.toNat % 256
def RDc (st : zS) : Prop := (0 ≤ st 149 5 ∧ st 149 5 ≤ st 1 1) ∧ ∃ k v e : Int, TK (ctx st) (st 1 1) (st 149 5) k v (st 149 5) e ∧ CW (st 149 3) (st 149 4) (st 149 5) (st 149 2) k v (st 149 5) e (st 150)
def owv (i : Nat) : Int := ([482854658917, 126943972648308, 29807, 482670241139, 1937007984, 6713202, 499967946343, 24948, 1886743660, 126943688025203, 109317209875826, 1751474548, 6844276, 2036687218, 1953459300, 1650812270, 495874044019, 1953066341, 465726042227, 26982, 28530, 6385252, 7237492, 6384748, 7170414, 7168376] : List Int).getD i 0
def owx (i : Nat) : Int := ([549489824, 659100852, 686817280, 538023520, 658685952, 217645056, 679786720, 54525952, 559296512, 658552979, 113432754, 273731584, 284819456, 844154880, 687214592, 72529920, 658686560, 680956928, 418890336, 308281344, 522190848, 48365568, 486146048, 46530560, 446103552, 438042624] : List Int).getD i 0
def cOW (st : zS) : Prop := ∀ i : Nat, i < 26 → st 150 i = owx i
theorem owN (i : Nat) (h : i < 26) : isN6 (owv i) (owx i) := by
  rcases (show i = 0 ∨ i = 1 ∨ i = 2 ∨ i = 3 ∨ i = 4 ∨ i = 5 ∨ i = 6 ∨ i = 7 ∨ i = 8 ∨ i = 9 ∨ i = 10 ∨ i = 11 ∨ i = 12 ∨ i = 13 ∨ i = 14 ∨ i = 15 ∨ i = 16 ∨ i = 17 ∨ i = 18 ∨ i = 19 ∨ i = 20 ∨ i = 21 ∨ i = 22 ∨ i = 23 ∨ i = 24 ∨ i = 25 by omega) with rfl | rfl | rfl | rfl | rfl | rfl | rfl | rfl | rfl | rfl | rfl | rfl | rfl | rfl | rfl | rfl | rfl | rfl | rfl | rfl | rfl | rfl | rfl | rfl | rfl | rfl
  · exact ow_0
  · exact ow_1
  · exact ow_2
  · exact ow_3
  · exact ow_4
  · exact ow_5
  · exact ow_6
  · exact ow_7
  · exact ow_8
  · exact ow_9
  · exact ow_10
  · exact ow_11
  · exact ow_12
  · exact ow_13
  · exact ow_14
  · exact ow_15
  · exact ow_16
  · exact ow_17
  · exact ow_18
  · exact ow_19
  · exact ow_20
  · exact ow_21
  · exact ow_22
  · exact ow_23
  · exact ow_24
  · exact ow_25
theorem owv_inj : ∀ i : Nat, i < 26 → ∀ j : Nat, j < 26 → owv i = owv j → i = j := by decide +kernel
/-- the class's kind and value are the token's -/
def TV (st : zS) (k v : Int) : Prop := (k = 0 ∧ st 149 3 = 0) ∨ (k = 1 ∧ st 149 3 = 1 ∧ isN6 v (st 149 4) ∧ ∀ i : Nat, i < 26 → ¬ v = owv i) ∨ (k = 1 ∧ st 149 3 = 2 ∧ 0 ≤ st 149 4 ∧ st 149 4 < 26 ∧ v = owv (st 149 4).toNat) ∨ (k = 2 ∧ st 149 3 = 3 ∧ st 149 4 = v) ∨ (k = 3 ∧ st 149 3 = 4 ∧ st 149 4 = v) ∨ (k = 5 ∧ st 149 3 = 5)
theorem TK_end {t : Int → Int} {n p k v e : Int} (h0 : 0 ≤ p) (h : TK t n p k v p e) : e ≤ n ∨ (k = 0 ∧ e = p ∧ n ≤ p) := by
  obtain ⟨h1, h2⟩ := h
  rcases h2 with ⟨a1, a2, a3, a4⟩ | ⟨a1, a2, m, hm, a3⟩ | ⟨a1, a2, m, hm, a3⟩ | ⟨a1, a2, a3, a4, a5, a6⟩
  · exact Or.inr ⟨a2, a4, a1⟩
  · have m1 := wrn_in (P := wle) (by unfold wle; omega) (by omega) hm
    exact Or.inl (by omega)
  · have m1 := wrn_in (P := wdi) (by unfold wdi; omega) (by omega) hm
    exact Or.inl (by omega)
  · exact Or.inl (by omega)
theorem TK_nx {t : Int → Int} {n p k v e : Int} (h0 : 0 ≤ p) (h : TK t n p k v p e) : ∃ q : Int, tk t n p k v q := by
  rcases TK_end h0 h with z | ⟨z1, z2, z3⟩
  · obtain ⟨q, hq, -⟩ := wrn_ex (P := fun j => wbl (tcc t n j)) (s := e) (n := n) z (by rw [tcc_out (by omega)]; unfold wbl; omega)
    exact ⟨q, e, h, hq⟩
  · exact ⟨e, e, h, Int.le_refl _, fun j a b => by omega, by show ¬ wbl (tcc t n e); rw [tcc_out (by omega)]; unfold wbl; omega⟩
theorem RDc_tv {st : zS} (ho : cOW st) {k v e : Int} (h : CW (st 149 3) (st 149 4) (st 149 5) (st 149 2) k v (st 149 5) e (st 150)) : TV st k v := by
  obtain ⟨-, h⟩ := h
  unfold TV
  rcases h with ⟨a1, a2, a3⟩ | ⟨a1, a2, x, hx, a3⟩ | ⟨a1, a2, a3, a4⟩ | ⟨a1, a2, a3, a4⟩ | ⟨a1, a2⟩
  · exact Or.inl ⟨a1, a2⟩
  · rcases a3 with ⟨b1, b2, b3⟩ | ⟨b1, b2, b3, b4⟩
    · refine Or.inr (Or.inl ⟨a1, b1, by rw [b2]; exact hx, fun i hi q => ?_⟩)
      have z := (isN6_u hx (owN i hi)).mp q
      refine b3 (i : Int) (by omega) (by omega) ?_
      rw [z, Int.toNat_natCast]
      exact ho i hi
    · refine Or.inr (Or.inr (Or.inl ⟨a1, b1, b2, b3, ?_⟩))
      have z := ho (st 149 4).toNat (by omega)
      rw [b4] at z
      exact (isN6_u hx (owN (st 149 4).toNat (by omega))).mpr z
  · exact Or.inr (Or.inr (Or.inr (Or.inl ⟨a1, a2, a3⟩)))
  · exact Or.inr (Or.inr (Or.inr (Or.inr (Or.inl ⟨a1, a2, a3⟩))))
  · exact Or.inr (Or.inr (Or.inr (Or.inr (Or.inr ⟨a1, a2⟩))))
theorem rd_tk {st : zS} (h : RDc st) (ho : cOW st) : ∃ k v e : Int, tk (ctx st) (st 1 1) (st 149 5) k v e ∧ TV st k v := by
  obtain ⟨h0, k, v, e, h1, h2⟩ := h
  obtain ⟨q, hq⟩ := TK_nx h0.1 h1
  exact ⟨k, v, q, hq, RDc_tv ho h2⟩
def NX (st s : zS) : Prop := ∀ k v e : Int, TK (ctx st) (st 1 1) (st 149 5) k v (st 149 5) e → wrn (fun j => wbl (tcc (ctx st) (st 1 1) j)) e (s 149 5)
theorem nx_tk {st s : zS} (h : RDc st) (ho : cOW st) (hn : NX st s) : ∃ k v : Int, tk (ctx st) (st 1 1) (st 149 5) k v (s 149 5) ∧ TV st k v := by
  obtain ⟨h0, k, v, e, h1, h2⟩ := h
  exact ⟨k, v, ⟨e, h1, hn k v e h1⟩, RDc_tv ho h2⟩
theorem nx_num {st s : zS} (h : RDc st) (ho : cOW st) (hn : NX st s) (hk : st 149 3 = 3) : tk (ctx st) (st 1 1) (st 149 5) 2 (st 149 4) (s 149 5) := by
  obtain ⟨k, v, ht, hv⟩ := nx_tk h ho hn
  rcases hv with ⟨a, b⟩ | ⟨a, b, c, d⟩ | ⟨a, b, c, d, e⟩ | ⟨a, b, c⟩ | ⟨a, b, c⟩ | ⟨a, b⟩
  · omega
  · omega
  · omega
  · rw [a, ← c] at ht; exact ht
  · omega
  · omega
theorem nx_sig {st s : zS} (h : RDc st) (ho : cOW st) (hn : NX st s) (hk : st 149 3 = 4) : tk (ctx st) (st 1 1) (st 149 5) 3 (st 149 4) (s 149 5) := by
  obtain ⟨k, v, ht, hv⟩ := nx_tk h ho hn
  rcases hv with ⟨a, b⟩ | ⟨a, b, c, d⟩ | ⟨a, b, c, d, e⟩ | ⟨a, b, c⟩ | ⟨a, b, c⟩ | ⟨a, b⟩
  · omega
  · omega
  · omega
  · omega
  · rw [a, ← c] at ht; exact ht
  · omega
theorem nx_own {st s : zS} (h : RDc st) (ho : cOW st) (hn : NX st s) (hk : st 149 3 = 2) : (0 ≤ st 149 4 ∧ st 149 4 < 26) ∧ tk (ctx st) (st 1 1) (st 149 5) 1 (owv (st 149 4).toNat) (s 149 5) := by
  obtain ⟨k, v, ht, hv⟩ := nx_tk h ho hn
  rcases hv with ⟨a, b⟩ | ⟨a, b, c, d⟩ | ⟨a, b, c, d, e⟩ | ⟨a, b, c⟩ | ⟨a, b, c⟩ | ⟨a, b⟩
  · omega
  · omega
  · rw [a, e] at ht; exact ⟨⟨c, d⟩, ht⟩
  · omega
  · omega
  · omega
theorem nx_ow {st s : zS} (i : Nat) {v : Int} (h : RDc st) (ho : cOW st) (hn : NX st s) (hk : st 149 3 = 2) (hi : st 149 4 = (i : Int)) (hv : owv i = v) : tk (ctx st) (st 1 1) (st 149 5) 1 v (s 149 5) := by
  have z := (nx_own h ho hn hk).2
  rw [hi, Int.toNat_natCast, hv] at z
  exact z
theorem nx_nam {st s : zS} (h : RDc st) (ho : cOW st) (hn : NX st s) (hk : st 149 3 = 1) : ∃ v : Int, tk (ctx st) (st 1 1) (st 149 5) 1 v (s 149 5) ∧ isN6 v (st 149 4) ∧ ∀ i : Nat, i < 26 → ¬ v = owv i := by
  obtain ⟨k, v, ht, hv⟩ := nx_tk h ho hn
  rcases hv with ⟨a, b⟩ | ⟨a, b, c, d⟩ | ⟨a, b, c, d, e⟩ | ⟨a, b, c⟩ | ⟨a, b, c⟩ | ⟨a, b⟩
  · omega
  · rw [a] at ht; exact ⟨v, ht, c, d⟩
  · omega
  · omega
  · omega
  · omega
theorem tv_w {st : zS} {k v : Int} (h : TV st k v) (i : Nat) (hi : i < 26) : (k = 1 ∧ v = owv i) ↔ (st 149 3 = 2 ∧ st 149 4 = (i : Int)) := by
  rcases h with ⟨a, b⟩ | ⟨a, b, c, d⟩ | ⟨a, b, c, d, e⟩ | ⟨a, b, c⟩ | ⟨a, b, c⟩ | ⟨a, b⟩
  · constructor <;> intro z <;> omega
  · constructor
    · intro z; exact absurd z.2 (d i hi)
    · intro z; omega
  · constructor
    · intro z
      have q := owv_inj _ (by omega) _ hi (e.symm.trans z.2)
      exact ⟨b, by omega⟩
    · intro z
      refine ⟨a, ?_⟩
      rw [e, z.2, Int.toNat_natCast]
  · constructor <;> intro z <;> omega
  · constructor <;> intro z <;> omega
  · constructor <;> intro z <;> omega
theorem tv_s {st : zS} {k v : Int} (h : TV st k v) (x : Int) : (k = 3 ∧ v = x) ↔ (st 149 3 = 4 ∧ st 149 4 = x) := by
  rcases h with ⟨a, b⟩ | ⟨a, b, c, d⟩ | ⟨a, b, c, d, e⟩ | ⟨a, b, c⟩ | ⟨a, b, c⟩ | ⟨a, b⟩ <;> constructor <;> intro z <;> omega
theorem tv_n {st : zS} {k v : Int} (h : TV st k v) : (k = 2 ↔ st 149 3 = 3) ∧ (k = 2 → v = st 149 4) ∧ (k = 0 ↔ st 149 3 = 0) ∧ (k = 5 ↔ st 149 3 = 5) ∧ (k = 3 ↔ st 149 3 = 4) ∧ (k = 3 → v = st 149 4) ∧ (k = 1 ↔ st 149 3 = 1 ∨ st 149 3 = 2) := by
  rcases h with ⟨a, b⟩ | ⟨a, b, c, d⟩ | ⟨a, b, c, d, e⟩ | ⟨a, b, c⟩ | ⟨a, b, c⟩ | ⟨a, b⟩ <;> refine ⟨?_, ?_, ?_, ?_, ?_, ?_, ?_⟩ <;> omega
/-- the same text -/
def sT (st s : zS) : Prop := ctx s = ctx st ∧ s 1 1 = st 1 1 ∧ s 148 2 = st 148 2
theorem sT_of {st s : zS} (h2 : ∀ i : Nat, s 2 i = st 2 i) (h1 : s 1 1 = st 1 1) (h3 : s 148 2 = st 148 2) : sT st s := ⟨by unfold ctx; funext j; rw [h2], h1, h3⟩
def GrS (st : zS) (tag : Nat) (o p q : Int) (c : List Int) : Prop := Gr (ctx st) (st 1 1) (st 148 2 = 1) tag o p q c
def FlS (st : zS) (tag : Nat) (o p : Int) : Prop := Fl (ctx st) (st 1 1) (st 148 2 = 1) tag o p
theorem GrS_e {st s : zS} (h : sT st s) {tag : Nat} {o p q : Int} {c : List Int} (k : GrS s tag o p q c) : GrS st tag o p q c := by
  unfold GrS at k
  rw [h.1, h.2.1, h.2.2] at k
  exact k
theorem FlS_e {st s : zS} (h : sT st s) {tag : Nat} {o p : Int} (k : FlS s tag o p) : FlS st tag o p := by
  unfold FlS at k
  rw [h.1, h.2.1, h.2.2] at k
  exact k
theorem tkS_e {st s : zS} (h : sT st s) {p k v q : Int} (z : tk (ctx s) (s 1 1) p k v q) : tk (ctx st) (st 1 1) p k v q := by
  rw [h.1, h.2.1] at z
  exact z
theorem NX_e {st s1 s : zS} (h : sT st s1) (h5 : s1 149 5 = st 149 5) (k : NX s1 s) : NX st s := by
  unfold NX at k
  rw [h.1, h.2.1, h5] at k
  exact k
theorem RDc_of {st s : zS} (h2 : ∀ i : Nat, s 2 i = st 2 i) (h1 : s 1 1 = st 1 1) (a2 : s 149 2 = st 149 2) (a3 : s 149 3 = st 149 3) (a4 : s 149 4 = st 149 4) (a5 : s 149 5 = st 149 5) (h : ∀ i : Nat, s 150 i = st 150 i) (k : RDc st) : RDc s := by
  have e : ctx s = ctx st := by unfold ctx; funext j; rw [h2]
  have e2 : s 150 = st 150 := funext h
  unfold RDc
  rw [e, e2, h1, a2, a3, a4, a5]
  exact k
/-- codes put behind those that are there -/
def cenc (y : Int) : Int := if y % 64 = 0 then 13107200 + y / 64 else if y = 30 then 13107201 else if y = 1 then 13172747 else if y = 2 then 13172749 else if y = 3 then 13172750 else if y = 4 then 13172744 else if y = 5 then 13172740 else if y = 6 then 13172751 else if y = 7 then 13172752 else if y = 8 then 13172753 else if y = 9 then 13172754 else if y = 31 then 2818048 else if y = 32 then 2949120 else if y = 33 then 2752512 else if y = 34 then 3080192 else if y = 35 then 2424832 else if y = 36 then 1572864 else if y = 37 then 1638400 else if y = 38 then 3932160 else if y = 39 then 4063232 else if y = 40 then 3997696 else if y = 41 then 1376256 else if y = 42 then 1310720 else if y = 43 then 1441792 else 1245184
def CDA (n0 n1 : Int) (f0 f1 : Nat → Int) (c : List Int) : Prop := 0 ≤ n0 ∧ n1 = n0 + (c.length : Int) ∧ (∀ i : Nat, i < c.length → f1 (n0.toNat + i) = cenc (c.getD i 0)) ∧ ∀ j : Nat, (j : Int) < n0 → f1 j = f0 j
theorem CDA_nil {n0 : Int} (f : Nat → Int) (h : 0 ≤ n0) : CDA n0 n0 f f [] := ⟨h, by rw [List.length_nil]; omega, fun i hi => absurd hi (by rw [List.length_nil]; omega), fun _ _ => rfl⟩
theorem getD_a1 (c2 : List Int) : ∀ (c1 : List Int) (i : Nat), i < c1.length → (c1 ++ c2).getD i 0 = c1.getD i 0 := by
  intro c1
  induction c1 with
  | nil => intro i h; exact absurd h (by rw [List.length_nil]; omega)
  | cons x l ih =>
    intro i h
    cases i with
    | zero => rfl
    | succ i => exact ih i (by rw [List.length_cons] at h; omega)
theorem getD_a2 (c2 : List Int) : ∀ (c1 : List Int) (i : Nat), c1.length ≤ i → (c1 ++ c2).getD i 0 = c2.getD (i - c1.length) 0 := by
  intro c1
  induction c1 with
  | nil => intro i h; rfl
  | cons x l ih =>
    intro i h
    rw [List.length_cons] at h
    cases i with
    | zero => omega
    | succ i =>
      rw [List.length_cons, Nat.add_sub_add_right]
      exact ih i (by omega)
theorem CDA_tr {n0 n1 n2 : Int} {f0 f1 f2 : Nat → Int} {c1 c2 : List Int} (h : CDA n0 n1 f0 f1 c1) (k : CDA n1 n2 f1 f2 c2) : CDA n0 n2 f0 f2 (c1 ++ c2) := by
  obtain ⟨h1, h2, h3, h4⟩ := h
  obtain ⟨k1, k2, k3, k4⟩ := k
  refine ⟨h1, by rw [List.length_append]; omega, fun i hi => ?_, fun j hj => (k4 j (by omega)).trans (h4 j hj)⟩
  rw [List.length_append] at hi
  by_cases q : i < c1.length
  · rw [k4 _ (by omega), h3 i q, getD_a1 _ _ _ q]
  · rw [getD_a2 _ _ _ (by omega), ← k3 (i - c1.length) (by omega)]
    congr 1
    omega
theorem CDA_one {n0 n1 : Int} {f0 f1 : Nat → Int} {x y : Int} (h0 : 0 ≤ n0) (h1 : n1 = n0 + 1) (h2 : f1 = up1 f0 n0.toNat x) (hx : x = cenc y) : CDA n0 n1 f0 f1 [y] := by
  refine ⟨h0, by rw [List.length_singleton]; omega, fun i hi => ?_, fun j hj => ?_⟩
  · rw [List.length_singleton] at hi
    have e : i = 0 := by omega
    subst e
    rw [h2, Nat.add_zero, up1_e, hx]
    rfl
  · rw [h2]
    exact up1_n f0 x (by omega)
/-- the class goes to the next word -/
def m_cNext : aM := m_cAdvance
def rq_cNext (st : zS) : Prop := gInv zgt st ∧ RDc st ∧ (1 ≤ st 149 3 ∧ st 149 3 ≤ 4)
def en_cNext (st s1 : zS) : Prop := gInv zgt s1 ∧ aFr m_cNext st s1 ∧ RDc s1 ∧ NX st s1
theorem TK_can {t : Int → Int} {n p k v s e : Int} (h : TK t n p k v s e) : TK t n s k v s e := ⟨⟨Int.le_refl _, fun j a b => by omega, h.1.2.2⟩, h.2⟩
theorem nb_of {t : Int → Int} {n k v s e kd vl att : Int} {own : Nat → Int} (h0 : 0 ≤ s) (h : TK t n s k v s e) (hc : CW kd vl s att k v s e own) (hk : 1 ≤ kd ∧ kd ≤ 4) : att = e ∧ ((1 ≤ kd ∧ kd ≤ 3) ↔ nbp t att) := by
  obtain ⟨-, hc⟩ := hc
  have ha : att = e := by
    rcases hc with ⟨a1, a2, a3⟩ | ⟨a1, a2, x, hx, a3⟩ | ⟨a1, a2, a3, a4⟩ | ⟨a1, a2, a3, a4⟩ | ⟨a1, a2⟩ <;> omega
  refine ⟨ha, ?_⟩
  rw [ha]
  have hkd : (k = 1 ∧ (kd = 1 ∨ kd = 2)) ∨ (k = 2 ∧ kd = 3) ∨ (k = 3 ∧ kd = 4) := by
    rcases hc with ⟨a1, a2, a3⟩ | ⟨a1, a2, x, hx, a3⟩ | ⟨a1, a2, a3, a4⟩ | ⟨a1, a2, a3, a4⟩ | ⟨a1, a2⟩
    · omega
    · rcases a3 with a3 | a3 <;> omega
    · omega
    · omega
    · omega
  obtain ⟨-, h2⟩ := h
  rcases h2 with ⟨a1, a2, a3, a4⟩ | ⟨a1, a2, m, hm, a3⟩ | ⟨a1, a2, m, hm, a3⟩ | ⟨a1, a2, a3, a4, a5, a6⟩
  · omega
  · rcases a3 with ⟨b1, b2, b3, b4⟩ | ⟨b1, b2, b3, b4, b5⟩
    · omega
    · have z := CP_end h0 a1 a2 hm
      refine ⟨fun _ => ?_, fun _ => by omega⟩
      rw [b5]
      have q := CP_lts hm (m - 1) (by omega) (by omega)
      exact ⟨by omega, Or.inl q⟩
  · rcases a3 with ⟨b1, b2, b3, b4⟩ | ⟨b1, b2, b3, b4, b5⟩
    · omega
    · have z : s < m := by
        have h1 := hm.1
        have h3 : ¬ wdi (tcc t n m) := hm.2.2
        by_cases q : m = s
        · rw [q, tcc_in ⟨h0, a1⟩] at h3
          exact absurd a2 h3
        · omega
      refine ⟨fun _ => ?_, fun _ => by omega⟩
      rw [b5]
      have q : wdi (tcc t n (m - 1)) := hm.2.1 (m - 1) (by omega) (by omega)
      rw [(tcc_di q).2] at q
      exact ⟨by omega, Or.inr q⟩
  · refine ⟨fun z => by omega, fun z => ?_⟩
    rw [a6] at z
    have z2 := z.2
    rw [show s + 1 - 1 = s by omega] at z2
    rcases z2 with z2 | z2
    · exact absurd z2 a2
    · exact absurd z2 a3
def ct_cNext (st : zS) (Q : zQ) : Prop := rq_cNext st ∧ (∀ (s1 : zS), en_cNext st s1 → Q none s1)
theorem ct_cNext_m {st : zS} {Q Q' : zQ} (hQ : ∀ r st', Q r st' → Q' r st') (h : ct_cNext st Q) : ct_cNext st Q' := ⟨h.1, fun x0 x1 => hQ _ _ (h.2 x0 x1)⟩
def k_cNext : zCall := fun _ as st Q => match as with
  | [.inr (.inr (.inl z_o))] => z_o = 149 ∧ ct_cNext st Q
  | _ => False
section R99g
variable {cl : Nat → zCall}
theorem c_cNext (hTb : aTb zSh rx_tb cl) {D : Nat} (hD : 3 ≤ D) {st : zS} {Q : zQ} (h : ct_cNext st Q) : cl D 143 [.inr (.inr (.inl 149))] st Q := by
  obtain ⟨⟨hG, ⟨h0, k, v, e, h1, h2⟩, hk⟩, hQ⟩ := h
  have nb := nb_of h0.1 h1 h2 hk
  refine c_cAdvance hTb hD ⟨⟨hG, nb.2⟩, fun s1 q => hQ s1 ?_⟩
  obtain ⟨q1, q2, k', v', s', e', q3, q4⟩ := q
  have e2 : ctx s1 = ctx st := by unfold ctx; funext j; rw [q2 2 _ rfl rfl]
  have e3 : s1 1 1 = st 1 1 := q2 1 1 rfl rfl
  have e4 : s1 150 = st 150 := funext (fun i => q2 150 i rfl rfl)
  have e5 : s1 149 5 = s' := q4.1
  have hw : wrn (fun j => wbl (tcc (ctx st) (st 1 1) j)) (st 149 2) (s1 149 5) := by rw [e5]; exact q3.1
  have ha : 0 ≤ st 149 2 := (g_wAt hG).1
  have hn : st 149 2 ≤ st 1 1 := by
    rcases TK_end h0.1 h1 with z | z
    · omega
    · have z2 := h2.2
      rcases z2 with ⟨a1, a2, a3⟩ | ⟨a1, a2, x, hx, a3⟩ | ⟨a1, a2, a3, a4⟩ | ⟨a1, a2, a3, a4⟩ | ⟨a1, a2⟩ <;> omega
  have hw2 := wrn_in (P := wbl) (by unfold wbl; omega) hn hw
  refine ⟨q1, q2, ⟨⟨by have := hw.1; omega, by omega⟩, k', v', e', ?_, ?_⟩, ?_⟩
  · rw [e2, e3, e5]
    exact TK_can q3
  · rw [e4, e5]
    rw [e5] at q4
    exact q4
  · intro k2 v2 e2' h3
    have z := TK_u h1 h3
    rw [← z.2.2.2, ← nb.1]
    exact hw
theorem k_cNext_m (hTb : aTb zSh rx_tb cl) {D : Nat} (hD : 3 ≤ D) : ∀ as st (Q Q' : zQ), (∀ r st', Q r st' → Q' r st') → k_cNext 143 as st Q → cl D 143 as st Q' := by
  intro as st Q Q' hQ h
  unfold k_cNext at h
  split at h
  · obtain ⟨rfl, h⟩ := h
    exact c_cNext hTb hD (ct_cNext_m hQ h)
  · exact h.elim
end R99g
