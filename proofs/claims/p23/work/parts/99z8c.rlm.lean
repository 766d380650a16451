/-! what a body of a statement answers; masks of places; statements' ghosts -/
def BO (f : Int) (RD : Prop) (B : zS → Int → Prop) (q0 : Int) (R : zS → Prop) : Prop := (0 < f ∧ ¬ ∃ (T' : zS) (q : Int), B T' q) ∨ (f = 0 ∧ RD ∧ (∃ T' : zS, B T' q0) ∧ ∀ (T' : zS) (q : Int), B T' q → q = q0 ∧ R T')
def MKs (f : Nat → Int) (b a c bt : Int) : Prop := ∀ j : Int, 0 ≤ j → j < 8 → ((j = a ∨ (j < c ∧ 0 < f (64 * b + 8 * a + j).toNat)) → hb bt j = 1) ∧ (¬ (j = a ∨ (j < c ∧ 0 < f (64 * b + 8 * a + j).toNat)) → hb bt j = 0)
def MKp (f : Nat → Int) (b a c m bt : Int) : Prop := ∀ j : Int, 0 ≤ j → j < 8 → ((j < c ∧ 0 < m ∧ f (64 * b + 8 * a + j).toNat = 0) → hb bt j = 1) ∧ (¬ (j < c ∧ 0 < m ∧ f (64 * b + 8 * a + j).toNat = 0) → hb bt j = 0)
section MK
variable {f : Nat → Int} {b a c bt m : Int}
theorem MKs_0 (ha : 0 ≤ a ∧ a < 8) : MKs f b a 0 (zd ((zi 1 * 2 ^ (zi a % 32)) % 4294967296)) := by
  intro j h1 h2
  have z := shl_bx (c := a) (j := j) ha ⟨h1, h2⟩
  exact ⟨fun h => z.1 (by omega), fun h => z.2 (fun e => h (Or.inl e))⟩
theorem MKs_1 (h : MKs f b a c bt) (hb1 : 0 ≤ bt ∧ bt < 256) (hc : 0 ≤ c ∧ c < 8) (hf : 0 < f (64 * b + 8 * a + c).toNat) : MKs f b a (c + 1) (zd (Nat.lor (zi bt) (zi (zd ((zi 1 * 2 ^ (zi c % 32)) % 4294967296))))) := by
  intro j h1 h2
  have z := lor_bit (s := bt) (c := c) (j := j) hb1 hc ⟨h1, h2⟩
  have y := h j h1 h2
  by_cases e : j = c
  · subst e
    exact ⟨fun _ => z.2.1 rfl, fun k => absurd (Or.inr ⟨by omega, hf⟩) k⟩
  · rw [z.2.2 e]
    refine ⟨fun k => y.1 ?_, fun k => y.2 (fun q => k ?_)⟩
    · rcases k with k | ⟨k1, k2⟩
      · exact Or.inl k
      · exact Or.inr ⟨by omega, k2⟩
    · rcases q with q | ⟨q1, q2⟩
      · exact Or.inl q
      · exact Or.inr ⟨by omega, q2⟩
theorem MKs_n (h : MKs f b a c bt) (hb1 : 0 ≤ bt ∧ bt < 256) (hf : ¬ 0 < f (64 * b + 8 * a + c).toNat) : MKs f b a (c + 1) (zd (Nat.lor (zi bt) (zi 0))) := by
  intro j h1 h2
  rw [lor_z hb1]
  have y := h j h1 h2
  refine ⟨fun k => y.1 ?_, fun k => y.2 (fun q => k ?_)⟩
  · rcases k with k | ⟨k1, k2⟩
    · exact Or.inl k
    · by_cases e : j = c
      · subst e; exact absurd k2 hf
      · exact Or.inr ⟨by omega, k2⟩
  · rcases q with q | ⟨q1, q2⟩
    · exact Or.inl q
    · exact Or.inr ⟨by omega, q2⟩
theorem MKs_z {r : Int} (h : MKs f b a 8 bt) (hr : 0 ≤ r ∧ r < 8) (hz : hb bt r = 0) : ¬ r = a ∧ ¬ 0 < f (64 * b + 8 * a + r).toNat := by
  have y := (h r hr.1 hr.2).1
  constructor
  · intro e
    have := y (Or.inl e)
    omega
  · intro e
    have := y (Or.inr ⟨hr.2, e⟩)
    omega
theorem MKs_y {r : Int} (h : MKs f b a 8 bt) (hr : 0 ≤ r ∧ r < 8) (h1 : ¬ r = a) (h2 : ¬ 0 < f (64 * b + 8 * a + r).toNat) : hb bt r = 0 := (h r hr.1 hr.2).2 (fun q => by
  rcases q with q | ⟨q1, q2⟩
  · exact h1 q
  · exact h2 q2)
theorem MKp_0 : MKp f b a 0 m 0 := by
  intro j h1 h2
  exact ⟨fun h => absurd h.1 (by omega), fun h => hb_0 ⟨h1, h2⟩⟩
theorem MKp_1 (h : MKp f b a c m bt) (hb1 : 0 ≤ bt ∧ bt < 256) (hc : 0 ≤ c ∧ c < 8) (hm : 0 < m) (hf : f (64 * b + 8 * a + c).toNat = 0) : MKp f b a (c + 1) m (zd (Nat.lor (zi bt) (zi (zd ((zi 1 * 2 ^ (zi c % 32)) % 4294967296))))) := by
  intro j h1 h2
  have z := lor_bit (s := bt) (c := c) (j := j) hb1 hc ⟨h1, h2⟩
  have y := h j h1 h2
  by_cases e : j = c
  · subst e
    exact ⟨fun _ => z.2.1 rfl, fun k => absurd ⟨by omega, hm, hf⟩ k⟩
  · rw [z.2.2 e]
    exact ⟨fun k => y.1 ⟨by omega, k.2⟩, fun k => y.2 (fun q => k ⟨by omega, q.2⟩)⟩
theorem MKp_n (h : MKp f b a c m bt) (hb1 : 0 ≤ bt ∧ bt < 256) (hf : ¬ (0 < m ∧ f (64 * b + 8 * a + c).toNat = 0)) : MKp f b a (c + 1) m (zd (Nat.lor (zi bt) (zi 0))) := by
  intro j h1 h2
  rw [lor_z hb1]
  have y := h j h1 h2
  refine ⟨fun k => y.1 ⟨?_, k.2⟩, fun k => y.2 (fun q => k ⟨by omega, q.2⟩)⟩
  by_cases e : j = c
  · subst e; exact absurd k.2 hf
  · omega
theorem MKp_z {r : Int} (h : MKp f b a 8 m bt) (hr : 0 ≤ r ∧ r < 8) (hz : hb bt r = 0) : ¬ (0 < m ∧ f (64 * b + 8 * a + r).toNat = 0) := by
  intro e
  have := (h r hr.1 hr.2).1 ⟨hr.2, e⟩
  omega
theorem MKp_y {r : Int} (h : MKp f b a 8 m bt) (hr : 0 ≤ r ∧ r < 8) (h2 : ¬ (0 < m ∧ f (64 * b + 8 * a + r).toNat = 0)) : hb bt r = 0 := (h r hr.1 hr.2).2 (fun q => h2 q.2)
end MK
theorem RTs_l {b : Int} {T s : zS} {a c : Int} (h : RTs b T s) (ha : 0 ≤ a ∧ a < 8) (hc : 0 ≤ c ∧ c < 8) : s 177 (64 * b + 8 * a + c).toNat = lnk T a c + 1 := by
  have z := h.2.2.2 (8 * a + c) (by omega) (by omega)
  rw [show (64 * b + 8 * a + c).toNat = (64 * b + (8 * a + c)).toNat by omega]
  exact z
/-- an end of the text -/
theorem tk_end0 {t : Int → Int} {n p : Int} (h0 : 0 ≤ p) (h : n ≤ p) : tk t n p 0 0 p := by
  have w : wrn (fun j => wbl (tcc t n j)) p p := ⟨Int.le_refl _, fun j a b => by omega, by show ¬ wbl (tcc t n p); rw [tcc_out (by omega)]; unfold wbl; omega⟩
  exact ⟨p, ⟨w, Or.inl ⟨h, rfl, rfl, rfl⟩⟩, w⟩
theorem tk_0n {t : Int → Int} {n p v e : Int} (h : tk t n p 0 v e) : n ≤ p := by
  obtain ⟨e', ⟨-, hT⟩, -⟩ := h
  rcases hT with ⟨h1, -⟩ | ⟨-, -, m, -, h3⟩ | ⟨-, -, m, -, h3⟩ | ⟨-, -, -, h1, -⟩
  · exact h1
  · rcases h3 with ⟨-, h3, -⟩ | ⟨-, -, h3, -⟩ <;> omega
  · rcases h3 with ⟨-, h3, -⟩ | ⟨-, -, h3, -⟩ <;> omega
  · omega
/-- where a sign's token ends -/
theorem r_end {s : zS} {t : Int → Int} {n v q : Int} (h : RDr s t n) (hk : tk t n (s 170 4) 3 v q) : wrn (fun j => wbl (tcc t n j)) (s 170 5) q := by
  obtain ⟨-, -, k', v', e', h1, -, h2⟩ := h
  obtain ⟨e, h3, h4⟩ := hk
  obtain ⟨rfl, rfl, -, rfl⟩ := TK_u h1 h3
  have z : s 170 5 = e' := by rcases h2 with h2 | h2 | h2 | h2 | h2 <;> omega
  rw [z]
  exact h4
/-- a statement's ghosts: 1 it is there, 0 it is not -/
def SGH (t : Int → Int) (n : Int) (T : zS) (p gd : Int) (gi : Nat) (ge : Int) (T1 : zS) (q2 : Int) : Prop := (gd = 1 ∧ gi < 26 ∧ tk t n p 1 (owv gi) ge ∧ sB t n T ge T1 q2 gi) ∨ (gd = 0 ∧ ((¬ ∃ (i : Nat) (e : Int), i < 26 ∧ tk t n p 1 (owv i) e) ∨ (gi < 26 ∧ tk t n p 1 (owv gi) ge ∧ sF t n T ge gi)))
def RGH (t : Int → Int) (n : Int) (T : zS) (e : Int) (T1 : zS) (q2 k gd : Int) : Prop := (k = 0 ∧ ((gd = 1 ∧ bRd t n T e T1 q2 17 ((0 : Int) = 1) 0) ∨ (gd = 0 ∧ (¬ T 0 17 = -1 ∨ Fl t n ((0 : Int) = 1) 0 0 e)))) ∨ (k = 1 ∧ ((gd = 1 ∧ bRd t n T e T1 q2 18 ((1 : Int) = 1) 5) ∨ (gd = 0 ∧ (¬ T 0 18 = -1 ∨ Fl t n ((1 : Int) = 1) 5 0 e))))
section SG
variable {t : Int → Int} {n p e gd ge q2 f q0 : Int} {T T1 : zS} {gi : Nat} {RD : Prop} {R : zS → Prop}
theorem ST_cl (i : Nat) (hi : i < 26) (hn : sF t n T e i = ¬ ∃ (T' : zS) (q : Int), sB t n T e T' q i) (hk : tk t n p 1 (owv i) e) (o : BO f RD (fun T' q => sB t n T e T' q i) q0 R) (g : SGH t n T p gd gi ge T1 q2) : (gd = 1 → f = 0 ∧ RD ∧ q0 = q2 ∧ R T1) ∧ (gd = 0 → 0 < f) := by
  rcases g with ⟨g1, g2, g3, g4⟩ | ⟨g1, g2⟩
  · obtain ⟨-, u2, u3⟩ := tk_u hk g3
    have ei := owv_inj i hi gi g2 u2
    subst ei
    subst u3
    refine ⟨fun _ => ?_, fun z => by omega⟩
    rcases o with ⟨-, o2⟩ | ⟨o1, o2, -, o4⟩
    · exact absurd ⟨T1, q2, g4⟩ o2
    · have z := o4 T1 q2 g4
      exact ⟨o1, o2, z.1.symm, z.2⟩
  · refine ⟨fun z => by omega, fun _ => ?_⟩
    rcases g2 with g2 | ⟨g2, g3, g4⟩
    · exact absurd ⟨i, e, hi, hk⟩ g2
    · obtain ⟨-, u2, u3⟩ := tk_u hk g3
      have ei := owv_inj i hi gi g2 u2
      subst ei
      subst u3
      rw [hn] at g4
      rcases o with ⟨o1, -⟩ | ⟨-, -, ⟨T', o3⟩, -⟩
      · exact o1
      · exact absurd ⟨T', q0, o3⟩ g4
theorem ST_no (hk : ∀ (i : Nat) (e : Int), i < 26 → tk t n p 1 (owv i) e → ¬ i = 0 ∧ ¬ i = 1 ∧ ¬ i = 4 ∧ ¬ i = 6 ∧ ¬ i = 9 ∧ ¬ i = 10 ∧ ¬ i = 11 ∧ ¬ i = 12) (g : SGH t n T p gd gi ge T1 q2) : ¬ gd = 1 := by
  intro z
  rcases g with ⟨g1, g2, g3, g4⟩ | ⟨g1, g2⟩
  · have h := hk gi ge g2 g3
    unfold sB at g4
    split at g4 <;> first | omega | exact g4
  · omega
theorem ST_rg (k : Int) (i : Nat) (hi : i < 26) (hki : (k = 0 ∧ i = 9) ∨ (k = 1 ∧ i = 10)) (hk : tk t n p 1 (owv i) e) (g : SGH t n T p gd gi ge T1 q2) : RGH t n T e T1 q2 k gd := by
  rcases g with ⟨g1, g2, g3, g4⟩ | ⟨g1, g2⟩
  · obtain ⟨-, u2, u3⟩ := tk_u hk g3
    have ei := owv_inj i hi gi g2 u2
    subst ei
    subst u3
    rcases hki with ⟨rfl, rfl⟩ | ⟨rfl, rfl⟩
    · exact Or.inl ⟨rfl, Or.inl ⟨g1, g4⟩⟩
    · exact Or.inr ⟨rfl, Or.inl ⟨g1, g4⟩⟩
  · rcases g2 with g2 | ⟨g2, g3, g4⟩
    · exact absurd ⟨i, e, hi, hk⟩ g2
    · obtain ⟨-, u2, u3⟩ := tk_u hk g3
      have ei := owv_inj i hi gi g2 u2
      subst ei
      subst u3
      rcases hki with ⟨rfl, rfl⟩ | ⟨rfl, rfl⟩
      · exact Or.inl ⟨rfl, Or.inr ⟨g1, g4⟩⟩
      · exact Or.inr ⟨rfl, Or.inr ⟨g1, g4⟩⟩
end SG
/-! a token where a sum ends -/
theorem tk_nb {t : Int → Int} {n p k v q : Int} (h : tk t n p k v q) : ¬ wbl (tcc t n q) := by
  obtain ⟨e, -, h⟩ := h
  exact h.2.2
theorem tk_nb0 {t : Int → Int} {n p k v q : Int} (h : tk t n p k v q) : ¬ wbl (tcc t n p) := by
  obtain ⟨e, h, -⟩ := h
  exact h.1.2.2
theorem Gr_nb {t : Int → Int} {n : Int} {cv : Prop} {tag : Nat} {o p q : Int} {c : List Int} (h : Gr t n cv tag o p q c) : ¬ wbl (tcc t n q) := by
  refine h (fun _ _ _ q _ => ¬ wbl (tcc t n q)) ⟨?_, ?_, ?_, ?_, ?_, ?_, ?_, ?_, ?_, ?_, ?_, ?_, ?_, ?_, ?_, ?_, ?_, ?_, ?_, ?_, ?_, ?_⟩
  · intro o p q r c1 c2 h1 h2
    exact h2
  · intro o p k v e h1 h2
    exact tk_nb0 h1
  · intro o p v e q r c1 c2 h1 h2 h3 h4
    exact h4
  · intro o p q r c1 c2 h1 h2
    exact h2
  · intro o p k v e h1 h2
    exact tk_nb0 h1
  · intro o p v e q r c1 c2 h1 h2 h3 h4
    exact h4
  · intro o p v e h1
    exact tk_nb h1
  · intro o p v e h1 h2
    exact tk_nb h1
  · intro o p e q e1 c1 h1 h2 h3 h4
    exact tk_nb h4
  · intro o p v e e1 q e2 q2 e3 c1 c2 h1 h2 h3 h4 h5 h6 h7 h8
    exact tk_nb h8
  · intro o p e e1 q e2 q2 e3 q3 e4 c1 c2 c3 h1 h2 h3 h4 h5 h6 h7 h8 h9
    exact tk_nb h9
  · intro o p q r c1 c2 h1 h2
    exact h2
  · intro o p k v e h1 h2
    exact tk_nb0 h1
  · intro o p e q r c1 c2 h1 h3 h4
    exact h4
  · intro o p q r c1 c2 h1 h2
    exact h2
  · intro o p k v e h1 h2
    exact tk_nb0 h1
  · intro o p e q r c1 c2 h1 h3 h4
    exact h4
  · intro o p e q c1 h1 h2 h3
    exact h3
  · intro o p e q e1 c1 h1 h2 h3 h4
    exact tk_nb h4
  · intro o p e h1
    exact tk_nb h1
  · intro o p k v e q c1 h1 h2 h3 h4
    exact h4
  · intro o p q v e r c1 c2 h1 h2 h3 h4
    exact h4
theorem TK_all {t : Int → Int} {n q : Int} (h0 : 0 ≤ q) (hb : ¬ wbl (tcc t n q)) : ∃ k v e : Int, TK t n q k v q e := by
  have w : wrn (fun j => wbl (tcc t n j)) q q := ⟨Int.le_refl _, fun j a b => by omega, hb⟩
  by_cases hn : n ≤ q
  · exact ⟨0, 0, q, w, Or.inl ⟨hn, rfl, rfl, rfl⟩⟩
  · by_cases hl : wle (t q)
    · obtain ⟨m, hm, -⟩ := wrn_ex (P := fun j => wle (tcc t n j)) (s := q) (n := n) (by omega) (by show ¬ wle (tcc t n n); rw [tcc_out (by omega)]; unfold wle; omega)
      by_cases hx : nbp t q ∨ 6 < m - q
      · exact ⟨5, 0, m, w, Or.inr (Or.inl ⟨by omega, hl, m, hm, Or.inl ⟨hx, rfl, rfl, rfl⟩⟩)⟩
      · exact ⟨1, _, m, w, Or.inr (Or.inl ⟨by omega, hl, m, hm, Or.inr ⟨fun z => hx (Or.inl z), by have z : ¬ 6 < m - q := fun z => hx (Or.inr z); omega, rfl, rfl, rfl⟩⟩)⟩
    · by_cases hd : wdi (t q)
      · obtain ⟨m, hm, -⟩ := wrn_ex (P := fun j => wdi (tcc t n j)) (s := q) (n := n) (by omega) (by show ¬ wdi (tcc t n n); rw [tcc_out (by omega)]; unfold wdi; omega)
        by_cases hx : nbp t q ∨ 4 < m - q
        · exact ⟨5, 0, m, w, Or.inr (Or.inr (Or.inl ⟨by omega, hd, m, hm, Or.inl ⟨hx, rfl, rfl, rfl⟩⟩))⟩
        · exact ⟨2, _, m, w, Or.inr (Or.inr (Or.inl ⟨by omega, hd, m, hm, Or.inr ⟨fun z => hx (Or.inl z), by have z : ¬ 4 < m - q := fun z => hx (Or.inr z); omega, rfl, rfl, rfl⟩⟩))⟩
      · exact ⟨3, t q, q + 1, w, Or.inr (Or.inr (Or.inr ⟨by omega, hl, hd, rfl, rfl, rfl⟩))⟩
theorem Gr_tk {t : Int → Int} {n : Int} {cv : Prop} {tag : Nat} {o p q : Int} {c : List Int} (h : Gr t n cv tag o p q c) (h0 : 0 ≤ p) : ∃ k v e : Int, tk t n q k v e := by
  have hl := Gr_len h h0
  obtain ⟨k, v, e, h1⟩ := TK_all (show 0 ≤ q by omega) (Gr_nb h)
  obtain ⟨q', h2⟩ := TK_nx (show 0 ≤ q by omega) h1
  exact ⟨k, v, q', h2⟩
theorem RG_gc {t : Int → Int} {n : Int} {T T1 : zS} {e q2 k gd : Int} (gh : RGH t n T e T1 q2 k gd) (h0 : 0 ≤ e) : ∃ gc : List Int, (gd = 1 → (gc.length : Int) ≤ q2 - e ∧ e ≤ q2) ∧ (T 0 (17 + k).toNat = -1 → (k = 0 → RDD t n ((0 : Int) = 1) 0 gd q2 gc e) ∧ (k = 1 → RDD t n ((1 : Int) = 1) 1 gd q2 gc e)) := by
  rcases gh with ⟨rfl, ⟨g, h⟩ | ⟨g, h⟩⟩ | ⟨rfl, ⟨g, h⟩ | ⟨g, h⟩⟩
  · obtain ⟨-, c, n1, h1, -⟩ := h
    have l := Gr_len h1 h0
    exact ⟨c, fun _ => ⟨l.2, l.1⟩, fun _ => ⟨fun _ => Or.inl ⟨rfl, Or.inl ⟨g, h1, Gr_tk h1 h0⟩⟩, fun z => absurd z (by decide)⟩⟩
  · refine ⟨[], fun z => by omega, fun hT => ⟨fun _ => Or.inl ⟨rfl, Or.inr ⟨g, ?_⟩⟩, fun z => absurd z (by decide)⟩⟩
    rcases h with h | h
    · exact absurd hT h
    · exact h
  · obtain ⟨-, c, n1, h1, -⟩ := h
    have l := Gr_len h1 h0
    exact ⟨c, fun _ => ⟨l.2, l.1⟩, fun _ => ⟨fun z => absurd z (by decide), fun _ => Or.inr ⟨rfl, Or.inl ⟨g, h1, Gr_tk h1 h0⟩⟩⟩⟩
  · refine ⟨[], fun z => by omega, fun hT => ⟨fun z => absurd z (by decide), fun _ => Or.inr ⟨rfl, Or.inr ⟨g, ?_⟩⟩⟩⟩
    rcases h with h | h
    · exact absurd hT h
    · exact h
theorem sB_le {t : Int → Int} {n : Int} {T : zS} {e : Int} {T1 : zS} {q : Int} {i : Nat} (h : sB t n T e T1 q i) (h0 : 0 ≤ e) : e ≤ q := by
  rcases (show i = 0 ∨ i = 1 ∨ i = 4 ∨ i = 6 ∨ i = 9 ∨ i = 10 ∨ i = 11 ∨ i = 12 ∨ (¬ i = 0 ∧ ¬ i = 1 ∧ ¬ i = 4 ∧ ¬ i = 6 ∧ ¬ i = 9 ∧ ¬ i = 10 ∧ ¬ i = 11 ∧ ¬ i = 12) by omega) with rfl | rfl | rfl | rfl | rfl | rfl | rfl | rfl | hi
  · obtain ⟨_, v, x, h1, _, _, _, _⟩ := (show bPl t n T e T1 q from h)
    have l1 := tk_lt h1 h0 (by omega)
    omega
  · obtain ⟨_, v, a, e1, e2, w, b, e3, e4, m, h1, _, h3, h4, _, _, _, h8, h9, _, _, _⟩ := (show bSt t n T e T1 q from h)
    have l1 := tk_lt h1 h0 (by omega); have l2 := tk_lt h3 (by omega) (by omega); have l3 := tk_lt h4 (by omega) (by omega); have l4 := tk_lt h8 (by omega) (by omega); have l5 := tk_lt h9 (by omega) (by omega)
    omega
  · obtain ⟨_, v, a, e1, e2, m, h1, _, _, h4, h5, _, _⟩ := (show bSp t n T e T1 q from h)
    have l1 := tk_lt h1 h0 (by omega); have l2 := tk_lt h4 (by omega) (by omega); have l3 := tk_lt h5 (by omega) (by omega)
    omega
  · obtain ⟨_, v, x, e1, e2, w, a, e3, e4, m, h1, _, _, _, h5, h6, _, h8, h9, _, _⟩ := (show bTh t n T e T1 q from h)
    have l1 := tk_lt h1 h0 (by omega); have l2 := tk_lt h5 (by omega) (by omega); have l3 := tk_lt h6 (by omega) (by omega); have l4 := tk_lt h8 (by omega) (by omega); have l5 := tk_lt h9 (by omega) (by omega)
    omega
  · obtain ⟨_, c, n1, h1, _⟩ := (show bRd t n T e T1 q 17 ((0 : Int) = 1) 0 from h)
    exact (Gr_len h1 h0).1
  · obtain ⟨_, c, n1, h1, _⟩ := (show bRd t n T e T1 q 18 ((1 : Int) = 1) 5 from h)
    exact (Gr_len h1 h0).1
  · obtain ⟨m, h1, _, _⟩ := (show bHe t n T e T1 q 13 40 from h)
    have l1 := tk_lt h1 h0 (by omega)
    omega
  · obtain ⟨m, h1, _, _⟩ := (show bHe t n T e T1 q 14 100 from h)
    have l1 := tk_lt h1 h0 (by omega)
    omega
  · exfalso
    unfold sB at h
    split at h <;> first | omega | exact h
theorem r_se {s : zS} {t : Int → Int} {n : Int} (h : RDr s t n) (hl : s 170 12 = -1) : s 170 5 ≤ n ∧ s 170 4 ≤ n := by
  obtain ⟨-, hp, k, v, e, h1, -, h2⟩ := h
  have z := TK_end hp.1 h1
  rcases h2 with h2 | h2 | h2 | h2 | h2 <;> omega
