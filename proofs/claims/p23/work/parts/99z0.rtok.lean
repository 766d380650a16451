/-! the reference's reader by tokens; the machine's picture -/
def TAR (s : zS) (t : Int → Int) (n : Int) : Prop := s 170 2 = n ∧ ∀ k : Int, 0 ≤ k → k < n → s 171 k.toNat = t k
def RDr (s : zS) (t : Int → Int) (n : Int) : Prop := TAR s t n ∧ (0 ≤ s 170 4 ∧ s 170 4 ≤ n) ∧ ∃ k v e : Int, TK t n (s 170 4) k v (s 170 4) e ∧ RW (s 170 3) (s 170 6) (s 170 7) (s 170 4) (s 170 5) (s 170 12) k v (s 170 4) e
def NXr (st s : zS) (t : Int → Int) (n : Int) : Prop := ∀ k v e : Int, TK t n (st 170 4) k v (st 170 4) e → ¬ k = 5 → wrn (fun j => wbl (tcc t n j)) e (s 170 4)
def RV (s : zS) (k v : Int) : Prop := (k = 0 ∧ s 170 3 = 0 ∧ s 170 12 = -1) ∨ (k = 1 ∧ s 170 3 = 1 ∧ s 170 7 = v ∧ s 170 12 = -1) ∨ (k = 2 ∧ s 170 3 = 2 ∧ s 170 6 = v ∧ s 170 12 = -1) ∨ (k = 3 ∧ s 170 3 = 3 ∧ s 170 6 = v ∧ s 170 12 = -1) ∨ (k = 5 ∧ ¬ s 170 12 = -1)
theorem RDr_rv {s : zS} {t : Int → Int} {n k v q : Int} (h : RDr s t n) (hk : tk t n (s 170 4) k v q) : RV s k v := by
  obtain ⟨-, -, k', v', e', h1, -, h2⟩ := h
  obtain ⟨e, h3, -⟩ := hk
  obtain ⟨rfl, rfl, -, rfl⟩ := TK_u h1 h3
  unfold RV
  rcases h2 with h2 | h2 | h2 | h2 | h2 <;> omega
theorem RDr_tk {s : zS} {t : Int → Int} {n : Int} (h : RDr s t n) : ∃ k v q : Int, tk t n (s 170 4) k v q := by
  obtain ⟨-, hp, k', v', e', h1, -, h2⟩ := h
  obtain ⟨q, hq⟩ := TK_nx hp.1 h1
  exact ⟨k', v', q, hq⟩
theorem NXr_e {st s : zS} {t : Int → Int} {n k v q : Int} (h : NXr st s t n) (hk : tk t n (st 170 4) k v q) (h5 : ¬ k = 5) : s 170 4 = q := by
  obtain ⟨e, h3, h4⟩ := hk
  exact wrn_u (h k v e h3 h5) h4
theorem r_wrd {s : zS} {t : Int → Int} {n v q : Int} (h : RDr s t n) (hk : tk t n (s 170 4) 1 v q) : s 170 3 = 1 ∧ s 170 7 = v ∧ s 170 12 = -1 := by
  have z := RDr_rv h hk
  unfold RV at z
  omega
theorem r_num {s : zS} {t : Int → Int} {n v q : Int} (h : RDr s t n) (hk : tk t n (s 170 4) 2 v q) : s 170 3 = 2 ∧ s 170 6 = v ∧ s 170 12 = -1 := by
  have z := RDr_rv h hk
  unfold RV at z
  omega
theorem r_sig {s : zS} {t : Int → Int} {n v q : Int} (h : RDr s t n) (hk : tk t n (s 170 4) 3 v q) : s 170 3 = 3 ∧ s 170 6 = v ∧ s 170 12 = -1 := by
  have z := RDr_rv h hk
  unfold RV at z
  omega
theorem RDr_of {st s : zS} {t : Int → Int} {n : Int} (h2 : s 170 2 = st 170 2) (ht : ∀ i : Nat, s 171 i = st 171 i) (a3 : s 170 3 = st 170 3) (a4 : s 170 4 = st 170 4) (a5 : s 170 5 = st 170 5) (a6 : s 170 6 = st 170 6) (a7 : s 170 7 = st 170 7) (a12 : s 170 12 = st 170 12) (h : RDr st t n) : RDr s t n := by
  unfold RDr TAR at h ⊢
  rw [h2, a3, a4, a5, a6, a7, a12]
  refine ⟨⟨h.1.1, fun k z1 z2 => (ht _).trans (h.1.2 k z1 z2)⟩, h.2⟩
def mcQ (s : zS) (fs : List mFr) (c : List Int) : Prop := FR (s 192) (s 193) (s 194) (s 195) (s 196) (s 197) fs (s 170 42) (s 170 45) ∧ WB fs ∧ CDr (s 170 35) (s 170 34) (s 188) (s 189) c
def mcP (t : Int → Int) (n : Int) (s : zS) (fs : List mFr) (op o : Int) (c : List Int) (p : Int) : Prop := s 170 8 = 0 ∧ s 170 46 = op ∧ s 170 43 = o ∧ s 170 4 = p ∧ RDr s t n ∧ mcQ s fs c ∧ s 170 34 + s 170 45 + s 170 42 ≤ p ∧ 0 ≤ o ∧ o ≤ 7 ∧ fs.length ≤ 9
theorem mcQ_of {st s : zS} {fs : List mFr} {c : List Int} (a : ∀ i : Nat, s 192 i = st 192 i) (b : ∀ i : Nat, s 193 i = st 193 i) (d : ∀ i : Nat, s 194 i = st 194 i) (e : ∀ i : Nat, s 195 i = st 195 i) (f : ∀ i : Nat, s 196 i = st 196 i) (g : ∀ i : Nat, s 197 i = st 197 i) (x : s 170 42 = st 170 42) (y : s 170 45 = st 170 45) (z : s 170 35 = st 170 35) (u : s 170 34 = st 170 34) (v : ∀ i : Nat, s 188 i = st 188 i) (w : ∀ i : Nat, s 189 i = st 189 i) (h : mcQ st fs c) : mcQ s fs c := by
  unfold mcQ at h ⊢
  rw [funext a, funext b, funext d, funext e, funext f, funext g, x, y, z, u, funext v, funext w]
  exact h
theorem FR_len {fr ph bg pr bs ops : Nat → Int} {k p b r : Int} {w : List Int} {fs : List mFr} {d m : Int} (hm : 0 ≤ m) (h : FR fr ph bg pr bs ops ((k, p, b, r, w) :: fs) d m) : (w.length : Int) ≤ m := by
  rw [FR_c] at h
  exact opsAt_len w m hm h.2.2.2.2.2.2.1
