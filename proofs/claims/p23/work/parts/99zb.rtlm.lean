/-! a whole text: what the class found, as the reference's ghosts -/
def TGH (t : Int → Int) (n gd : Int) (m : Nat) (Ts : Nat → zS) (ps : Nat → Int) : Prop := Clr (Ts 0) ∧ wrn (fun j => wbl (tcc t n j)) 0 (ps 0) ∧ (∀ j : Nat, j < m → SS t n (Ts j) (ps j) (Ts (j + 1)) (ps (j + 1))) ∧ m ≤ 80 ∧ ((gd = 1 ∧ ∃ v e : Int, tk t n (ps m) 0 v e) ∨ (gd = 0 ∧ (¬ ∃ v e : Int, tk t n (ps m) 0 v e) ∧ ((m < 80 ∧ FS t n (Ts m) (ps m)) ∨ m = 80)))
theorem TGH_ok {t : Int → Int} {n r : Int} {T : zS} (h : POK t n T r) : ∃ (m : Nat) (Ts : Nat → zS) (ps : Nat → Int), TGH t n 1 m Ts ps ∧ r = (m : Int) ∧ Ts m = T := by
  obtain ⟨k, T0, p0, q, h1, h2, h3, h4, h5, h6⟩ := h
  obtain ⟨Ts, ps, a1, a2, a3, a4, a5⟩ := Chn_f h3
  refine ⟨k, Ts, ps, ⟨?_, ?_, a5, h4, Or.inl ⟨rfl, ?_⟩⟩, h5, a3⟩
  · rw [a1]; exact h1
  · rw [a2]; exact h2
  · rw [a4]; exact h6
theorem TGH_no {t : Int → Int} {n : Int} (h : PNO t n) : ∃ (m : Nat) (Ts : Nat → zS) (ps : Nat → Int), TGH t n 0 m Ts ps := by
  obtain ⟨k, T0, p0, T, q, h1, h2, h3, h4, h5⟩ := h
  obtain ⟨Ts, ps, a1, a2, a3, a4, a5⟩ := Chn_f h3
  refine ⟨k, Ts, ps, ?_, ?_, a5, ?_, Or.inr ⟨rfl, ?_, ?_⟩⟩
  · rw [a1]; exact h1
  · rw [a2]; exact h2
  · rcases h5 with h5 | h5 <;> omega
  · rw [a4]; exact h4
  · rw [a3, a4]; exact h5
/-- the ghosts of the next statement -/
def TSG (t : Int → Int) (n gd : Int) (m : Nat) (Ts : Nat → zS) (ps : Nat → Int) (k : Nat) (sd : Int) (gi : Nat) (ge : Int) (T1 : zS) (q2 : Int) : Prop := SGH t n (Ts k) (ps k) sd gi ge T1 q2 ∧ (k < m → sd = 1 ∧ tk t n q2 3 59 (ps (k + 1)) ∧ Ts (k + 1) = zup T1 0 0 (T1 0 0 + 1)) ∧ (gd = 1 → k < m) ∧ (k = m → sd = 1 → ¬ ∃ q : Int, tk t n q2 3 59 q)
theorem TG_st {t : Int → Int} {n gd : Int} {m : Nat} {Ts : Nat → zS} {ps : Nat → Int} (h : TGH t n gd m Ts ps) (k : Nat) : ∃ (sd : Int) (gi : Nat) (ge : Int) (T1 : zS) (q2 : Int), k ≤ m → (¬ ∃ v e : Int, tk t n (ps k) 0 v e) → (k = 80 → ∃ v e : Int, tk t n (ps k) 0 v e) → TSG t n gd m Ts ps k sd gi ge T1 q2 := by
  obtain ⟨-, -, h3, h4, h5⟩ := h
  by_cases hk : k < m
  · obtain ⟨i, e, e2, T1, a1, a2, a3, a4, a5⟩ := h3 k hk
    exact ⟨1, i, e, T1, e2, fun _ _ _ => ⟨Or.inl ⟨rfl, a1, a2, a3⟩, fun _ => ⟨rfl, a4, a5⟩, fun _ => hk, fun z => absurd hk (by omega)⟩⟩
  · by_cases hm : k = m
    · subst hm
      rcases h5 with ⟨g, h5⟩ | ⟨g, h5, h6⟩
      · exact ⟨0, 0, 0, Ts 0, 0, fun _ z => absurd h5 z⟩
      · rcases h6 with ⟨h6, h7⟩ | h6
        · rcases h7 with h7 | ⟨i, e, b1, b2, b3⟩ | ⟨i, e, e2, T1, b1, b2, b3, b4⟩
          · exact ⟨0, 0, 0, Ts 0, 0, fun _ _ _ => ⟨Or.inr ⟨rfl, Or.inl h7⟩, fun z => absurd z hk, fun z => by omega, fun _ z => absurd z (by decide)⟩⟩
          · exact ⟨0, i, e, Ts 0, 0, fun _ _ _ => ⟨Or.inr ⟨rfl, Or.inr ⟨b1, b2, b3⟩⟩, fun z => absurd z hk, fun z => by omega, fun _ z => absurd z (by decide)⟩⟩
          · exact ⟨1, i, e, T1, e2, fun _ _ _ => ⟨Or.inl ⟨rfl, b1, b2, b3⟩, fun z => absurd z hk, fun z => by omega, fun _ _ => b4⟩⟩
        · exact ⟨0, 0, 0, Ts 0, 0, fun _ z y => absurd (y h6) z⟩
    · exact ⟨0, 0, 0, Ts 0, 0, fun z => by omega⟩
/-- where the reference stands behind k statements -/
def TIN (t : Int → Int) (n gd : Int) (m : Nat) (Ts : Nat → zS) (ps : Nat → Int) (s : zS) (k : Int) : Prop := (s 170 8 = 0 → k.toNat ≤ m ∧ s 170 4 = ps k.toNat ∧ RDr s t n ∧ RT (s 170 35) (Ts k.toNat) s ∧ (k = 80 → ∃ v e : Int, tk t n (ps k.toNat) 0 v e)) ∧ (0 < s 170 8 → gd = 0)
/-- a statement, and what stands behind it: the reference's answers in one -/
def SOK (t : Int → Int) (n : Int) (b : Int) (T1 : zS) (q2 sd : Int) (s : zS) : Prop := (sd = 1 ∧ s 170 8 = 0 ∧ s 170 4 = q2 ∧ RT b T1 s) ∨ (0 < s 170 8 ∧ (sd = 0 ∨ ∃ v e : Int, tk t n q2 5 v e))
theorem TIN_st {t : Int → Int} {n gd : Int} {m : Nat} {Ts : Nat → zS} {ps : Nat → Int} (h : TGH t n gd m Ts ps) {k : Int} (h0 : 0 ≤ k) {sd : Int} {gi : Nat} {ge : Int} {T1 : zS} {q2 : Int} (hk : k.toNat ≤ m) (g : TSG t n gd m Ts ps k.toNat sd gi ge T1 q2) {s1 s2 : zS} {b : Int} (o1 : SOK t n b T1 q2 sd s1) (hb : s2 170 35 = b)
    (hf : ∀ c i : Nat, 172 ≤ c → c ≤ 191 → s2 c i = s1 c i)
    (o2 : (s2 170 8 = 0 ∧ s1 170 8 = 0 ∧ tk t n (s1 170 4) 3 59 (s2 170 4) ∧ RDr s2 t n ∧ (k + 1 = 80 → ∃ v e : Int, tk t n (s2 170 4) 0 v e)) ∨ (0 < s2 170 8 ∧ s1 170 8 = 0 ∧ ¬ ∃ q : Int, tk t n (s1 170 4) 3 59 q ∧ (k + 1 = 80 → ∃ v e : Int, tk t n q 0 v e)) ∨ (0 < s2 170 8 ∧ 0 < s1 170 8)) : TIN t n gd m Ts ps s2 (k + 1) := by
  obtain ⟨g1, g2, g3, g4⟩ := g
  have e1 : (k + 1).toNat = k.toNat + 1 := by omega
  constructor
  · intro hz
    rcases o2 with ⟨-, y2, y3, y4, y5⟩ | ⟨y1, -⟩ | ⟨y1, -⟩
    · rcases o1 with ⟨x1, x2, x3, x4⟩ | ⟨x1, -⟩
      · rw [x3] at y3
        have hlt : k.toNat < m := by
          by_cases q : k.toNat = m
          · exact absurd ⟨_, y3⟩ (g4 q x1)
          · omega
        obtain ⟨-, z2, z3⟩ := g2 hlt
        obtain ⟨-, -, u⟩ := tk_u y3 z2
        refine ⟨by omega, by rw [e1]; exact u, y4, ?_, ?_⟩
        · rw [hb, e1, z3]
          exact RT_T (fun c i q1 q2 => zup_ne T1 _ (fun q => q2 ⟨q.1, Or.inl q.2⟩)) (RT_e hf x4)
        · intro q
          rw [e1, ← u]
          exact y5 q
      · omega
    · omega
    · omega
  · intro hz
    by_cases hg : gd = 1
    · exfalso
      have hlt := g3 hg
      obtain ⟨x0, z2, z3⟩ := g2 hlt
      rcases o1 with ⟨x1, x2, x3, x4⟩ | ⟨x1, x2 | ⟨v, e, x2⟩⟩
      · rcases o2 with ⟨y1, -⟩ | ⟨-, -, y3⟩ | ⟨-, y2⟩
        · omega
        · refine y3 ⟨ps (k.toNat + 1), by rw [x3]; exact z2, fun q => ?_⟩
          obtain ⟨-, -, h3, h4, h5⟩ := h
          have em : m = k.toNat + 1 := by omega
          rcases h5 with ⟨-, h5⟩ | ⟨h5, -⟩
          · rw [← em]; exact h5
          · omega
        · omega
      · omega
      · have u := (tk_u x2 z2).1
        omega
    · obtain ⟨-, -, -, -, h5⟩ := h
      rcases h5 with ⟨h5, -⟩ | ⟨h5, -⟩
      · exact absurd h5 hg
      · exact h5
/-- at the end -/
theorem TIN_end {t : Int → Int} {n gd : Int} {m : Nat} {Ts : Nat → zS} {ps : Nat → Int} (h : TGH t n gd m Ts ps) {k : Int} (h0 : 0 ≤ k) {s : zS} (x : TIN t n gd m Ts ps s k) (hz : s 170 8 = 0) (hs : s 170 3 = 0) : gd = 1 ∧ k = (m : Int) ∧ RT (s 170 35) (Ts m) s := by
  obtain ⟨x1, x2, x3, x4, -⟩ := x.1 hz
  obtain ⟨v, e, he⟩ := r_ise x3 hs
  rw [x2] at he
  obtain ⟨-, -, h3, h4, h5⟩ := h
  have ek : k.toNat = m := by
    by_cases q : k.toNat < m
    · obtain ⟨i, e1, e2, T1, a1, a2, -⟩ := h3 _ q
      have u := (tk_u he a2).1
      omega
    · omega
  rw [ek] at he x4
  rcases h5 with ⟨g, -⟩ | ⟨g, h5, -⟩
  · exact ⟨g, by omega, x4⟩
  · exact absurd ⟨v, e, he⟩ h5
theorem TIN_ne {t : Int → Int} {n gd : Int} {m : Nat} {Ts : Nat → zS} {ps : Nat → Int} {k : Int} {s : zS} (x : TIN t n gd m Ts ps s k) (hz : s 170 8 = 0) (hs : ¬ s 170 3 = 0) : ¬ ∃ v e : Int, tk t n (ps k.toNat) 0 v e := by
  intro hx
  obtain ⟨v, e, he⟩ := hx
  obtain ⟨x1, x2, x3, -⟩ := x.1 hz
  rw [← x2] at he
  have z := RDr_rv x3 he
  unfold RV at z
  omega
theorem RT_init {b : Int} {T s : zS} (hc : Clr T) (h1 : s 172 b.toNat = 0) (h2 : s 173 b.toNat = 0) (h3 : s 178 b.toNat = 0) (h4 : s 181 b.toNat = 0) (h5 : s 184 b.toNat = 20) (h6 : s 185 b.toNat = 0) (h7 : s 186 (2 * b + 0).toNat = -1) (h8 : s 186 (2 * b + 1).toNat = -1) (h9 : ∀ j : Int, 0 ≤ j → j < 64 → s 177 (64 * b + j).toNat = 0) : RT b T s := by
  obtain ⟨c0, c1, c2, c3, c4, c5, c6, c7, c8, c9, c10⟩ := hc
  refine ⟨⟨by omega, by omega, fun j z1 z2 => by omega⟩, ⟨by omega, by omega, fun j z1 z2 => by omega⟩, ⟨by omega, by omega, fun j z1 z2 => by omega, fun j z1 z2 => ?_⟩, ⟨by omega, by omega, fun j z1 z2 => by omega⟩, by omega, by omega, ?_, ?_⟩
  · rw [h9 j z1 z2, c10 j z1 z2]; rfl
  · rw [h7, c8]
  · rw [h8, c9]
/-- the text's first token -/
theorem RDr_0 {t : Int → Int} {n : Int} {st s : zS} {m : aM} (hf : aFr m st s) (h2 : amf m 170 2 = false) (h2' : ama m 170 = false) (h3 : ama m 171 = false) (h4 : ∀ i, amf m 171 i = false) (hn : st 170 2 = n) (h0 : st 170 5 = 0) (hp : 0 ≤ n) (ht : ∀ k : Int, 0 ≤ k → k < n → st 171 k.toNat = t k) (hk : ∃ k v s' e : Int, TK (fun k => st 171 k.toNat) (st 170 2) (st 170 5) k v s' e ∧ RW (s 170 3) (s 170 6) (s 170 7) (s 170 4) (s 170 5) (s 170 12) k v s' e) : RDr s t n ∧ wrn (fun j => wbl (tcc t n j)) 0 (s 170 4) := by
  obtain ⟨k', v', s', e', q3, q4⟩ := hk
  have hh : ∀ j : Int, 0 ≤ j → j < st 170 2 → t j = (fun k => st 171 k.toNat) j := fun j z1 z2 => (ht j z1 (by omega)).symm
  have q5 := TK_e hh (show 0 ≤ st 170 5 by omega) q3
  rw [hn, h0] at q5
  have e4 : s 170 4 = s' := q4.1
  have e2 : s 170 2 = st 170 2 := hf 170 2 h2 h2'
  have hw : wrn (fun j => wbl (tcc t n j)) 0 (s 170 4) := by rw [e4]; exact q5.1
  have hw2 := wrn_in (P := wbl) (by unfold wbl; omega) (show (0 : Int) ≤ n by omega) hw
  refine ⟨⟨⟨by omega, fun j z1 z2 => ?_⟩, ⟨hw.1, hw2⟩, k', v', e', ?_, ?_⟩, hw⟩
  · rw [hf 171 _ (h4 _) h3]; exact ht j z1 z2
  · rw [e4]; exact TK_can q5
  · rw [e4] at q4 ⊢; exact q4
