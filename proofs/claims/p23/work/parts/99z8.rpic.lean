/-! the reference's picture of the town that it reads: T as in 99k, b its bank -/
def RTn (b : Int) (T s : zS) : Prop := s 172 b.toNat = T 0 1 ∧ (0 ≤ T 0 1 ∧ T 0 1 ≤ 8) ∧ ∀ j : Int, 0 ≤ j → j < T 0 1 → isN6 (s 190 (8 * b + j).toNat) (T 1 j.toNat)
def RTt (b : Int) (T s : zS) : Prop := s 181 b.toNat = T 0 8 ∧ (0 ≤ T 0 8 ∧ T 0 8 ≤ 8) ∧ ∀ j : Int, 0 ≤ j → j < T 0 8 → isN6 (s 191 (8 * b + j).toNat) (T 6 j.toNat) ∧ s 182 (8 * b + j).toNat = T 7 j.toNat ∧ s 183 (8 * b + j).toNat = T 8 j.toNat
def RTs (b : Int) (T s : zS) : Prop := s 173 b.toNat = T 0 3 ∧ (0 ≤ T 0 3 ∧ T 0 3 ≤ 14) ∧ (∀ j : Int, 0 ≤ j → j < T 0 3 → s 174 (14 * b + j).toNat = T 2 j.toNat ∧ s 175 (14 * b + j).toNat = T 3 j.toNat ∧ s 176 (14 * b + j).toNat = T 4 j.toNat) ∧ ∀ j : Int, 0 ≤ j → j < 64 → s 177 (64 * b + j).toNat = T 5 j.toNat + 1
def RTp (b : Int) (T s : zS) : Prop := s 178 b.toNat = T 9 2 ∧ (0 ≤ T 9 2 ∧ T 9 2 ≤ 20) ∧ ∀ j : Int, 0 ≤ j → j < T 9 2 → s 179 (20 * b + j).toNat = T 10 j.toNat ∧ s 180 (20 * b + j).toNat = T 11 j.toNat
def RTh (b : Int) (T s : zS) : Prop := s 184 b.toNat = T 0 13 ∧ s 185 b.toNat = T 0 14 ∧ (s 186 (2 * b + 0).toNat = -1 ↔ T 0 17 = -1) ∧ (s 186 (2 * b + 1).toNat = -1 ↔ T 0 18 = -1)
def RT (b : Int) (T s : zS) : Prop := RTn b T s ∧ RTt b T s ∧ RTs b T s ∧ RTp b T s ∧ RTh b T s
theorem RTn_e {b b' : Int} {T st s : zS} (hb : b' = b) (h1 : ∀ i : Nat, s 172 i = st 172 i) (h2 : ∀ i : Nat, s 190 i = st 190 i) (k : RTn b T st) : RTn b' T s := by
  unfold RTn at k ⊢
  rw [hb, funext h1, funext h2]
  exact k
theorem RTt_e {b b' : Int} {T st s : zS} (hb : b' = b) (h1 : ∀ i : Nat, s 181 i = st 181 i) (h2 : ∀ i : Nat, s 191 i = st 191 i) (h3 : ∀ i : Nat, s 182 i = st 182 i) (h4 : ∀ i : Nat, s 183 i = st 183 i) (k : RTt b T st) : RTt b' T s := by
  unfold RTt at k ⊢
  rw [hb, funext h1, funext h2, funext h3, funext h4]
  exact k
theorem RT_e {b : Int} {T st s : zS} (h : ∀ c i : Nat, 172 ≤ c → c ≤ 191 → s c i = st c i) (k : RT b T st) : RT b T s := by
  have e : ∀ c : Nat, 172 ≤ c → c ≤ 191 → s c = st c := fun c h1 h2 => funext (fun i => h c i h1 h2)
  unfold RT RTn RTt RTs RTp RTh at k ⊢
  rw [e 172 (by omega) (by omega), e 190 (by omega) (by omega), e 181 (by omega) (by omega), e 191 (by omega) (by omega), e 182 (by omega) (by omega), e 183 (by omega) (by omega), e 173 (by omega) (by omega), e 174 (by omega) (by omega), e 175 (by omega) (by omega), e 176 (by omega) (by omega), e 177 (by omega) (by omega), e 178 (by omega) (by omega), e 179 (by omega) (by omega), e 180 (by omega) (by omega), e 184 (by omega) (by omega), e 185 (by omega) (by omega), e 186 (by omega) (by omega)]
  exact k
theorem RT_fr {b : Int} {T : zS} {m : aM} {st s : zS} (hm : mout 172 191 m = true) (h : aFr m st s) (k : RT b T st) : RT b T s := RT_e (fr_out hm h) k
theorem RT_T {b : Int} {T T' s : zS} (h : ∀ c i : Nat, c ≤ 11 → ¬ (c = 0 ∧ (i = 0 ∨ i = 16)) → T' c i = T c i) (k : RT b T s) : RT b T' s := by
  have e : ∀ c : Nat, 1 ≤ c → c ≤ 11 → T' c = T c := fun c h1 h2 => funext (fun i => h c i h2 (by omega))
  unfold RT RTn RTt RTs RTp RTh at k ⊢
  rw [e 1 (by omega) (by omega), e 2 (by omega) (by omega), e 3 (by omega) (by omega), e 4 (by omega) (by omega), e 5 (by omega) (by omega), e 6 (by omega) (by omega), e 7 (by omega) (by omega), e 8 (by omega) (by omega), e 9 (by omega) (by omega), e 10 (by omega) (by omega), e 11 (by omega) (by omega), h 0 1 (by omega) (by omega), h 0 8 (by omega) (by omega), h 0 3 (by omega) (by omega), h 0 13 (by omega) (by omega), h 0 14 (by omega) (by omega), h 0 17 (by omega) (by omega), h 0 18 (by omega) (by omega)]
  exact k
section RPIC
variable {b : Int} {T st S : zS}
/-- one more place -/
theorem RT_pl {v x : Int} (hb : 0 ≤ b) (h : RT b T st) (lim : T 0 1 < 8) (hv : isN6 v x) (h1 : ∀ i : Nat, S 172 i = up1 (st 172) b.toNat (T 0 1 + 1) i) (h2 : ∀ i : Nat, S 190 i = up1 (st 190) (8 * b + T 0 1).toNat v i) (ho : ∀ c i : Nat, 172 ≤ c → c ≤ 191 → ¬ c = 172 → ¬ c = 190 → S c i = st c i) : RT b (zup (zup T 1 (T 0 1).toNat x) 0 1 (T 0 1 + 1)) S := by
  obtain ⟨⟨n1, n2, n3⟩, ⟨t1, t2, t3⟩, ⟨s1, s2, s3, s4⟩, ⟨p1, p2, p3⟩, e1, e2, e3, e4⟩ := h
  refine ⟨⟨?_, ?_, ?_⟩, ⟨?_, t2, ?_⟩, ⟨?_, s2, ?_, ?_⟩, ⟨?_, p2, ?_⟩, ?_, ?_, ?_, ?_⟩
  · show S 172 b.toNat = T 0 1 + 1
    rw [h1, up1_e]
  · show 0 ≤ T 0 1 + 1 ∧ T 0 1 + 1 ≤ 8
    omega
  · intro j z1 z2
    have z2 : j < T 0 1 + 1 := z2
    show isN6 (S 190 (8 * b + j).toNat) (up1 (T 1) (T 0 1).toNat x j.toNat)
    rw [h2]
    by_cases e : j = T 0 1
    · rw [e, up1_e, up1_e]; exact hv
    · rw [up1_n _ _ (by omega), up1_n _ _ (by omega)]; exact n3 j z1 (by omega)
  · exact (ho 181 _ (by omega) (by omega) (by omega) (by omega)).trans t1
  · intro j z1 z2
    rw [ho 191 _ (by omega) (by omega) (by omega) (by omega), ho 182 _ (by omega) (by omega) (by omega) (by omega), ho 183 _ (by omega) (by omega) (by omega) (by omega)]
    exact t3 j z1 z2
  · exact (ho 173 _ (by omega) (by omega) (by omega) (by omega)).trans s1
  · intro j z1 z2
    rw [ho 174 _ (by omega) (by omega) (by omega) (by omega), ho 175 _ (by omega) (by omega) (by omega) (by omega), ho 176 _ (by omega) (by omega) (by omega) (by omega)]
    exact s3 j z1 z2
  · intro j z1 z2
    rw [ho 177 _ (by omega) (by omega) (by omega) (by omega)]
    exact s4 j z1 z2
  · exact (ho 178 _ (by omega) (by omega) (by omega) (by omega)).trans p1
  · intro j z1 z2
    rw [ho 179 _ (by omega) (by omega) (by omega) (by omega), ho 180 _ (by omega) (by omega) (by omega) (by omega)]
    exact p3 j z1 z2
  · exact (ho 184 _ (by omega) (by omega) (by omega) (by omega)).trans e1
  · exact (ho 185 _ (by omega) (by omega) (by omega) (by omega)).trans e2
  · rw [ho 186 _ (by omega) (by omega) (by omega) (by omega)]; exact e3
  · rw [ho 186 _ (by omega) (by omega) (by omega) (by omega)]; exact e4
/-- one more thing -/
theorem RT_th {v x a m : Int} (hb : 0 ≤ b) (h : RT b T st) (lim : T 0 8 < 8) (hv : isN6 v x) (h1 : ∀ i : Nat, S 181 i = up1 (st 181) b.toNat (T 0 8 + 1) i) (h2 : ∀ i : Nat, S 191 i = up1 (st 191) (8 * b + T 0 8).toNat v i) (h3 : ∀ i : Nat, S 182 i = up1 (st 182) (8 * b + T 0 8).toNat a i) (h4 : ∀ i : Nat, S 183 i = up1 (st 183) (8 * b + T 0 8).toNat m i) (ho : ∀ c i : Nat, 172 ≤ c → c ≤ 191 → ¬ c = 181 → ¬ c = 191 → ¬ c = 182 → ¬ c = 183 → S c i = st c i) : RT b (zup (zup (zup (zup T 6 (T 0 8).toNat x) 7 (T 0 8).toNat a) 8 (T 0 8).toNat m) 0 8 (T 0 8 + 1)) S := by
  obtain ⟨⟨n1, n2, n3⟩, ⟨t1, t2, t3⟩, ⟨s1, s2, s3, s4⟩, ⟨p1, p2, p3⟩, e1, e2, e3, e4⟩ := h
  have o : ∀ c i : Nat, 172 ≤ c → c ≤ 180 ∨ 184 ≤ c ∧ c ≤ 190 → S c i = st c i := fun c i z1 z2 => ho c i z1 (by omega) (by omega) (by omega) (by omega) (by omega)
  refine ⟨⟨?_, n2, ?_⟩, ⟨?_, ?_, ?_⟩, ⟨?_, s2, ?_, ?_⟩, ⟨?_, p2, ?_⟩, ?_, ?_, ?_, ?_⟩
  · exact (o 172 _ (by omega) (by omega)).trans n1
  · intro j z1 z2
    rw [o 190 _ (by omega) (by omega)]
    exact n3 j z1 z2
  · show S 181 b.toNat = T 0 8 + 1
    rw [h1, up1_e]
  · show 0 ≤ T 0 8 + 1 ∧ T 0 8 + 1 ≤ 8
    omega
  · intro j z1 z2
    have z2 : j < T 0 8 + 1 := z2
    show isN6 (S 191 (8 * b + j).toNat) (up1 (T 6) (T 0 8).toNat x j.toNat) ∧ S 182 (8 * b + j).toNat = up1 (T 7) (T 0 8).toNat a j.toNat ∧ S 183 (8 * b + j).toNat = up1 (T 8) (T 0 8).toNat m j.toNat
    rw [h2, h3, h4]
    by_cases e : j = T 0 8
    · rw [e, up1_e, up1_e, up1_e, up1_e, up1_e, up1_e]; exact ⟨hv, rfl, rfl⟩
    · rw [up1_n _ _ (by omega), up1_n _ _ (by omega), up1_n _ _ (by omega), up1_n _ _ (by omega), up1_n _ _ (by omega), up1_n _ _ (by omega)]; exact t3 j z1 (by omega)
  · exact (o 173 _ (by omega) (by omega)).trans s1
  · intro j z1 z2
    rw [o 174 _ (by omega) (by omega), o 175 _ (by omega) (by omega), o 176 _ (by omega) (by omega)]
    exact s3 j z1 z2
  · intro j z1 z2
    rw [o 177 _ (by omega) (by omega)]
    exact s4 j z1 z2
  · exact (o 178 _ (by omega) (by omega)).trans p1
  · intro j z1 z2
    rw [o 179 _ (by omega) (by omega), o 180 _ (by omega) (by omega)]
    exact p3 j z1 z2
  · exact (o 184 _ (by omega) (by omega)).trans e1
  · exact (o 185 _ (by omega) (by omega)).trans e2
  · rw [o 186 _ (by omega) (by omega)]; exact e3
  · rw [o 186 _ (by omega) (by omega)]; exact e4
/-- one more street -/
theorem RT_st {a c m : Int} (hb : 0 ≤ b) (h : RT b T st) (lim : T 0 3 < 14) (ha : 0 ≤ a ∧ a < 8) (hc : 0 ≤ c ∧ c < 8) (h1 : ∀ i : Nat, S 173 i = up1 (st 173) b.toNat (T 0 3 + 1) i) (h2 : ∀ i : Nat, S 174 i = up1 (st 174) (14 * b + T 0 3).toNat a i) (h3 : ∀ i : Nat, S 175 i = up1 (st 175) (14 * b + T 0 3).toNat c i) (h4 : ∀ i : Nat, S 176 i = up1 (st 176) (14 * b + T 0 3).toNat m i) (h5 : ∀ i : Nat, S 177 i = up1 (up1 (st 177) (64 * b + 8 * a + c).toNat (T 0 3 + 1)) (64 * b + 8 * c + a).toNat (T 0 3 + 1) i) (ho : ∀ c i : Nat, 172 ≤ c → c ≤ 191 → ¬ c = 173 → ¬ c = 174 → ¬ c = 175 → ¬ c = 176 → ¬ c = 177 → S c i = st c i) : RT b (zup (zup (zup (zup (zup (zup T 2 (T 0 3).toNat a) 3 (T 0 3).toNat c) 4 (T 0 3).toNat m) 5 (a * 8 + c).toNat (T 0 3)) 5 (c * 8 + a).toNat (T 0 3)) 0 3 (T 0 3 + 1)) S := by
  obtain ⟨⟨n1, n2, n3⟩, ⟨t1, t2, t3⟩, ⟨s1, s2, s3, s4⟩, ⟨p1, p2, p3⟩, e1, e2, e3, e4⟩ := h
  have o : ∀ c i : Nat, c = 172 ∨ 178 ≤ c ∧ c ≤ 191 → S c i = st c i := fun c i z1 => ho c i (by omega) (by omega) (by omega) (by omega) (by omega) (by omega) (by omega)
  refine ⟨⟨?_, n2, ?_⟩, ⟨?_, t2, ?_⟩, ⟨?_, ?_, ?_, ?_⟩, ⟨?_, p2, ?_⟩, ?_, ?_, ?_, ?_⟩
  · exact (o 172 _ (by omega)).trans n1
  · intro j z1 z2
    rw [o 190 _ (by omega)]
    exact n3 j z1 z2
  · exact (o 181 _ (by omega)).trans t1
  · intro j z1 z2
    rw [o 191 _ (by omega), o 182 _ (by omega), o 183 _ (by omega)]
    exact t3 j z1 z2
  · show S 173 b.toNat = T 0 3 + 1
    rw [h1, up1_e]
  · show 0 ≤ T 0 3 + 1 ∧ T 0 3 + 1 ≤ 14
    omega
  · intro j z1 z2
    have z2 : j < T 0 3 + 1 := z2
    show S 174 (14 * b + j).toNat = up1 (T 2) (T 0 3).toNat a j.toNat ∧ S 175 (14 * b + j).toNat = up1 (T 3) (T 0 3).toNat c j.toNat ∧ S 176 (14 * b + j).toNat = up1 (T 4) (T 0 3).toNat m j.toNat
    rw [h2, h3, h4]
    by_cases e : j = T 0 3
    · rw [e, up1_e, up1_e, up1_e, up1_e, up1_e, up1_e]; exact ⟨rfl, rfl, rfl⟩
    · rw [up1_n _ _ (by omega), up1_n _ _ (by omega), up1_n _ _ (by omega), up1_n _ _ (by omega), up1_n _ _ (by omega), up1_n _ _ (by omega)]; exact s3 j z1 (by omega)
  · intro j z1 z2
    show S 177 (64 * b + j).toNat = up1 (up1 (T 5) (a * 8 + c).toNat (T 0 3)) (c * 8 + a).toNat (T 0 3) j.toNat + 1
    rw [h5]
    by_cases e : j = c * 8 + a
    · rw [e, up1_e, show (64 * b + (c * 8 + a)).toNat = (64 * b + 8 * c + a).toNat by omega, up1_e]
    · rw [up1_n _ _ (show ¬ j.toNat = (c * 8 + a).toNat by omega), up1_n _ _ (show ¬ (64 * b + j).toNat = (64 * b + 8 * c + a).toNat by omega)]
      by_cases e' : j = a * 8 + c
      · rw [e', up1_e, show (64 * b + (a * 8 + c)).toNat = (64 * b + 8 * a + c).toNat by omega, up1_e]
      · rw [up1_n _ _ (show ¬ j.toNat = (a * 8 + c).toNat by omega), up1_n _ _ (show ¬ (64 * b + j).toNat = (64 * b + 8 * a + c).toNat by omega)]
        exact s4 j z1 z2
  · exact (o 178 _ (by omega)).trans p1
  · intro j z1 z2
    rw [o 179 _ (by omega), o 180 _ (by omega)]
    exact p3 j z1 z2
  · exact (o 184 _ (by omega)).trans e1
  · exact (o 185 _ (by omega)).trans e2
  · rw [o 186 _ (by omega)]; exact e3
  · rw [o 186 _ (by omega)]; exact e4
/-- one more step told -/
theorem RT_sp {a m : Int} (hb : 0 ≤ b) (h : RT b T st) (lim : T 9 2 < 20) (h1 : ∀ i : Nat, S 178 i = up1 (st 178) b.toNat (T 9 2 + 1) i) (h2 : ∀ i : Nat, S 179 i = up1 (st 179) (20 * b + T 9 2).toNat a i) (h3 : ∀ i : Nat, S 180 i = up1 (st 180) (20 * b + T 9 2).toNat m i) (ho : ∀ c i : Nat, 172 ≤ c → c ≤ 191 → ¬ c = 178 → ¬ c = 179 → ¬ c = 180 → S c i = st c i) : RT b (zup (zup (zup T 10 (T 9 2).toNat a) 11 (T 9 2).toNat m) 9 2 (T 9 2 + 1)) S := by
  obtain ⟨⟨n1, n2, n3⟩, ⟨t1, t2, t3⟩, ⟨s1, s2, s3, s4⟩, ⟨p1, p2, p3⟩, e1, e2, e3, e4⟩ := h
  have o : ∀ c i : Nat, 172 ≤ c → c ≤ 177 ∨ 181 ≤ c ∧ c ≤ 191 → S c i = st c i := fun c i z1 z2 => ho c i z1 (by omega) (by omega) (by omega) (by omega)
  refine ⟨⟨?_, n2, ?_⟩, ⟨?_, t2, ?_⟩, ⟨?_, s2, ?_, ?_⟩, ⟨?_, ?_, ?_⟩, ?_, ?_, ?_, ?_⟩
  · exact (o 172 _ (by omega) (by omega)).trans n1
  · intro j z1 z2
    rw [o 190 _ (by omega) (by omega)]
    exact n3 j z1 z2
  · exact (o 181 _ (by omega) (by omega)).trans t1
  · intro j z1 z2
    rw [o 191 _ (by omega) (by omega), o 182 _ (by omega) (by omega), o 183 _ (by omega) (by omega)]
    exact t3 j z1 z2
  · exact (o 173 _ (by omega) (by omega)).trans s1
  · intro j z1 z2
    rw [o 174 _ (by omega) (by omega), o 175 _ (by omega) (by omega), o 176 _ (by omega) (by omega)]
    exact s3 j z1 z2
  · intro j z1 z2
    rw [o 177 _ (by omega) (by omega)]
    exact s4 j z1 z2
  · show S 178 b.toNat = T 9 2 + 1
    rw [h1, up1_e]
  · show 0 ≤ T 9 2 + 1 ∧ T 9 2 + 1 ≤ 20
    omega
  · intro j z1 z2
    have z2 : j < T 9 2 + 1 := z2
    show S 179 (20 * b + j).toNat = up1 (T 10) (T 9 2).toNat a j.toNat ∧ S 180 (20 * b + j).toNat = up1 (T 11) (T 9 2).toNat m j.toNat
    rw [h2, h3]
    by_cases e : j = T 9 2
    · rw [e, up1_e, up1_e, up1_e, up1_e]; exact ⟨rfl, rfl⟩
    · rw [up1_n _ _ (by omega), up1_n _ _ (by omega), up1_n _ _ (by omega), up1_n _ _ (by omega)]; exact p3 j z1 (by omega)
  · exact (o 184 _ (by omega) (by omega)).trans e1
  · exact (o 185 _ (by omega) (by omega)).trans e2
  · rw [o 186 _ (by omega) (by omega)]; exact e3
  · rw [o 186 _ (by omega) (by omega)]; exact e4
theorem RT_h3 {m : Int} (h : RT b T st) (h1 : ∀ i : Nat, S 184 i = up1 (st 184) b.toNat m i) (ho : ∀ c i : Nat, 172 ≤ c → c ≤ 191 → ¬ c = 184 → S c i = st c i) : RT b (zup T 0 13 m) S := by
  have k : RTh b (zup T 0 13 m) S := by
    obtain ⟨-, -, -, -, e1, e2, e3, e4⟩ := h
    refine ⟨?_, ?_, ?_, ?_⟩
    · show S 184 b.toNat = m
      rw [h1, up1_e]
    · exact (ho 185 _ (by omega) (by omega) (by omega)).trans e2
    · rw [ho 186 _ (by omega) (by omega) (by omega)]; exact e3
    · rw [ho 186 _ (by omega) (by omega) (by omega)]; exact e4
  have e : ∀ c : Nat, 172 ≤ c → c ≤ 191 → ¬ c = 184 → S c = st c := fun c h1 h2 h3 => funext (fun i => ho c i h1 h2 h3)
  obtain ⟨n, t, s, p, -⟩ := h
  refine ⟨?_, ?_, ?_, ?_, k⟩
  · unfold RTn at n ⊢; rw [e 172 (by omega) (by omega) (by omega), e 190 (by omega) (by omega) (by omega)]; exact n
  · unfold RTt at t ⊢; rw [e 181 (by omega) (by omega) (by omega), e 191 (by omega) (by omega) (by omega), e 182 (by omega) (by omega) (by omega), e 183 (by omega) (by omega) (by omega)]; exact t
  · unfold RTs at s ⊢; rw [e 173 (by omega) (by omega) (by omega), e 174 (by omega) (by omega) (by omega), e 175 (by omega) (by omega) (by omega), e 176 (by omega) (by omega) (by omega), e 177 (by omega) (by omega) (by omega)]; exact s
  · unfold RTp at p ⊢; rw [e 178 (by omega) (by omega) (by omega), e 179 (by omega) (by omega) (by omega), e 180 (by omega) (by omega) (by omega)]; exact p
theorem RT_h4 {m : Int} (h : RT b T st) (h1 : ∀ i : Nat, S 185 i = up1 (st 185) b.toNat m i) (ho : ∀ c i : Nat, 172 ≤ c → c ≤ 191 → ¬ c = 185 → S c i = st c i) : RT b (zup T 0 14 m) S := by
  have k : RTh b (zup T 0 14 m) S := by
    obtain ⟨-, -, -, -, e1, e2, e3, e4⟩ := h
    refine ⟨?_, ?_, ?_, ?_⟩
    · exact (ho 184 _ (by omega) (by omega) (by omega)).trans e1
    · show S 185 b.toNat = m
      rw [h1, up1_e]
    · rw [ho 186 _ (by omega) (by omega) (by omega)]; exact e3
    · rw [ho 186 _ (by omega) (by omega) (by omega)]; exact e4
  have e : ∀ c : Nat, 172 ≤ c → c ≤ 191 → ¬ c = 185 → S c = st c := fun c h1 h2 h3 => funext (fun i => ho c i h1 h2 h3)
  obtain ⟨n, t, s, p, -⟩ := h
  refine ⟨?_, ?_, ?_, ?_, k⟩
  · unfold RTn at n ⊢; rw [e 172 (by omega) (by omega) (by omega), e 190 (by omega) (by omega) (by omega)]; exact n
  · unfold RTt at t ⊢; rw [e 181 (by omega) (by omega) (by omega), e 191 (by omega) (by omega) (by omega), e 182 (by omega) (by omega) (by omega), e 183 (by omega) (by omega) (by omega)]; exact t
  · unfold RTs at s ⊢; rw [e 173 (by omega) (by omega) (by omega), e 174 (by omega) (by omega) (by omega), e 175 (by omega) (by omega) (by omega), e 176 (by omega) (by omega) (by omega), e 177 (by omega) (by omega) (by omega)]; exact s
  · unfold RTp at p ⊢; rw [e 178 (by omega) (by omega) (by omega), e 179 (by omega) (by omega) (by omega), e 180 (by omega) (by omega) (by omega)]; exact p
/-- a sum told: k = 0 the first, 1 the other -/
theorem RT_rd {T' : zS} {k v : Int} (hb : 0 ≤ b) (h : RT b T st) (hk : k = 0 ∨ k = 1) (hv : 0 ≤ v) (hT : ∀ c i : Nat, c ≤ 11 → ¬ (c = 0 ∧ (i = (17 + k).toNat ∨ i = 16)) → T' c i = T c i) (hf : 0 ≤ T' 0 (17 + k).toNat) (h1 : ∀ i : Nat, S 186 i = up1 (st 186) (2 * b + k).toNat v i) (ho : ∀ c i : Nat, 172 ≤ c → c ≤ 191 → ¬ c = 186 → ¬ c = 187 → ¬ c = 188 → ¬ c = 189 → S c i = st c i) : RT b T' S := by
  have e : ∀ c : Nat, 172 ≤ c → c ≤ 191 → ¬ (186 ≤ c ∧ c ≤ 189) → S c = st c := fun c h1 h2 h3 => funext (fun i => ho c i h1 h2 (by omega) (by omega) (by omega) (by omega))
  have eT : ∀ c : Nat, 1 ≤ c → c ≤ 11 → T' c = T c := fun c h1 h2 => funext (fun i => hT c i h2 (by omega))
  obtain ⟨n, t, s, p, e1, e2, e3, e4⟩ := h
  refine ⟨?_, ?_, ?_, ?_, ?_, ?_, ?_, ?_⟩
  · unfold RTn at n ⊢; rw [e 172 (by omega) (by omega) (by omega), e 190 (by omega) (by omega) (by omega), eT 1 (by omega) (by omega), hT 0 1 (by omega) (by omega)]; exact n
  · unfold RTt at t ⊢; rw [e 181 (by omega) (by omega) (by omega), e 191 (by omega) (by omega) (by omega), e 182 (by omega) (by omega) (by omega), e 183 (by omega) (by omega) (by omega), eT 6 (by omega) (by omega), eT 7 (by omega) (by omega), eT 8 (by omega) (by omega), hT 0 8 (by omega) (by omega)]; exact t
  · unfold RTs at s ⊢; rw [e 173 (by omega) (by omega) (by omega), e 174 (by omega) (by omega) (by omega), e 175 (by omega) (by omega) (by omega), e 176 (by omega) (by omega) (by omega), e 177 (by omega) (by omega) (by omega), eT 2 (by omega) (by omega), eT 3 (by omega) (by omega), eT 4 (by omega) (by omega), eT 5 (by omega) (by omega), hT 0 3 (by omega) (by omega)]; exact s
  · unfold RTp at p ⊢; rw [e 178 (by omega) (by omega) (by omega), e 179 (by omega) (by omega) (by omega), e 180 (by omega) (by omega) (by omega), eT 9 (by omega) (by omega), eT 10 (by omega) (by omega), eT 11 (by omega) (by omega)]; exact p
  · rw [e 184 (by omega) (by omega) (by omega), hT 0 13 (by omega) (by omega)]; exact e1
  · rw [e 185 (by omega) (by omega) (by omega), hT 0 14 (by omega) (by omega)]; exact e2
  · rw [h1]
    rcases hk with rfl | rfl
    · rw [up1_e]
      have hf : 0 ≤ T' 0 17 := hf
      constructor <;> intro z <;> omega
    · rw [up1_n _ _ (by omega), hT 0 17 (by omega) (by omega)]; exact e3
  · rw [h1]
    rcases hk with rfl | rfl
    · rw [up1_n _ _ (by omega), hT 0 18 (by omega) (by omega)]; exact e4
    · rw [up1_e]
      have hf : 0 ≤ T' 0 18 := hf
      constructor <;> intro z <;> omega
end RPIC
/-! tokens as the reference sees them -/
theorem r_isw {s : zS} {t : Int → Int} {n : Int} (h : RDr s t n) (h3 : s 170 3 = 1) (hl : s 170 12 = -1) : ∃ q : Int, tk t n (s 170 4) 1 (s 170 7) q := by
  obtain ⟨k, v, q, hk⟩ := RDr_tk h
  have z := RDr_rv h hk
  unfold RV at z
  have e : k = 1 ∧ v = s 170 7 := by omega
  obtain ⟨rfl, rfl⟩ := e
  exact ⟨q, hk⟩
theorem r_isn {s : zS} {t : Int → Int} {n : Int} (h : RDr s t n) (h3 : s 170 3 = 2) (hl : s 170 12 = -1) : ∃ q : Int, tk t n (s 170 4) 2 (s 170 6) q := by
  obtain ⟨k, v, q, hk⟩ := RDr_tk h
  have z := RDr_rv h hk
  unfold RV at z
  have e : k = 2 ∧ v = s 170 6 := by omega
  obtain ⟨rfl, rfl⟩ := e
  exact ⟨q, hk⟩
theorem r_iss {s : zS} {t : Int → Int} {n : Int} (h : RDr s t n) (h3 : s 170 3 = 3) (hl : s 170 12 = -1) : ∃ q : Int, tk t n (s 170 4) 3 (s 170 6) q := by
  obtain ⟨k, v, q, hk⟩ := RDr_tk h
  have z := RDr_rv h hk
  unfold RV at z
  have e : k = 3 ∧ v = s 170 6 := by omega
  obtain ⟨rfl, rfl⟩ := e
  exact ⟨q, hk⟩
theorem r_ise {s : zS} {t : Int → Int} {n : Int} (h : RDr s t n) (h3 : s 170 3 = 0) : ∃ v q : Int, tk t n (s 170 4) 0 v q := by
  obtain ⟨k, v, q, hk⟩ := RDr_tk h
  obtain ⟨-, -, k', v', e', h1, -, h2⟩ := h
  obtain ⟨e, h4, h5⟩ := hk
  obtain ⟨rfl, rfl, -, rfl⟩ := TK_u h1 h4
  have e0 : k' = 0 := by rcases h2 with h2 | h2 | h2 | h2 | h2 <;> omega
  subst e0
  exact ⟨v', q, e', h4, h5⟩
theorem tk_n6 {t : Int → Int} {n p v q : Int} (h : tk t n p 1 v q) (h0 : 0 ≤ p) : ∃ x : Int, isN6 v x := by
  obtain ⟨e, ⟨-, hT⟩, -⟩ := h
  rcases hT with ⟨-, h1, -⟩ | ⟨h1, h2, m, hm, h3⟩ | ⟨h1, h2, m, hm, h3⟩ | ⟨-, -, -, h1, -⟩
  · omega
  · rcases h3 with ⟨-, h3, -⟩ | ⟨-, h4, -, h5, -⟩
    · omega
    · obtain ⟨m1, m2, m3⟩ := hm
      have hp : ¬ m = p := fun z => m3 (by show wle (tcc t n m); rw [z, tcc_in (by omega)]; exact h2)
      rw [h5]
      exact ⟨_, pk_N6 (by omega) (by omega) (fun j z1 z2 => by
        have z := m2 j z1 (by omega)
        have z : wle (tcc t n j) := z
        have y := tcc_le z
        rw [← y.2]; exact z)⟩
  · rcases h3 with ⟨-, h3, -⟩ | ⟨-, -, h3, -⟩ <;> omega
  · omega
/-- a name looked for -/
def NMD (b m w r : Int) (f : Nat → Int) : Prop := (0 ≤ r ∧ r < m ∧ f (8 * b + r).toNat = w ∧ ∀ j : Int, 0 ≤ j → j < r → ¬ f (8 * b + j).toNat = w) ∨ (r = -1 ∧ ∀ j : Int, 0 ≤ j → j < m → ¬ f (8 * b + j).toNat = w)
/-- a name looked for in vain: nowhere in the town -/
theorem NMD_fr {b : Int} {T s : zS} {w x : Int} (hn : RTn b T s) (ht : RTt b T s) (hx : isN6 w x) (h1 : NMD b (T 0 1) w (-1) (s 190)) (h2 : NMD b (T 0 8) w (-1) (s 191)) : FrN T x := by
  rcases h1 with h1 | ⟨-, h1⟩
  · omega
  rcases h2 with h2 | ⟨-, h2⟩
  · omega
  refine ⟨fun j z1 z2 z3 => ?_, fun j z1 z2 z3 => ?_⟩
  · exact h1 j z1 z2 ((isN6_u (hn.2.2 j z1 z2) hx).mpr z3)
  · exact h2 j z1 z2 ((isN6_u (ht.2.2 j z1 z2).1 hx).mpr z3)
theorem NMD_n1 {b : Int} {T s : zS} {w x r : Int} (hn : RTn b T s) (hx : isN6 w x) (h1 : NMD b (T 0 1) w r (s 190)) (hr : ¬ r = -1) : ¬ FrN T x := by
  rcases h1 with ⟨a, c, d, -⟩ | h1
  · exact fun z => z.1 r a c ((isN6_u (hn.2.2 r a c) hx).mp d)
  · exact absurd h1.1 hr
theorem NMD_n2 {b : Int} {T s : zS} {w x r : Int} (ht : RTt b T s) (hx : isN6 w x) (h1 : NMD b (T 0 8) w r (s 191)) (hr : ¬ r = -1) : ¬ FrN T x := by
  rcases h1 with ⟨a, c, d, -⟩ | h1
  · exact fun z => z.2 r a c ((isN6_u (ht.2.2 r a c).1 hx).mp d)
  · exact absurd h1.1 hr
theorem NMD_kn {b : Int} {T s : zS} {w r : Int} (hn : RTn b T s) (hw : NOwn w) (hx : ∃ x : Int, isN6 w x) (h1 : NMD b (T 0 1) w r (s 190)) (hr : ¬ r = -1) : KnP T w r := by
  obtain ⟨x, hx⟩ := hx
  rcases h1 with ⟨a, c, d, e⟩ | h1
  · refine ⟨hw, x, hx, ⟨a, c, (isN6_u (hn.2.2 r a c) hx).mp d⟩, fun j z1 z2 z3 => ?_⟩
    exact e j z1 z2 ((isN6_u (hn.2.2 j z1 (by omega)) hx).mpr z3)
  · exact absurd h1.1 hr
theorem NMD_kk {b : Int} {T s : zS} {w r a : Int} (hn : RTn b T s) (h1 : NMD b (T 0 1) w r (s 190)) (k : KnP T w a) : r = a := by
  have hk := KnP_b k
  obtain ⟨hw, x, hx, ⟨a1, a2, a3⟩, a4⟩ := id k
  have e : ¬ r = -1 := fun z => by
    rcases h1 with h1 | ⟨-, h1⟩
    · omega
    · exact h1 a a1 a2 ((isN6_u (hn.2.2 a a1 a2) hx).mpr a3)
  exact KnP_u (NMD_kn hn hw ⟨x, hx⟩ h1 e) k
/-! sets of places -/
theorem shl8x : ∀ c j : Fin 8, hb (zd ((zi 1 * 2 ^ (zi ((c.val : Nat) : Int) % 32)) % 4294967296)) ((j.val : Nat) : Int) = if j = c then 1 else 0 := by decide +kernel
theorem shl_bx {c j : Int} (hc : 0 ≤ c ∧ c < 8) (hj : 0 ≤ j ∧ j < 8) : (j = c → hb (zd ((zi 1 * 2 ^ (zi c % 32)) % 4294967296)) j = 1) ∧ (¬ j = c → hb (zd ((zi 1 * 2 ^ (zi c % 32)) % 4294967296)) j = 0) := by
  have h := shl8x ⟨c.toNat, by omega⟩ ⟨j.toNat, by omega⟩
  have e2 : ((c.toNat : Nat) : Int) = c := by omega
  have e3 : ((j.toNat : Nat) : Int) = j := by omega
  simp only [e2, e3] at h
  refine ⟨fun e => ?_, fun e => ?_⟩
  · rw [h, if_pos (by rw [Fin.mk.injEq]; omega)]
  · rw [h, if_neg (by rw [Fin.mk.injEq]; omega)]
theorem hb08 : ∀ j : Fin 8, hb 0 ((j.val : Nat) : Int) = 0 := by decide +kernel
theorem hb_0 {j : Int} (hj : 0 ≤ j ∧ j < 8) : hb 0 j = 0 := by
  have h := hb08 ⟨j.toNat, by omega⟩
  have e3 : ((j.toNat : Nat) : Int) = j := by omega
  simp only [e3] at h
  exact h
theorem hb_01 (a k : Int) : hb a k = 0 ∨ hb a k = 1 := by unfold hb; split <;> omega
