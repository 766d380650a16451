/-! what the class's words hold of a token -/
def CP (t : Int → Int) (n p kd vl stt att : Int) (own : Nat → Int) : Prop := wrn (fun j => wbl (tcc t n j)) p stt ∧
  ((n ≤ stt ∧ kd = 0 ∧ att = stt) ∨ (stt < n ∧ wle (t stt) ∧ cWrd t n stt att kd vl own) ∨ (stt < n ∧ wdi (t stt) ∧ cNum t n stt att kd vl) ∨ (stt < n ∧ ¬ wle (t stt) ∧ ¬ wdi (t stt) ∧ kd = 4 ∧ vl = t stt ∧ att = stt + 1))
def CW (kd vl stt att k v s e : Int) (own : Nat → Int) : Prop := stt = s ∧ ((k = 0 ∧ kd = 0 ∧ att = e) ∨
  (k = 1 ∧ att = e ∧ ∃ x : Int, isN6 v x ∧ ((kd = 1 ∧ vl = x ∧ ∀ j : Int, 0 ≤ j → j < 26 → ¬ own j.toNat = x) ∨ (kd = 2 ∧ 0 ≤ vl ∧ vl < 26 ∧ own vl.toNat = x))) ∨
  (k = 2 ∧ kd = 3 ∧ vl = v ∧ att = e) ∨ (k = 3 ∧ kd = 4 ∧ vl = v ∧ att = e) ∨ (k = 5 ∧ kd = 5))
theorem CP_nb {t : Int → Int} {n p stt : Int} (h0 : 0 ≤ p) (h : wrn (fun j => wbl (tcc t n j)) p stt) (hn : stt < n) (hs : ¬ p = stt) : ¬ nbp t stt := by
  intro q
  have z : wbl (tcc t n (stt - 1)) := h.2.1 (stt - 1) (by have := h.1; omega) (by omega)
  rw [tcc_in (by have := h.1; omega)] at z
  have q2 := q.2
  unfold wbl at z
  unfold wle wdi at q2
  omega
theorem CP_end {t : Int → Int} {n stt att : Int} (h0 : 0 ≤ stt) (hn : stt < n) (hl : wle (t stt)) (h : wrn (fun j => wle (tcc t n j)) stt att) : stt < att := by
  have h1 := h.1
  have h3 : ¬ wle (tcc t n att) := h.2.2
  by_cases q : att = stt
  · rw [q, tcc_in ⟨h0, hn⟩] at h3
    exact absurd hl h3
  · omega
theorem CP_lts {t : Int → Int} {n stt att : Int} (h : wrn (fun j => wle (tcc t n j)) stt att) : ∀ j : Int, stt ≤ j → j < stt + ((att - stt).toNat : Int) → wle (t j) := by
  intro j z1 z2
  have z : wle (tcc t n j) := h.2.1 j z1 (by have := h.1; omega)
  have e := tcc_le z
  rw [e.2] at z
  exact z
/-- the blank was missing -/
theorem CP_bad {t : Int → Int} {n p kd vl stt att : Int} {own : Nat → Int} (h : CP t n p kd vl stt att own) (hb : nbp t p) (hp : p = stt) (hk : 1 ≤ kd ∧ kd ≤ 3) : ∃ k v s e : Int, TK t n p k v s e ∧ CW 5 vl stt att k v s e own := by
  obtain ⟨hw, h⟩ := h
  rcases h with ⟨a1, a2, a3⟩ | ⟨a1, a2, a3⟩ | ⟨a1, a2, a3⟩ | ⟨a1, a2, a3, a4, a5⟩
  · omega
  · rcases a3 with ⟨m, m1, m2, m3⟩ | ⟨m1, m2, m3⟩
    · omega
    · exact ⟨5, 0, stt, att, ⟨hw, Or.inr (Or.inl ⟨a1, a2, att, m1, Or.inl ⟨Or.inl (hp ▸ hb), rfl, rfl, rfl⟩⟩)⟩, rfl, Or.inr (Or.inr (Or.inr (Or.inr ⟨rfl, rfl⟩)))⟩
  · rcases a3 with ⟨m, m1, m2, m3⟩ | ⟨m1, m2, m3⟩
    · omega
    · exact ⟨5, 0, stt, att, ⟨hw, Or.inr (Or.inr (Or.inl ⟨a1, a2, att, m1, Or.inl ⟨Or.inl (hp ▸ hb), rfl, rfl, rfl⟩⟩))⟩, rfl, Or.inr (Or.inr (Or.inr (Or.inr ⟨rfl, rfl⟩)))⟩
  · omega
theorem CP_tok {t : Int → Int} {n p kd vl stt att : Int} {own : Nat → Int} (h : CP t n p kd vl stt att own) (h0 : 0 ≤ p) (hb : ¬ (nbp t p ∧ p = stt ∧ 1 ≤ kd ∧ kd ≤ 3)) : ∃ k v s e : Int, TK t n p k v s e ∧ CW kd vl stt att k v s e own := by
  obtain ⟨hw, h⟩ := h
  have hs0 : 0 ≤ stt := by have := hw.1; omega
  rcases h with ⟨a1, a2, a3⟩ | ⟨a1, a2, a3⟩ | ⟨a1, a2, a3⟩ | ⟨a1, a2, a3, a4, a5, a6⟩
  · exact ⟨0, 0, stt, stt, ⟨hw, Or.inl ⟨a1, rfl, rfl, rfl⟩⟩, rfl, Or.inl ⟨rfl, a2, a3⟩⟩
  · rcases a3 with ⟨m, m1, m2, m3⟩ | ⟨m1, m2, m3⟩
    · exact ⟨5, 0, stt, m, ⟨hw, Or.inr (Or.inl ⟨a1, a2, m, m1, Or.inl ⟨Or.inr m2, rfl, rfl, rfl⟩⟩)⟩, rfl, Or.inr (Or.inr (Or.inr (Or.inr ⟨rfl, m3⟩)))⟩
    · have nb : ¬ nbp t stt := by
        by_cases q : p = stt
        · intro z
          exact hb ⟨q ▸ z, q, by rcases m3 with z | z <;> omega, by rcases m3 with z | z <;> omega⟩
        · exact CP_nb h0 hw a1 q
      have g1 := CP_end hs0 a1 a2 m1
      have hx := pk_N6 (t := t) (s := stt) (m := (att - stt).toNat) (by omega) (by omega) (CP_lts m1)
      rw [show 6 - (att - stt).toNat = (6 - (att - stt)).toNat by omega] at hx
      refine ⟨1, pk8 t stt (att - stt).toNat, stt, att, ⟨hw, Or.inr (Or.inl ⟨a1, a2, att, m1, Or.inr ⟨nb, m2, rfl, rfl, rfl⟩⟩)⟩, rfl, Or.inr (Or.inl ⟨rfl, rfl, _, hx, ?_⟩)⟩
      rcases m3 with ⟨k1, k2, k3, k4⟩ | ⟨k1, k2, k3⟩
      · exact Or.inr ⟨k1, k2, k3, k4⟩
      · exact Or.inl ⟨k1, k2, fun j z1 z2 z3 => k3 j z1 z2 (z3.trans k2.symm)⟩
  · rcases a3 with ⟨m, m1, m2, m3⟩ | ⟨m1, m2, m3, m4⟩
    · exact ⟨5, 0, stt, m, ⟨hw, Or.inr (Or.inr (Or.inl ⟨a1, a2, m, m1, Or.inl ⟨Or.inr m2, rfl, rfl, rfl⟩⟩))⟩, rfl, Or.inr (Or.inr (Or.inr (Or.inr ⟨rfl, m3⟩)))⟩
    · have nb : ¬ nbp t stt := by
        by_cases q : p = stt
        · intro z
          exact hb ⟨q ▸ z, q, by omega, by omega⟩
        · exact CP_nb h0 hw a1 q
      exact ⟨2, pkd t stt (att - stt).toNat, stt, att, ⟨hw, Or.inr (Or.inr (Or.inl ⟨a1, a2, att, m1, Or.inr ⟨nb, m2, rfl, rfl, rfl⟩⟩))⟩, rfl, Or.inr (Or.inr (Or.inl ⟨rfl, m3, m4, rfl⟩))⟩
  · exact ⟨3, t stt, stt, stt + 1, ⟨hw, Or.inr (Or.inr (Or.inr ⟨a1, a2, a3, rfl, rfl, rfl⟩))⟩, rfl, Or.inr (Or.inr (Or.inr (Or.inl ⟨rfl, a4, a5, a6⟩)))⟩
