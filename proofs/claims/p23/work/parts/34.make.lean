/-! stores, lengths, new cells, copies -/
theorem rx_vi_put (X : rx_X) (u : List (Nat × rx_V)) (j : Nat) (v d : rx_V) : (fun i => rx_vi X (rx_lk ((j, v) :: u.filter (fun q => !Nat.beq q.1 j)) i d)) = upd (fun i => rx_vi X (rx_lk u i d)) j (rx_vi X v) := by
  funext i
  rw [rx_lk_put]
  unfold upd
  split <;> rfl
theorem rx_vl_put (X : rx_X) (u : List (Nat × rx_V)) (j : Nat) (v d : rx_V) : (fun i => rx_vl X (rx_lk ((j, v) :: u.filter (fun q => !Nat.beq q.1 j)) i d)) = vp_updL (fun i => rx_vl X (rx_lk u i d)) j (rx_vl X v) := by
  funext i
  rw [rx_lk_put]
  unfold vp_updL
  split <;> rfl
theorem rx_vr_put (X : rx_X) (u : List (Nat × rx_V)) (j : Nat) (v d : rx_V) : (fun i => rx_vr X (rx_lk ((j, v) :: u.filter (fun q => !Nat.beq q.1 j)) i d)) = va_up (fun i => rx_vr X (rx_lk u i d)) j (rx_vr X v) := by
  funext i
  rw [rx_lk_put]
  unfold va_up
  split <;> rfl
section RXM
variable {p : Program} {l : Launch} {e : Env} {R : Room} {s : State} {m : MethodId} {args : Array Value} {below : List Frame} {meth : Method} {c : Code} {Q : State → Prop} {X : rx_X} {D : va_G} {G : rx_G} {own : String} {bc : ByteArray} {nL pc : Nat} {K : rx_K} {rest cd : List rx_E} {L : rx_L} {S : List rx_V} {w : List rx_C} {cc ss : Nat} {r : rx_R}
theorem rx_as_ok {q : Nat} (h : rx_as q K rest L S w cc ss = some r) : ∃ (v : rx_V) (j k t n : Nat) (u : List (Nat × rx_V)) (S' : List rx_V), S = v :: .inl (.inl j) :: .inr (.inr (.inl (some k))) :: S' ∧ w[k]? = some (.inr (t, n, u)) ∧ j < n ∧ n < 2147483648 ∧ (t = q ∨ (q = 1 ∧ t = 2)) ∧ rx_fit (cond (Nat.beq t 1) 0 t) v = true ∧ K rest L S' (w.set k (.inr (t, n, (j, rx_nar t v) :: u.filter (fun i => !Nat.beq i.1 j)))) cc ss = some r := by
  unfold rx_as at h
  split at h
  · rename_i v j k S'
    obtain ⟨x, h1, h5⟩ := rx_at_ok h
    rcases x with o | ⟨t, n, u⟩
    · cases h5
    · obtain ⟨h2, h6⟩ := rx_c h5
      rw [rx_rem_eq] at h6
      have h7 := rx_set_ok h6
      obtain ⟨g1, h2⟩ := rx_an h2
      obtain ⟨g2, h2⟩ := rx_an h2
      obtain ⟨g3, g4⟩ := rx_an h2
      refine ⟨v, j, k, t, n, u, S', rfl, h1, rx_bt g1, rx_bt g2, ?_, g4, h7⟩
      rcases Bool.or_eq_true_iff.mp g3 with z | z
      · exact Or.inl (rx_bq z)
      · exact Or.inr ⟨rx_bq (rx_an z).1, rx_bq (rx_an z).2⟩
  · cases h
theorem rx_q_iast (C : rx_Cx p s m args c X D G own bc nL) (hd : decode bc pc = .ok (.iastore, 1)) (hS : rx_hS (rx_W p l e R s m args below meth c Q X D G nL) K rest r (pc + 1)) (h : rx_as 0 K rest L S w cc ss = some r) : rx_W p l e R s m args below meth c Q X D G nL pc L S w cc ss := by
  obtain ⟨hx, hb, -, hown, hts, ⟨hK, -⟩, -⟩ := id C
  obtain ⟨v, j, k, t, n, u, S', rfl, h1, hj, hn, ht, hf, h⟩ := rx_as_ok h
  have e1 : t = 0 := by omega
  subst e1
  intro H locs ls hI hl
  rcases v with i | v
  · refine va_iast (f := fun i => rx_vi X (rx_lk u i (rx_df 0))) (x := rx_N X i) hx hb hK hI.1 (rx_w_D X w) hI.2.2 k 0 (rx_w_get (X := X) h1) rfl (vp_in_nI hj hn) hd (fun H1 locs1 hP1 _ hV1 => ?_)
    rw [show (rx_N X (.inl j)) = nI j from rfl, nI_clamp (n := j) (by omega)] at hP1
    refine hS _ _ _ _ _ h H1 locs1 ls (rx_Iv_set (c1 := .inr (0, n, (j, rx_nar 0 (.inl i)) :: u.filter (fun i => !Nat.beq i.1 j))) hI ?_ hV1) hl
    have e2 := rx_vi_put X u j (.inl i) (rx_df 0)
    show va_P D vwCl ((rx_w X 0 w).set k (X.2.1 + k, .inl (X.2.2.2 0, n, .inl (fun i' => rx_vi X (rx_lk ((j, .inl i) :: u.filter (fun q => !Nat.beq q.1 j)) i' (rx_df 0)))))) H1
    rw [e2]; exact hP1
  · rcases v with n | (_ | j) <;> cases hf
theorem rx_q_last (C : rx_Cx p s m args c X D G own bc nL) (hd : decode bc pc = .ok (.lastore, 1)) (hS : rx_hS (rx_W p l e R s m args below meth c Q X D G nL) K rest r (pc + 1)) (h : rx_as 3 K rest L S w cc ss = some r) : rx_W p l e R s m args below meth c Q X D G nL pc L S w cc ss := by
  obtain ⟨hx, hb, -, hown, hts, ⟨hK, -⟩, -⟩ := id C
  obtain ⟨v, j, k, t, n, u, S', rfl, h1, hj, hn, ht, hf, h⟩ := rx_as_ok h
  have e1 : t = 3 := by omega
  subst e1
  intro H locs ls hI hl
  have hv : rx_d X v = .long (rx_vl X v) := by
    rcases v with (i | i) | ((n | n) | (_ | j)) <;> first | rfl | (cases hf; done)
  rw [List.map_cons, hv]
  refine va_last (f := fun i => rx_vl X (rx_lk u i (rx_df 3))) (x := rx_vl X v) hx hb hK hI.1 (rx_w_D X w) hI.2.2 k 3 (rx_w_get (X := X) h1) rfl (vp_in_nI hj hn) hd (fun H1 locs1 hP1 _ hV1 => ?_)
  rw [show (rx_N X (.inl j)) = nI j from rfl, nI_clamp (n := j) (by omega)] at hP1
  refine hS _ _ _ _ _ h H1 locs1 ls (rx_Iv_set (c1 := .inr (3, n, (j, rx_nar 3 v) :: u.filter (fun i => !Nat.beq i.1 j))) hI ?_ hV1) hl
  have e2 := rx_vl_put X u j v (rx_df 3)
  show va_P D vwCl ((rx_w X 0 w).set k (X.2.1 + k, .inl (X.2.2.2 3, n, .inr (.inl (fun i' => rx_vl X (rx_lk ((j, v) :: u.filter (fun q => !Nat.beq q.1 j)) i' (rx_df 3))))))) H1
  rw [e2]; exact hP1
theorem rx_nar_z {n : Nat} (h : n ≤ 1) : vp_nar .boolean (nI n) = nI n := by
  rcases (show n = 0 ∨ n = 1 by omega) with rfl | rfl <;> decide
theorem rx_q_bast (C : rx_Cx p s m args c X D G own bc nL) (hd : decode bc pc = .ok (.bastore, 1)) (hS : rx_hS (rx_W p l e R s m args below meth c Q X D G nL) K rest r (pc + 1)) (h : rx_as 1 K rest L S w cc ss = some r) : rx_W p l e R s m args below meth c Q X D G nL pc L S w cc ss := by
  obtain ⟨hx, hb, -, hown, hts, ⟨hK, -⟩, -⟩ := id C
  obtain ⟨v, j, k, t, n, u, S', rfl, h1, hj, hn, ht, hf, h⟩ := rx_as_ok h
  intro H locs ls hI hl
  rcases (show t = 1 ∨ t = 2 by omega) with rfl | rfl
  · rcases v with i | v
    · refine va_bast (f := fun i => rx_vi X (rx_lk u i (rx_df 0))) (x := rx_N X i) hx hb hK hI.1 (rx_w_D X w) hI.2.2 k 1 (rx_w_get (X := X) h1) rfl (vp_in_nI hj hn) hd (fun H1 locs1 hP1 _ hV1 => ?_)
      rw [show (rx_N X (.inl j)) = nI j from rfl, nI_clamp (n := j) (by omega)] at hP1
      refine hS _ _ _ _ _ h H1 locs1 ls (rx_Iv_set (c1 := .inr (1, n, (j, rx_nar 1 (.inl i)) :: u.filter (fun i => !Nat.beq i.1 j))) hI ?_ hV1) hl
      have e2 := rx_vi_put X u j (rx_nar 1 (.inl i)) (rx_df 0)
      show va_P D vwCl ((rx_w X 0 w).set k (X.2.1 + k, .inl (X.2.2.2 1, n, .inl (fun i' => rx_vi X (rx_lk ((j, rx_nar 1 (.inl i)) :: u.filter (fun q => !Nat.beq q.1 j)) i' (rx_df 0)))))) H1
      rw [e2]
      have e3 : rx_vi X (rx_nar 1 (.inl i)) = vp_nar .byte (rx_N X i) := by
        rw [vp_nar_byte]
        rcases i with x | y
        · exact rx_i2b x
        · rfl
      rw [e3]; exact hP1
    · rcases v with n | (_ | j) <;> cases hf
  · rcases v with (i | i) | v
    · have hi : i ≤ 1 := rx_bl hf
      refine va_zast (f := fun i => rx_vi X (rx_lk u i (rx_df 0))) (x := nI i) hx hb hK hI.1 (rx_w_D X w) hI.2.2 k 2 (rx_w_get (X := X) h1) rfl (vp_in_nI hj hn) hd (fun H1 locs1 hP1 _ hV1 => ?_)
      rw [show (rx_N X (.inl j)) = nI j from rfl, nI_clamp (n := j) (by omega), rx_nar_z hi] at hP1
      refine hS _ _ _ _ _ h H1 locs1 ls (rx_Iv_set (c1 := .inr (2, n, (j, rx_nar 2 (.inl (.inl i))) :: u.filter (fun i => !Nat.beq i.1 j))) hI ?_ hV1) hl
      have e2 := rx_vi_put X u j (.inl (.inl i)) (rx_df 0)
      show va_P D vwCl ((rx_w X 0 w).set k (X.2.1 + k, .inl (X.2.2.2 2, n, .inl (fun i' => rx_vi X (rx_lk ((j, .inl (.inl i)) :: u.filter (fun q => !Nat.beq q.1 j)) i' (rx_df 0)))))) H1
      rw [e2]; exact hP1
    · cases hf
    · rcases v with n | (_ | j) <;> cases hf
theorem rx_q_aast (C : rx_Cx p s m args c X D G own bc nL) {a : Nat} (ha : ∃ T N, vwCl[a]? = some ("GreyRoute$State", T, N)) (hd : decode bc pc = .ok (.aastore, 1)) (hS : rx_hS (rx_W p l e R s m args below meth c Q X D G nL) K rest r (pc + 1)) (h : rx_aq a K rest L S w cc ss = some r) : rx_W p l e R s m args below meth c Q X D G nL pc L S w cc ss := by
  obtain ⟨hx, hb, -, hown, hts, ⟨hK, -⟩, -⟩ := id C
  obtain ⟨T, N, ha⟩ := ha
  unfold rx_aq at h
  split at h
  · rename_i y S0
    obtain ⟨x, g1, h5⟩ := rx_at_ok h
    rcases x with ⟨o1, o2⟩ | o
    · obtain ⟨g2, h6⟩ := rx_c h5
      have g2 : o1 = a := rx_bq g2
      rw [g2] at g1
      obtain ⟨v, j, k, t, n, u, S', e0, h1, hj, hn, ht, hf, h7⟩ := rx_as_ok h6
      have e1 : t = 4 := by omega
      subst e1
      obtain ⟨rfl, rfl⟩ := List.cons.inj e0
      intro H locs ls hI hl
      refine va_astq (r := ("GreyRoute$State", T, N)) (f := fun i => rx_vr X (rx_lk u i (rx_df 4))) hx hb hK hI.1 (rx_w_D X w) hI.2.2 k 4 y a (rx_w_get (X := X) h1) rfl (rx_w_get (X := X) g1) ha (vp_in_nI hj hn) hd (fun H1 locs1 hP1 _ hV1 => ?_)
      rw [show (rx_N X (.inl j)) = nI j from rfl, nI_clamp (n := j) (by omega)] at hP1
      refine hS _ _ _ _ _ h7 H1 locs1 ls (rx_Iv_set (c1 := .inr (4, n, (j, rx_nar 4 (.inr (.inr (.inl (some y))))) :: u.filter (fun i => !Nat.beq i.1 j))) hI ?_ hV1) hl
      have e2 := rx_vr_put X u j (.inr (.inr (.inl (some y)))) (rx_df 4)
      show va_P D vwCl ((rx_w X 0 w).set k (X.2.1 + k, .inl (X.2.2.2 4, n, .inr (.inr (.inr (.inr (fun i' => rx_vr X (rx_lk ((j, .inr (.inr (.inl (some y)))) :: u.filter (fun q => !Nat.beq q.1 j)) i' (rx_df 4))))))))) H1
      rw [e2]; exact hP1
    · cases h5
  · cases h
theorem rx_q_len (C : rx_Cx p s m args c X D G own bc nL) (hd : decode bc pc = .ok (.arraylength, 1)) (hS : rx_hS (rx_W p l e R s m args below meth c Q X D G nL) K rest r (pc + 1)) (h : rx_len G.2.2.1 G.2.2.2.2.1 K rest L S w cc ss = some r) : rx_W p l e R s m args below meth c Q X D G nL pc L S w cc ss := by
  obtain ⟨hx, hb, -, hown, hts, ⟨hK, -, -, ⟨b, b1, b2, b3⟩, ⟨q1, q2, tx, c1, c2, c3, c4, c5, c6, c7⟩, -, -, h00⟩, hF⟩ := id C
  unfold rx_len at h
  split at h
  · rename_i k S'
    obtain ⟨x, g1, h5⟩ := rx_at_ok h
    rcases x with o | ⟨t, n, u⟩
    · cases h5
    · obtain ⟨ht, h6⟩ := rx_c h5
      intro H locs ls hI hl
      have kk := hS _ _ _ _ _ h6 H locs ls hI hl
      have ht := rx_bt ht
      have hw := rx_w_get (X := X) g1
      rcases (show t = 0 ∨ t = 1 ∨ t = 2 ∨ t = 3 ∨ t = 4 by omega) with rfl | rfl | rfl | rfl | rfl
      · exact va_alen (v := nI n) hx hb hK hI.1 k 0 hw rfl rfl hd kk
      · exact va_alen (v := nI n) hx hb hK hI.1 k 1 hw rfl rfl hd kk
      · exact va_alen (v := nI n) hx hb hK hI.1 k 2 hw rfl rfl hd kk
      · exact va_alen (v := nI n) hx hb hK hI.1 k 3 hw rfl rfl hd kk
      · exact va_alen (v := nI n) hx hb hK hI.1 k 4 hw rfl rfl hd kk
  · rename_i k S'
    intro H locs ls hI hl
    cases c0 : Nat.beq k 0 with
    | true =>
      rw [c0] at h
      have e0 := rx_bq c0
      subst e0
      rw [cond_true] at h
      obtain ⟨gz, h5⟩ := rx_c h
      have gz := rx_bt gz
      have kk := hS _ _ _ _ _ h5 H locs ls hI hl
      have e1 : rx_d X (.inr (.inr (.inr 0))) = .ref b := by show va_rf _ = _; rw [b1]; rfl
      rw [List.map_cons, e1]
      exact va_slen (L := G.2.2.1 - 1) hx hb (b2 gz) (by omega) (Nat.not_le.mpr b3) hI.2.2 hd kk
    | false =>
      rw [c0] at h
      obtain ⟨g0, h5⟩ := rx_c h
      have e0 := rx_bq g0
      subst e0
      have kk := hS _ _ _ _ _ h5 H locs ls hI hl
      have e1 : rx_d X (.inr (.inr (.inr 2))) = .ref q2 := by show va_rf _ = _; rw [c2]; rfl
      rw [List.map_cons, e1]
      exact va_tlen (v := nI G.2.2.2.2.1) hx hb c7 hI.2.2 rfl hd kk
  · cases h
end RXM
