/-! fields, arrays, switches -/
theorem rx_nar_bool {n : Nat} (h : n ≤ 1) : narrow .boolean (.int (nI n)) = .int (nI n) := by
  rcases (show n = 0 ∨ n = 1 by omega) with rfl | rfl <;> decide
theorem rx_fit_bool {n : Nat} (h : n ≤ 1) : fits .boolean (.int (nI n)) = true := by
  rcases (show n = 0 ∨ n = 1 by omega) with rfl | rfl <;> decide
/-- a field's type is of a kind -/
def rx_kd (q : Nat) (ty : FieldType) : Bool := match ty with
  | .int => Nat.beq q 0
  | .boolean => Nat.beq q 2
  | .long => Nat.beq q 3
  | .object _ => Nat.beq q 4
  | .array _ => Nat.beq q 4
  | _ => false
theorem rx_fits {X : rx_X} {q : Nat} {ty : FieldType} {v : rx_V} (hk : rx_kd q ty = true) (hf : rx_fit q v = true) : narrow ty (rx_d X v) = rx_d X v ∧ fits ty (rx_d X v) = true := by
  have hr : ∀ (o : Option Nat) (C : String), narrow (.object C) (va_rf o) = va_rf o ∧ fits (.object C) (va_rf o) = true := fun o C => by cases o <;> exact ⟨rfl, rfl⟩
  have ha : ∀ (o : Option Nat) (C : FieldType), narrow (.array C) (va_rf o) = va_rf o ∧ fits (.array C) (va_rf o) = true := fun o C => by cases o <;> exact ⟨rfl, rfl⟩
  cases ty <;> first | (cases hk; done) | skip
  · have hq : q = 0 := rx_bq hk
    subst hq
    rcases v with (n | u) | ((n | n) | ((_ | k) | j)) <;> first | (cases hf; done) | exact ⟨rfl, rfl⟩
  · have hq : q = 3 := rx_bq hk
    subst hq
    rcases v with (n | u) | ((n | n) | ((_ | k) | j)) <;> first | (cases hf; done) | exact ⟨rfl, rfl⟩
  · have hq : q = 2 := rx_bq hk
    subst hq
    rcases v with (n | u) | ((n | n) | ((_ | k) | j))
    · have h1 : n ≤ 1 := rx_bl hf
      exact ⟨rx_nar_bool h1, rx_fit_bool h1⟩
    · cases hf
    · cases hf
    · cases hf
    · cases hf
    · cases hf
    · cases hf
  · have hq : q = 4 := rx_bq hk
    subst hq
    rcases v with (n | u) | ((n | n) | ((_ | k) | j)) <;> first | (cases hf; done) | exact ⟨rfl, rfl⟩ | exact hr _ _
  · have hq : q = 4 := rx_bq hk
    subst hq
    rcases v with (n | u) | ((n | n) | ((_ | k) | j)) <;> first | (cases hf; done) | exact ⟨rfl, rfl⟩ | exact ha _ _
theorem rx_lk_put (u : List (Nat × rx_V)) (j : Nat) (v d : rx_V) (i : Nat) : rx_lk ((j, v) :: u.filter (fun q => !Nat.beq q.1 j)) i d = if i = j then v else rx_lk u i d := by
  change cond (Nat.beq j i) v (rx_lk (u.filter (fun q => !Nat.beq q.1 j)) i d) = _
  by_cases e : i = j
  · subst e
    have h2 : Nat.beq i i = true := Nat.beq_refl i
    rw [h2, if_pos rfl]
    rfl
  · rw [(rx_bnf j i).mpr (fun z => e z.symm), if_neg e]
    show rx_lk _ i d = _
    induction u with
    | nil => rfl
    | cons q t ih =>
      cases hq : Nat.beq q.1 j with
      | true =>
        have e1 := rx_bq hq
        rw [List.filter_cons_of_neg (by simp [hq])]
        rw [ih]
        change _ = cond (Nat.beq q.1 i) q.2 (rx_lk t i d)
        rw [e1, (rx_bnf j i).mpr (fun z => e z.symm)]
        rfl
      | false =>
        rw [List.filter_cons_of_pos (by simp [hq])]
        change cond (Nat.beq q.1 i) q.2 (rx_lk (t.filter _) i d) = cond (Nat.beq q.1 i) q.2 (rx_lk t i d)
        rw [ih]
section RXH
variable {p : Program} {l : Launch} {e : Env} {R : Room} {s : State} {m : MethodId} {args : Array Value} {below : List Frame} {meth : Method} {c : Code} {Q : State → Prop} {X : rx_X} {D : va_G} {G : rx_G} {own : String} {bc : ByteArray} {nL pc : Nat} {K : rx_K} {rest cd : List rx_E} {L : rx_L} {S : List rx_V} {w : List rx_C} {cc ss : Nat} {r : rx_R}
theorem rx_q_tsw (C : rx_Cx p s m args c X D G own bc nL) {dflt lo hi : Int} {offs : Array Int} {len a b d : Nat} {t : List Nat} (hd : decode bc pc = .ok (.tableswitch dflt lo hi offs, len)) (hlo : (b : Int) = lo + 2147483648) (hhi : (d : Int) = hi + 2147483648) (ha : (pc : Int) + dflt = (a : Int)) (ht : ∀ (j g : Nat), t[j]? = some g → ∃ off, offs[j]? = some off ∧ (pc : Int) + off = (g : Int)) (hJ : ∀ t : Nat, rx_hS (rx_W p l e R s m args below meth c Q X D G nL) K (rx_find cd t) r t) (h : rx_sw G.1 cd K a b d t L S w cc ss = some r) : rx_W p l e R s m args below meth c Q X D G nL pc L S w cc ss := by
  unfold rx_sw at h
  split at h
  · rename_i x S'
    intro H locs ls hI hl
    have h1 := rx_iv_ok C.2.2.2.2.2.2 x
    have h2 := rx_b_int (rx_N X x)
    cases hc : (Nat.blt (rx_iv G.1 x).2 b || Nat.blt d (rx_iv G.1 x).1) with
    | true =>
      rw [hc] at h
      have ho : (rx_N X x).toInt < lo ∨ hi < (rx_N X x).toInt := by
        rcases Bool.or_eq_true_iff.mp hc with q | q
        · have := rx_bt q; left; omega
        · have := rx_bt q; right; omega
      exact lv_tableOut C.1 C.2.1 hd ho ha (hJ a _ _ _ _ _ h H locs ls hI hl)
    | false =>
      rw [hc] at h
      have hn := Bool.or_eq_false_iff.mp hc
      have hn1 : ¬ (rx_iv G.1 x).2 < b := fun q => by have := Nat.ble_eq_true_of_le (show (rx_iv G.1 x).2 + 1 ≤ b from q); rw [show Nat.blt (rx_iv G.1 x).2 b = true from this] at hn; cases hn.1
      have hn2 : ¬ d < (rx_iv G.1 x).1 := fun q => by have := Nat.ble_eq_true_of_le (show d + 1 ≤ (rx_iv G.1 x).1 from q); rw [show Nat.blt d (rx_iv G.1 x).1 = true from this] at hn; cases hn.2
      obtain ⟨hq, h⟩ := rx_c h
      have hq := rx_bq hq
      obtain ⟨g, g1, h⟩ := rx_at_ok h
      obtain ⟨off, g2, g3⟩ := ht _ _ g1
      refine lv_tableIn (off := off) C.1 C.2.1 hd (by omega) (by omega) ?_ g3 (hJ g _ _ _ _ _ h H locs ls hI hl)
      rw [show ((rx_N X x).toInt - lo).toNat = (rx_iv G.1 x).1 - b by omega]
      exact g2
  · cases h
theorem rx_gf_ok {a b d : Nat} (h : rx_gf K rest a b d L S w cc ss = some r) : (∃ (k : Nat) (S' fs : List rx_V) (v : rx_V), S = .inr (.inr (.inl (some k))) :: S' ∧ d ≤ 1 ∧ w[k]? = some (.inl (a, fs)) ∧ fs[b]? = some v ∧ K rest L (v :: S') w cc ss = some r) ∨ (∃ S' : List rx_V, S = .inr (.inr (.inr 1)) :: S' ∧ ((d = 2 ∧ K rest L (.inr (.inr (.inr 2)) :: S') w cc ss = some r) ∨ (d = 3 ∧ K rest L (.inl (.inl 0) :: S') w cc ss = some r))) := by
  unfold rx_gf at h
  split at h
  · rename_i k S'
    obtain ⟨h0, h⟩ := rx_c h
    obtain ⟨x, h1, h5⟩ := rx_at_ok h
    rcases x with ⟨o1, o2⟩ | o
    · obtain ⟨h2, h6⟩ := rx_c h5
      obtain ⟨v, h3, h7⟩ := rx_at_ok h6
      have h2 : o1 = a := rx_bq h2
      rw [h2] at h1
      exact Or.inl ⟨k, S', o2, v, rfl, rx_bl h0, h1, h3, h7⟩
    · cases h5
  · rename_i k S'
    obtain ⟨h0, h5⟩ := rx_c h
    have h0 := rx_bq h0
    refine Or.inr ⟨S', by rw [h0], ?_⟩
    cases c2 : Nat.beq d 2 with
    | true => rw [c2] at h5; exact Or.inl ⟨rx_bq c2, h5⟩
    | false =>
      rw [c2] at h5
      obtain ⟨h6, h7⟩ := rx_c h5
      exact Or.inr ⟨rx_bq h6, h7⟩
  · cases h
theorem rx_q_getf (C : rx_Cx p s m args c X D G own bc nL) {a b d idx : Nat} {Cn : String} {T : u_T} {N : Nat} (hd : decode bc pc = .ok (.getfield idx, 3)) (hin : ∀ w ∈ u_ws Cn T N, w ∈ rx_words) (hS : rx_hS (rx_W p l e R s m args below meth c Q X D G nL) K rest r (pc + 3))
    (hl0 : d ≤ 1 → vwCl[a]? = some (Cn, T, N) ∧ b < N ∧ ((Cond.fieldLink own idx (T b).1 (T b).2.1 (T b).2.2.1 ∈ rx_words) ∨ (∃ host, Cond.fieldLinkNest own idx (T b).1 (T b).2.1 (T b).2.2.1 host ∈ rx_NW)))
    (hl2 : d = 2 → Cond.fieldLink own idx "java/lang/String" "value" "[B" ∈ rx_words) (hl3 : d = 3 → Cond.fieldLink own idx "java/lang/String" "coder" "B" ∈ rx_words) (h : rx_gf K rest a b d L S w cc ss = some r) : rx_W p l e R s m args below meth c Q X D G nL pc L S w cc ss := by
  obtain ⟨hx, hb, -, hown, hts, ⟨hK, hNW, -, -, ⟨q1, q2, tx, c1, c2, c3, c4, c5, c6, c7⟩, -⟩, -⟩ := id C
  rcases rx_gf_ok h with ⟨k, S', fs, v, rfl, hd1, h1, h2, h⟩ | ⟨S', rfl, ⟨hd2, h⟩ | ⟨hd3, h⟩⟩
  · intro H locs ls hI hl
    obtain ⟨hc, hk, hlk⟩ := hl0 hd1
    have kk := hS _ _ _ _ _ h H locs ls hI hl
    have hv : (fs.map (rx_d X))[b]? = some (rx_d X v) := by rw [List.getElem?_map, h2]; rfl
    rcases hlk with hlk | ⟨host, hlk⟩
    · exact va_get (D := D) (ci := a) (v := rx_d X v) (C := Cn) (T := T) (N := N) hx hb hts hin hown hK hI.1 k (rx_w_get h1) hc b hk (hts _ hlk) (fun _ h9 => h9) hv hd kk
    · exact va_getN (D := D) (ci := a) (v := rx_d X v) (C := Cn) (T := T) (N := N) hx hb hts hin hown hK hI.1 k (rx_w_get h1) hc b hk (va_Nw.use rfl (hNW _ hlk)) (fun _ h9 => h9) hv hd kk
  · intro H locs ls hI hl
    have kk := hS _ _ _ _ _ h H locs ls hI hl
    have e1 : rx_d X (.inr (.inr (.inr 1))) = .ref q1 := by show va_rf _ = _; rw [c1]; rfl
    have e2 : rx_d X (.inr (.inr (.inr 2))) = .ref q2 := by show va_rf _ = _; rw [c2]; rfl
    rw [List.map_cons, e2] at kk
    rw [List.map_cons, e1]
    exact vk_getf hx hb c6 hI.2.2 hown (hts _ (hl2 hd2)) (fun _ h9 => h9) hd kk
  · intro H locs ls hI hl
    have kk := hS _ _ _ _ _ h H locs ls hI hl
    have e1 : rx_d X (.inr (.inr (.inr 1))) = .ref q1 := by show va_rf _ = _; rw [c1]; rfl
    have e2 : rx_d X (.inl (.inl 0)) = .int 0 := rfl
    rw [List.map_cons, e2] at kk
    rw [List.map_cons, e1]
    exact vk_getf hx hb c5 hI.2.2 hown (hts _ (hl3 hd3)) (fun _ h9 => h9) hd kk
theorem rx_q_gets (C : rx_Cx p s m args c X D G own bc nL) {a idx : Nat} (hd : decode bc pc = .ok (.getstatic idx, 3)) (hS : rx_hS (rx_W p l e R s m args below meth c Q X D G nL) K rest r (pc + 3))
    (h0 : a = 0 → Cond.fieldLink own idx "java/lang/String" "COMPACT_STRINGS" "Z" ∈ rx_words) (h1 : a = 1 → Cond.fieldLink own idx "jdk/internal/util/Preconditions" "SIOOBE_FORMATTER" "Ljava/util/function/BiFunction;" ∈ rx_words)
    (h : cond (Nat.beq a 0) (K rest L (.inl (.inl 1) :: S) w cc ss) (cond (Nat.beq a 1) (K rest L (.inr (.inr (.inr 3)) :: S) w cc ss) none) = some r) : rx_W p l e R s m args below meth c Q X D G nL pc L S w cc ss := by
  obtain ⟨hx, hb, -, hown, hts, ⟨-, -, -, -, -, hZ1, hZ2, -⟩, -⟩ := id C
  intro H locs ls hI hl
  cases ha : Nat.beq a 0 with
  | true =>
    rw [ha] at h
    exact va_gets hx hb hZ1 hI.2.2 hown (hts _ (h0 (rx_bq ha))) (fun _ h9 => h9) hd (hS _ _ _ _ _ h H locs ls hI hl)
  | false =>
    rw [ha] at h
    obtain ⟨ha1, h⟩ := rx_c h
    exact va_gets hx hb hZ2 hI.2.2 hown (hts _ (h1 (rx_bq ha1))) (fun _ h9 => h9) hd (hS _ _ _ _ _ h H locs ls hI hl)
theorem rx_set_lt {α β : Type} : ∀ (l : List α) (b : Nat) (v : α) (k : List α → Option β) (r : β), rx_set l b v k = some r → b < l.length := by
  intro l
  induction l with
  | nil => intro b v k r h; cases h
  | cons x t ih =>
    intro b v k r h
    cases b with
    | zero => simp
    | succ b => have := ih b v _ r h; simpa using this
theorem rx_pf_ok {a b d : Nat} (h : rx_pf K rest a b d L S w cc ss = some r) : ∃ (k : Nat) (v : rx_V) (S' fs : List rx_V), S = v :: .inr (.inr (.inl (some k))) :: S' ∧ rx_fit d v = true ∧ w[k]? = some (.inl (a, fs)) ∧ b < fs.length ∧ K rest L S' (w.set k (.inl (a, fs.set b v))) cc ss = some r := by
  unfold rx_pf at h
  split at h
  · rename_i v k S'
    obtain ⟨h0, h4⟩ := rx_c h
    obtain ⟨x, h1, h5⟩ := rx_at_ok h4
    rcases x with ⟨o1, o2⟩ | o
    · obtain ⟨h2, h6⟩ := rx_c h5
      have hlt := rx_set_lt _ _ _ _ _ h6
      have h7 := rx_set_ok (rx_set_ok h6)
      have h2 : o1 = a := rx_bq h2
      rw [h2] at h1 h7
      exact ⟨k, v, S', o2, rfl, h0, h1, hlt, h7⟩
    · cases h5
  · cases h
theorem rx_Iv_set {k : Nat} {c1 : rx_C} {H H1 : Heap} {locs locs1 : List Loc} (hI : rx_Iv X D G s w cc H locs) (hP : va_P D vwCl ((rx_w X 0 w).set k (X.2.1 + k, rx_ce X c1)) H1) (hV : va_S (rx_A X) s.heap H1 locs1) : rx_Iv X D G s (w.set k c1) cc H1 locs1 := by
  refine ⟨by rw [← rx_w_set0]; exact hP, fun q => ?_, hV⟩
  rw [List.length_set]
  exact hI.2.1 q
theorem rx_q_putf (C : rx_Cx p s m args c X D G own bc nL) {a b d idx : Nat} {Cn : String} {T : u_T} {N : Nat} {ty0 : Nat → FieldType} (hd : decode bc pc = .ok (.putfield idx, 3)) (hin : ∀ w ∈ u_ws Cn T N, w ∈ rx_words) (hty : ∀ k, k < N → parseFieldDescriptor (T k).2.2.1 = some (ty0 k)) (hnm : ∀ a, a < N → ∀ b, b < N → a ≠ b → (T a).2.1 ≠ (T b).2.1) (hS : rx_hS (rx_W p l e R s m args below meth c Q X D G nL) K rest r (pc + 3))
    (hc : vwCl[a]? = some (Cn, T, N)) (hk : b < N) (hlk : Cond.fieldLink own idx (T b).1 (T b).2.1 (T b).2.2.1 ∈ rx_words) (hkd : rx_kd d (ty0 b) = true) (hfin : (T b).2.2.2 = true → (T b).1 = own ∧ meth.name = "<init>") (h : rx_pf K rest a b d L S w cc ss = some r) : rx_W p l e R s m args below meth c Q X D G nL pc L S w cc ss := by
  obtain ⟨hx, hb, -, hown, hts, ⟨hK, -⟩, -⟩ := id C
  obtain ⟨k, v, S', fs, rfl, h0, h1, hlt, h⟩ := rx_pf_ok h
  intro H locs ls hI hl
  obtain ⟨f1, f2⟩ := rx_fits (X := X) hkd h0
  have e2 : (fs.map (rx_d X)).set b (rx_d X v) = (fs.set b v).map (rx_d X) := (List.map_set).symm
  have hlt' : b < (fs.map (rx_d X)).length := by rw [List.length_map]; exact hlt
  have kk : ∀ (H1 : Heap) (locs1 : List Loc), va_P D vwCl ((rx_w X 0 w).set k (X.2.1 + k, .inr (a, (fs.map (rx_d X)).set b (rx_d X v)))) H1 → va_D (rx_A X) ((rx_w X 0 w).set k (X.2.1 + k, .inr (a, (fs.map (rx_d X)).set b (rx_d X v)))) → va_S (rx_A X) s.heap H1 locs1 → W p l e R s m args below meth c H1 locs1 cc ss Q (F0 m (pc + 3) ls (S'.map (rx_d X))) := by
    intro H1 locs1 hP1 _ hV1
    rw [e2] at hP1
    exact hS _ _ _ _ _ h H1 locs1 ls (rx_Iv_set (c1 := .inl (a, fs.set b v)) hI hP1 hV1) hl
  cases hf : (T b).2.2.2 with
  | false => exact va_put (D := D) (ci := a) (v := rx_d X v) (ty := ty0 b) (C := Cn) (T := T) (N := N) hx hb hts hin ty0 hty hnm hown hK hI.1 (rx_w_D X w) hI.2.2 k (rx_w_get h1) hc b hk (hts _ hlk) (fun _ h9 => h9) hf (hty b hk) f1 f2 hlt' hd kk
  | true =>
    obtain ⟨g1, g2⟩ := hfin hf
    exact va_putF (D := D) (ci := a) (v := rx_d X v) (ty := ty0 b) (C := Cn) (T := T) (N := N) hx hb hts hin ty0 hty hnm hown hK hI.1 (rx_w_D X w) hI.2.2 k (rx_w_get h1) hc b hk (hts _ hlk) (fun _ h9 => h9) hf g2 g1 (hty b hk) f1 f2 hlt' hd kk
-- arrays
theorem rx_al_ok {q : Nat} {sl : Nat} {txt : List Nat} {F : rx_F} (h : rx_al F sl txt q K rest L S w cc ss = some r) : (∃ (j k t n : Nat) (u : List (Nat × rx_V)) (S' : List rx_V), S = .inl (.inl j) :: .inr (.inr (.inl (some k))) :: S' ∧ w[k]? = some (.inr (t, n, u)) ∧ j < n ∧ n < 2147483648 ∧ (t = q ∨ (q = 1 ∧ t = 2)) ∧ rx_isK q (rx_lk u j (rx_df t)) = true ∧ K rest L (rx_lk u j (rx_df t) :: S') w cc ss = some r) ∨ (∃ (j : Nat) (S' : List rx_V), S = .inl (.inl j) :: .inr (.inr (.inr 0)) :: S' ∧ j + 1 < sl ∧ sl < 2147483648 ∧ q = 0 ∧ K rest L (.inl (rx_nm F (j, [])) :: S') w cc ss = some r) ∨ (∃ (j z : Nat) (S' : List rx_V), S = .inl (.inl j) :: .inr (.inr (.inr 2)) :: S' ∧ q = 1 ∧ txt[j]? = some z ∧ K rest L (.inl (.inl z) :: S') w cc ss = some r) := by
  unfold rx_al at h
  split at h
  · rename_i j k S'
    obtain ⟨x, h1, h5⟩ := rx_at_ok h
    rcases x with o | ⟨t, n, u⟩
    · cases h5
    · obtain ⟨h2, h6⟩ := rx_c h5
      obtain ⟨h7, h8⟩ := rx_c h6
      obtain ⟨g1, h2⟩ := rx_an h2
      obtain ⟨g2, g3⟩ := rx_an h2
      refine Or.inl ⟨j, k, t, n, u, S', rfl, h1, rx_bt g1, rx_bt g2, ?_, h7, h8⟩
      rcases Bool.or_eq_true_iff.mp g3 with z | z
      · exact Or.inl (rx_bq z)
      · exact Or.inr ⟨rx_bq (rx_an z).1, rx_bq (rx_an z).2⟩
  · rename_i j k S'
    cases c0 : Nat.beq k 0 with
    | true =>
      rw [c0] at h
      obtain ⟨h2, h6⟩ := rx_c h
      obtain ⟨g1, h2⟩ := rx_an h2
      obtain ⟨g2, g3⟩ := rx_an h2
      have e0 := rx_bq c0
      exact Or.inr (Or.inl ⟨j, S', by rw [e0], rx_bt g1, rx_bt g2, rx_bq g3, h6⟩)
    | false =>
      rw [c0] at h
      obtain ⟨h2, h6⟩ := rx_c h
      obtain ⟨g1, g2⟩ := rx_an h2
      obtain ⟨z, h7, h8⟩ := rx_at_ok h6
      have e0 := rx_bq g1
      exact Or.inr (Or.inr ⟨j, z, S', by rw [e0], rx_bq g2, h7, h8⟩)
  · cases h
theorem rx_vi_d {X : rx_X} {v : rx_V} {q : Nat} (hq : q = 0 ∨ q = 1) (h : rx_isK q v = true) : rx_d X v = .int (rx_vi X v) := by
  rcases v with i | (n | (_ | j))
  · rfl
  · rcases hq with rfl | rfl <;> cases h
  · rcases hq with rfl | rfl <;> cases h
  · cases h
theorem rx_vl_d {X : rx_X} {v : rx_V} (h : rx_isK 3 v = true) : rx_d X v = .long (rx_vl X v) := by
  rcases v with i | ((n | n) | (_ | j))
  · cases h
  · rfl
  · rfl
  · cases h
  · cases h
theorem rx_vr_d {X : rx_X} {v : rx_V} (h : rx_isK 4 v = true) : rx_d X v = va_rf (rx_vr X v) := by
  rcases v with i | (n | ((_ | k) | j))
  · cases h
  · cases h
  · rfl
  · rfl
  · cases h
theorem rx_q_ald (C : rx_Cx p s m args c X D G own bc nL) {q : Nat} (hd : (q = 0 ∧ decode bc pc = .ok (.iaload, 1)) ∨ (q = 1 ∧ decode bc pc = .ok (.baload, 1)) ∨ (q = 3 ∧ decode bc pc = .ok (.laload, 1)) ∨ (q = 4 ∧ decode bc pc = .ok (.aaload, 1))) (htx : G.2.2.2.1.length = G.2.2.2.2.1 ∧ G.2.2.2.2.1 < 2147483648) (hS : rx_hS (rx_W p l e R s m args below meth c Q X D G nL) K rest r (pc + 1)) (h : rx_al G.1 G.2.2.1 G.2.2.2.1 q K rest L S w cc ss = some r) : rx_W p l e R s m args below meth c Q X D G nL pc L S w cc ss := by
  obtain ⟨hx, hb, -, hown, hts, ⟨hK, -, -, ⟨b, b1, b2, b3⟩, ⟨q1, q2, tx, c1, c2, c3, c4, c5, c6, c7⟩, -, -, h00⟩, hF⟩ := id C
  intro H locs ls hI hl
  rcases rx_al_ok h with ⟨j, k, t, n, u, S', rfl, h1, hj, hn, ht, hk, h⟩ | ⟨j, S', rfl, hj, hn, hq, h5⟩ | ⟨j, z, S', rfl, hq, hz, h5⟩
  · have kk := hS _ _ _ _ _ h H locs ls hI hl
    have hw := rx_w_get (X := X) h1
    have hi : vp_in (nI j) n := vp_in_nI hj hn
    have hcl : (nI j).toNatClampNeg = j := nI_clamp (by omega)
    rw [List.map_cons] at kk
    rcases hd with ⟨rfl, hd⟩ | ⟨rfl, hd⟩ | ⟨rfl, hd⟩ | ⟨rfl, hd⟩
    · have e1 : t = 0 := by omega
      subst e1
      rw [rx_vi_d (Or.inl rfl) hk] at kk
      refine va_iald (f := fun j => rx_vi X (rx_lk u j (rx_df 0))) hx hb hK hI.1 k 0 hw rfl hi hd ?_
      show W p l e R s m args below meth c H locs cc ss Q (F0 m (pc + 1) ls (.int (rx_vi X (rx_lk u (nI j).toNatClampNeg (rx_df 0))) :: S'.map (rx_d X)))
      rw [hcl]; exact kk
    · rw [rx_vi_d (Or.inr rfl) hk] at kk
      rcases (show t = 1 ∨ t = 2 by omega) with rfl | rfl
      · refine va_bald (f := fun j => rx_vi X (rx_lk u j (rx_df 0))) hx hb hK hI.1 k 1 hw rfl hi hd ?_
        show W p l e R s m args below meth c H locs cc ss Q (F0 m (pc + 1) ls (.int (rx_vi X (rx_lk u (nI j).toNatClampNeg (rx_df 0))) :: S'.map (rx_d X)))
        rw [hcl]; exact kk
      · refine va_zald (f := fun j => rx_vi X (rx_lk u j (rx_df 0))) hx hb hK hI.1 k 2 hw rfl hi hd ?_
        show W p l e R s m args below meth c H locs cc ss Q (F0 m (pc + 1) ls (.int (rx_vi X (rx_lk u (nI j).toNatClampNeg (rx_df 0))) :: S'.map (rx_d X)))
        rw [hcl]; exact kk
    · have e1 : t = 3 := by omega
      subst e1
      rw [rx_vl_d hk] at kk
      refine va_lald (f := fun j => rx_vl X (rx_lk u j (rx_df 3))) hx hb hK hI.1 k 3 hw rfl hi hd ?_
      show W p l e R s m args below meth c H locs cc ss Q (F0 m (pc + 1) ls (.long (rx_vl X (rx_lk u (nI j).toNatClampNeg (rx_df 3))) :: S'.map (rx_d X)))
      rw [hcl]; exact kk
    · have e1 : t = 4 := by omega
      subst e1
      rw [rx_vr_d hk] at kk
      refine va_aldq (f := fun j => rx_vr X (rx_lk u j (rx_df 4))) hx hb hK hI.1 k 4 hw rfl hi hd ?_
      show W p l e R s m args below meth c H locs cc ss Q (F0 m (pc + 1) ls (va_rf (rx_vr X (rx_lk u (nI j).toNatClampNeg (rx_df 4))) :: S'.map (rx_d X)))
      rw [hcl]; exact kk
  · subst hq
    have kk := hS _ _ _ _ _ h5 H locs ls hI hl
    have hd0 : decode bc pc = .ok (.iaload, 1) := by
      rcases hd with ⟨-, hd⟩ | ⟨q, -⟩ | ⟨q, -⟩ | ⟨q, -⟩
      · exact hd
      · cases q
      · cases q
      · cases q
    have e1 : rx_d X (.inr (.inr (.inr 0))) = .ref b := by show va_rf _ = _; rw [b1]; rfl
    have e2 : rx_d X (.inl (rx_nm G.1 (j, []))) = .int (X.1 j) := by
      show Value.int (rx_N X _) = _
      rw [rx_nm_ok hF]; rfl
    rw [List.map_cons, e2] at kk
    rw [List.map_cons, List.map_cons, e1]
    refine va_sld (L := G.2.2.1 - 1) hx hb (b2 (by omega)) (by omega) (Nat.not_le.mpr b3) hI.2.2 (i := nI j) (vp_in_nI (by omega) (by omega)) hd0 ?_
    rw [nI_clamp (n := j) (by omega)]
    exact kk
  · subst hq
    have kk := hS _ _ _ _ _ h5 H locs ls hI hl
    have hd0 : decode bc pc = .ok (.baload, 1) := by
      rcases hd with ⟨q, -⟩ | ⟨-, hd⟩ | ⟨q, -⟩ | ⟨q, -⟩
      · cases q
      · exact hd
      · cases q
      · cases q
    have hj : j < G.2.2.2.2.1 := by rw [← htx.1]; exact (List.getElem?_eq_some_iff.mp hz).1
    have e1 : rx_d X (.inr (.inr (.inr 2))) = .ref q2 := by show va_rf _ = _; rw [c2]; rfl
    rw [List.map_cons, List.map_cons, e1]
    refine va_tb (v := .int (nI z)) hx hb c7 hI.2.2 (i := nI j) (vp_in_nI hj htx.2) ?_ hd0 kk
    rw [nI_clamp (n := j) (by have := htx.2; omega)]
    show Value.int (nI (G.2.2.2.1.getD j 0)) = _
    rw [List.getD_eq_getElem?_getD, hz]; rfl
end RXH
