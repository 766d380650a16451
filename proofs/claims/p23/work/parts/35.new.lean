/-! new cells, copies, Object's constructor -/
theorem rx_lk_cpl (u : List (Nat × rx_V)) (sp dp : Nat) (tl : List (Nat × rx_V)) (d : rx_V) (i : Nat) : ∀ n : Nat, rx_lk (rx_cpl u sp dp tl n) i d = if dp ≤ i ∧ i < dp + n then rx_lk u (sp + (i - dp)) (.inl (.inl 0)) else rx_lk tl i d := by
  intro n
  induction n with
  | zero =>
    rw [if_neg (by omega)]
    rfl
  | succ n ih =>
    change cond (Nat.beq (dp + n) i) (rx_lk u (sp + n) (.inl (.inl 0))) (rx_lk (rx_cpl u sp dp tl n) i d) = _
    by_cases e : dp + n = i
    · subst e
      have h2 : Nat.beq (dp + n) (dp + n) = true := Nat.beq_refl _
      rw [h2, if_pos (by omega), show sp + (dp + n - dp) = sp + n by omega]
      rfl
    · rw [(rx_bnf _ _).mpr e]
      show rx_lk (rx_cpl u sp dp tl n) i d = _
      rw [ih]
      by_cases h : dp ≤ i ∧ i < dp + n
      · rw [if_pos h, if_pos (by omega)]
      · rw [if_neg h, if_neg (by omega)]
theorem rx_cats_eq (X : rx_X) (S : List rx_V) : ((S.map (rx_d X)).map fun v => v.category).sum = rx_cats S := by
  induction S with
  | nil => rfl
  | cons v t ih =>
    simp only [List.map_cons, List.sum_cons, ih, rx_cat_d]
    rfl
section RXN
variable {p : Program} {l : Launch} {e : Env} {R : Room} {s : State} {m : MethodId} {args : Array Value} {below : List Frame} {meth : Method} {c : Code} {Q : State → Prop} {X : rx_X} {D : va_G} {G : rx_G} {own : String} {bc : ByteArray} {nL pc : Nat} {K : rx_K} {rest cd : List rx_E} {L : rx_L} {S : List rx_V} {w : List rx_C} {cc ss : Nat} {r : rx_R}
/-- one cell more -/
theorem rx_push {H H' : Heap} {locs : List Loc} {c1 : rx_C} (hI : rx_Iv X D G s w cc H locs) (hz : H.size = X.2.1 + w.length) (hz' : H'.size = H.size + 1) (ho : ∀ q, q < H.size → H'[q]? = H[q]?) (ha : va_at D vwCl (X.2.1 + w.length, rx_ce X c1) H') : rx_Iv X D G s (w ++ [c1]) (cc + 1) H' locs := by
  obtain ⟨hP, hc, hV⟩ := hI
  refine ⟨?_, fun q => ?_, Nat.le_trans hV.1 (by omega), fun q h1 h2 => ?_, hV.2.2⟩
  · rw [rx_w_app]
    refine va_P.app (hP.kept (fun k q hk => ho q.1 (hP k q hk).lt)) (fun k q hk => ?_)
    have hk0 : k < 1 := (List.getElem?_eq_some_iff.mp hk).1
    rw [show k = 0 by omega] at hk
    cases hk
    rw [Nat.zero_add]
    exact ha
  · have := hc q
    rw [List.length_append, List.length_singleton]
    omega
  · rw [ho q (Nat.lt_of_lt_of_le h1 hV.1)]
    exact hV.2.1 q h1 h2
theorem rx_sz {H : Heap} {locs : List Loc} (hI : rx_Iv X D G s w cc H locs) (h0 : X.2.1 ≤ s.heap.size) (hal : G.2.1 = true) (h : H.size ≤ s.heap.size + cc) : H.size = X.2.1 + w.length := by
  have h1 := rx_low hI h0
  have h2 := hI.2.1 hal
  omega
theorem rx_q_newa (C : rx_Cx p s m args c X D G own bc nL) {mc ms t : Nat} {at' : Jvm.ClassFile.ArrayType} (hd : decode bc pc = .ok (.newarray at', 2)) (htt : (t = 0 ∧ at' = .int) ∨ (t = 1 ∧ at' = .byte) ∨ (t = 2 ∧ at' = .boolean) ∨ (t = 3 ∧ at' = .long)) (hw : Cond.arrayClass (newarray.typeOf at') ∈ rx_words) (hmc : mc ≤ R.cells) (hms : ms ≤ R.slots) (hS : rx_hS (rx_W p l e R s m args below meth c Q X D G nL) K rest r (pc + 2)) (h : rx_na G.2.1 mc ms t K rest L S w cc ss = some r) : rx_W p l e R s m args below meth c Q X D G nL pc L S w cc ss := by
  obtain ⟨hx, hb, -, hown, hts, ⟨hK, -, -, -, -, -, -, h00⟩, -⟩ := id C
  unfold rx_na at h
  split at h
  · rename_i n S'
    obtain ⟨g, h5⟩ := rx_c h
    rw [rx_snoc_eq] at h5
    obtain ⟨hal, g⟩ := rx_an g
    obtain ⟨g1, g⟩ := rx_an g
    obtain ⟨g2, g3⟩ := rx_an g
    have g1 := rx_bl g1
    have g2 := rx_bl g2
    have g3 := rx_bl g3
    intro H locs ls hI hl
    refine rx_W_size (fun hsz => ?_)
    have hz := rx_sz hI h00 hal hsz
    have hcl : (nI n).toNatClampNeg = n := nI_clamp (by omega)
    have hn0 : ¬ nI n < 0 := nI_pos (by omega)
    rcases htt with ⟨rfl, rfl⟩ | ⟨rfl, rfl⟩ | ⟨rfl, rfl⟩ | ⟨rfl, rfl⟩
    all_goals
      refine va_newaK (h := X.2.1 + w.length) (N := n) hx hb (hts _ hw) rfl hd rfl hn0 hcl (by show n * _ ≤ _; simp only [newarray.typeOf, componentBytes]; omega) (Nat.le_trans g2 hmc) (Nat.le_trans g3 hms) hz (fun H' cA e1 z1 o1 hAr hNm => ?_)
      have kk := hS _ _ _ _ _ h5 H' locs ls (rx_push hI hz (by rw [z1, hz]) (fun q hq => o1 q (by rw [← hz]; exact hq)) ?_) hl
      · rw [Nat.zero_add] at kk
        exact kk
      · show H'[X.2.1 + w.length]? = some (vp_cell _ _)
        rw [e1]
        first
          | (have hc0 : cA = X.2.2.2 0 := Option.some.inj (hNm.symm.trans (hK.2 0 _ rfl).2)
             rw [hc0]; rfl)
          | (have hc0 : cA = X.2.2.2 1 := Option.some.inj (hNm.symm.trans (hK.2 1 _ rfl).2)
             rw [hc0]; rfl)
          | (have hc0 : cA = X.2.2.2 2 := Option.some.inj (hNm.symm.trans (hK.2 2 _ rfl).2)
             rw [hc0]; rfl)
          | (have hc0 : cA = X.2.2.2 3 := Option.some.inj (hNm.symm.trans (hK.2 3 _ rfl).2)
             rw [hc0]; rfl)
  · cases h
theorem rx_q_newq (C : rx_Cx p s m args c X D G own bc nL) {mc ms idx : Nat} (hd : decode bc pc = .ok (.anewarray idx, 3)) (hw : Cond.classLink own idx "GreyRoute$State" ∈ rx_words) (hmc : mc ≤ R.cells) (hms : ms ≤ R.slots) (hS : rx_hS (rx_W p l e R s m args below meth c Q X D G nL) K rest r (pc + 3)) (h : rx_na G.2.1 mc ms 4 K rest L S w cc ss = some r) : rx_W p l e R s m args below meth c Q X D G nL pc L S w cc ss := by
  obtain ⟨hx, hb, -, hown, hts, ⟨hK, -, hAO, -, -, -, -, h00⟩, -⟩ := id C
  unfold rx_na at h
  split at h
  · rename_i n S'
    obtain ⟨g, h5⟩ := rx_c h
    rw [rx_snoc_eq] at h5
    obtain ⟨hal, g⟩ := rx_an g
    obtain ⟨g1, g⟩ := rx_an g
    obtain ⟨g2, g3⟩ := rx_an g
    have g1 := rx_bl g1
    have g2 := rx_bl g2
    have g3 := rx_bl g3
    intro H locs ls hI hl
    refine rx_W_size (fun hsz => ?_)
    have hz := rx_sz hI h00 hal hsz
    have hcl : (nI n).toNatClampNeg = n := nI_clamp (by omega)
    have hn0 : ¬ nI n < 0 := nI_pos (by omega)
    refine W.anew (C := "GreyRoute$State") hx hb hown (hts _ hw) (va_AO.use hAO) rfl hd rfl hn0 (by show (nI n).toNatClampNeg * 4 ≤ _; rw [hcl]; omega) (Nat.le_trans g2 hmc) (by show ss + (nI n).toNatClampNeg ≤ _; rw [hcl]; exact Nat.le_trans g3 hms) (fun cA kA comp f1 f2 f3 f4 => ?_)
    show W p l e R s m args below meth c (H.push { cls := cA, slots := Array.replicate (nI n).toNatClampNeg .null, vm := .none }) locs (cc + 1) (ss + (nI n).toNatClampNeg) Q (F0 m (pc + 3) ls (.ref H.size :: S'.map (rx_d X)))
    rw [hcl, hz]
    have kk := hS _ _ _ _ _ h5 (H.push { cls := cA, slots := Array.replicate n .null, vm := .none }) locs ls (rx_push hI hz (by rw [Array.size_push]) (fun q hq => by rw [Array.getElem?_push, if_neg (Nat.ne_of_lt hq)]) ?_) hl
    · rw [Nat.zero_add] at kk
      exact kk
    · show (H.push _)[X.2.1 + w.length]? = some (vp_cell _ _)
      rw [← hz, Array.getElem?_push_size]
      obtain ⟨kA', comp', k1, k2, k3, k4⟩ := (hK.2 4 _ rfl).2
      have hc0 : cA = X.2.2.2 4 := Option.some.inj (f1.symm.trans k4)
      rw [hc0, arrV_new]
      rfl
  · cases h
theorem rx_q_new (C : rx_Cx p s m args c X D G own bc nL) {mc ms a b idx : Nat} {Cn : String} {T : u_T} {N : Nat} {ty0 : Nat → FieldType} {df : List rx_V} (hd : decode bc pc = .ok (.new idx, 3)) (hin : ∀ w ∈ u_ws Cn T N, w ∈ rx_words) (hty : ∀ k, k < N → parseFieldDescriptor (T k).2.2.1 = some (ty0 k)) (hc : vwCl[a]? = some (Cn, T, N)) (hbN : b = N) (hfs : ∀ j, j < N → defaultValue (ty0 j) = vp_V (df.map (rx_d X)) j) (hw1 : Cond.classLink own idx Cn ∈ rx_words) (hw2 : Cond.instantiable Cn N ∈ rx_words) (hw3 : Cond.initialized Cn ∈ rx_words) (hmc : mc ≤ R.cells) (hms : ms ≤ R.slots) (hS : rx_hS (rx_W p l e R s m args below meth c Q X D G nL) K rest r (pc + 3)) (h : rx_nw G.2.1 mc ms a b df K rest L S w cc ss = some r) : rx_W p l e R s m args below meth c Q X D G nL pc L S w cc ss := by
  obtain ⟨hx, hb, -, hown, hts, ⟨hK, -, -, -, -, -, -, h00⟩, -⟩ := id C
  subst hbN
  unfold rx_nw at h
  obtain ⟨g, h5⟩ := rx_c h
  rw [rx_snoc_eq] at h5
  obtain ⟨hal, g⟩ := rx_an g
  obtain ⟨g2, g3⟩ := rx_an g
  have g2 := rx_bl g2
  have g3 := rx_bl g3
  intro H locs ls hI hl
  refine rx_W_size (fun hsz => ?_)
  have hz := rx_sz hI h00 hal hsz
  have hKn := hK.1 a _ hc
  refine W.newcK hx hb hown (hts _ hw1) (hts _ hw2) (hts _ hw3) rfl hd (Nat.le_trans g2 hmc) (Nat.le_trans g3 hms) hKn.2.1 hz (fun H' kC hkC e1 z1 o1 => ?_)
  have kk := hS _ _ _ _ _ h5 H' locs ls (rx_push hI hz (by rw [z1, hz]) (fun q hq => o1 q (by rw [← hz]; exact hq)) ?_) hl
  · rw [Nat.zero_add] at kk
    exact kk
  · exact ⟨_, hc, (u_born ty0 hts hin hKn hkC e1 hty).to hfs⟩
theorem rx_q_cpy (C : rx_Cx p s m args c X D G own bc nL) {idx : Nat} (hd : decode bc pc = .ok (.invokestatic idx, 3)) (hw1 : Cond.methodLink own idx arraycopyName ∈ rx_words) (hw2 : Cond.native arraycopyName ∈ rx_words) (hw3 : Cond.static arraycopyName ∈ rx_words) (hw4 : Cond.initialized "java/lang/System" ∈ rx_words) (hfr : 1 ≤ R.frames) (hlo : 64 ≤ R.locals) (hS : rx_hS (rx_W p l e R s m args below meth c Q X D G nL) K rest r (pc + 3)) (h : rx_cpy K rest L S w cc ss = some r) : rx_W p l e R s m args below meth c Q X D G nL pc L S w cc ss := by
  obtain ⟨hx, hb, hml, hown, hts, ⟨hK, -⟩, -⟩ := id C
  unfold rx_cpy at h
  split at h
  · rename_i n dp k1 sp k0 S'
    obtain ⟨g0, h4⟩ := rx_c h
    obtain ⟨x, y1, h5⟩ := rx_at_ok h4
    rcases x with o | ⟨t0, n0, u0⟩
    · cases h5
    · obtain ⟨y, y2, h6⟩ := rx_at_ok h5
      rcases y with o | ⟨t1, n1, u1⟩
      · cases h6
      · obtain ⟨g, h7⟩ := rx_c h6
        have h8 := rx_set_ok h7
        obtain ⟨f1, g⟩ := rx_an g
        obtain ⟨f2, g⟩ := rx_an g
        obtain ⟨f3, g⟩ := rx_an g
        obtain ⟨f4, g⟩ := rx_an g
        obtain ⟨f5, f6⟩ := rx_an g
        have f1 := rx_bq f1
        have f2 := rx_bq f2
        have f3 := rx_bl f3
        have f4 := rx_bl f4
        have f5 := rx_bt f5
        have f6 := rx_bt f6
        have g0 := rx_bl g0
        subst f1
        subst f2
        intro H locs ls hI hl
        have c1 : (nI sp).toNatClampNeg = sp := nI_clamp (by omega)
        have c2 : (nI dp).toNatClampNeg = dp := nI_clamp (by omega)
        have c3 : (nI n).toNatClampNeg = n := nI_clamp (by omega)
        refine va_copyi (sp := nI sp) (dp := nI dp) (n := nI n) (ty := .int) (f := fun i => rx_vi X (rx_lk u0 i (rx_df 0))) (g := fun i => rx_vi X (rx_lk u1 i (rx_df 0))) hx hb (by rw [hml]; exact hl.1.symm) hown (hts _ hw1) (hts _ hw2) (hts _ hw3) (hts _ hw4) hK hI.1 (rx_w_D X w) hI.2.2 k0 k1 0 0 (rx_w_get (X := X) y1) (rx_w_get (X := X) y2) rfl rfl rfl (nI_pos (by omega)) (nI_pos (by omega)) (nI_pos (by omega)) (by rw [c1, c3]; exact f3) (by rw [c2, c3]; exact f4) (fun _ _ => rfl) hfr (by rw [rx_cats_eq]; exact Nat.le_trans (Nat.add_le_add_right g0 _) (Nat.le_trans (by decide +kernel) hlo)) hd (fun H1 locs1 hP1 _ hV1 => ?_)
        rw [c1, c2, c3] at hP1
        refine hS _ _ _ _ _ h8 H1 locs1 ls (rx_Iv_set (c1 := .inr (0, n1, rx_cpl u0 sp dp u1 n)) hI ?_ hV1) hl
        have e2 : (fun i => rx_vi X (rx_lk (rx_cpl u0 sp dp u1 n) i (rx_df 0))) = va_cpy (fun i => rx_vi X (rx_lk u0 i (rx_df 0))) (fun i => rx_vi X (rx_lk u1 i (rx_df 0))) sp dp n := by
          funext i
          rw [rx_lk_cpl]
          unfold va_cpy
          split <;> rfl
        show va_P D vwCl ((rx_w X 0 w).set k1 (X.2.1 + k1, .inl (X.2.2.2 0, n1, .inl (fun i => rx_vi X (rx_lk (rx_cpl u0 sp dp u1 n) i (rx_df 0)))))) H1
        rw [e2]; exact hP1
  · cases h
theorem rx_q_oi (C : rx_Cx p s m args c X D G own bc nL) {idx : Nat} (hd : decode bc pc = .ok (.invokespecial idx, 3)) (hw1 : Cond.methodLink own idx objectInit ∈ rx_words) (hw2 : Cond.instanceMethod objectInit ∈ rx_words) (hw3 : Cond.code objectInit ⟨#[0xb1]⟩ 1 none ∈ rx_words) (hfr : 1 ≤ R.frames) (hlo : 64 ≤ R.locals) (hS : rx_hS (rx_W p l e R s m args below meth c Q X D G nL) K rest r (pc + 3)) (h : rx_oi K rest L S w cc ss = some r) : rx_W p l e R s m args below meth c Q X D G nL pc L S w cc ss := by
  obtain ⟨hx, hb, hml, hown, hts, -, -⟩ := id C
  unfold rx_oi at h
  split at h
  · rename_i k S'
    obtain ⟨g0, h5⟩ := rx_c h
    have g0 := rx_bl g0
    intro H locs ls hI hl
    refine W.objInit hx hb hown (hts _ hw1) (hts _ hw2) (hts _ hw3) rfl (by rw [hml]; exact hl.1) rfl hd hfr ?_ (hS _ _ _ _ _ h5 H locs ls hI hl)
    rw [rx_cats_eq]
    show 2 * 0 + _ + 12 ≤ _
    omega
  · cases h
end RXN
