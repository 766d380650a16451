/-! a run, a call -/
def rx_seq : List rx_E → Bool
  | [] => true
  | e :: t => (match t with
    | [] => true
    | e2 :: _ => Nat.beq e2.1 (e.1 + e.2.2.1)) && rx_seq t
theorem rx_seq_ok {e e2 : rx_E} {pre rest : List rx_E} (h : rx_seq (pre ++ e :: e2 :: rest) = true) : e2.1 = e.1 + e.2.2.1 := by
  induction pre with
  | nil =>
    obtain ⟨h1, -⟩ := rx_an (show (Nat.beq e2.1 (e.1 + e.2.2.1) && rx_seq (e2 :: rest)) = true from h)
    exact rx_bq h1
  | cons a t ih =>
    have h2 : (_ && rx_seq (t ++ e :: e2 :: rest)) = true := h
    exact ih (rx_an h2).2
theorem rx_find_ok (cd : List rx_E) (t : Nat) : rx_find cd t = [] ∨ ∃ pre e rest, cd = pre ++ e :: rest ∧ rx_find cd t = e :: rest ∧ e.1 = t := by
  induction cd with
  | nil => exact Or.inl rfl
  | cons a l ih =>
    change cond (Nat.beq a.1 t) (a :: l) (rx_find l t) = [] ∨ ∃ pre e rest, a :: l = pre ++ e :: rest ∧ cond (Nat.beq a.1 t) (a :: l) (rx_find l t) = e :: rest ∧ e.1 = t
    cases c : Nat.beq a.1 t with
    | true => exact Or.inr ⟨[], a, l, rfl, rfl, rx_bq c⟩
    | false =>
      rcases ih with h | ⟨pre, e, rest, h1, h2, h3⟩
      · exact Or.inl h
      · exact Or.inr ⟨a :: pre, e, rest, by rw [h1]; rfl, h2, h3⟩
section RXR
variable {p : Program} {l : Launch} {e : Env} {R : Room} {s : State} {m : MethodId} {args : Array Value} {below : List Frame} {meth : Method} {c : Code} {Q : State → Prop} {X : rx_X} {D : va_G} {G : rx_G} {own nm : String} {bc : ByteArray} {nL : Nat} {cd : List rx_E} {mc ms d : Nat} {mi : List rx_Y} {cap : Nat → Nat × Nat} {ex : Nat → List rx_V → List rx_C → Option (Option rx_V × List rx_C)}
theorem rx_loop_ok (C : rx_Cx p s m args c X D G own bc nL) (hG : rx_Gok G) (hnm : meth.name = nm) (hmc : mc ≤ R.cells) (hms : ms ≤ R.slots) (hfr : d + 1 ≤ R.frames) (hlo : 64 * d + 64 ≤ R.locals)
    (hex : ∀ (nu : Nat) (as : List rx_V) (w : List rx_C) (r' : Option rx_V) (w' : List rx_C), ex nu as w = some (r', w') → ∃ Y, mi[nu]? = some Y ∧ Cond.code Y.1 Y.2.1 Y.2.2.1 Y.2.2.2 ∈ rx_words ∧ rx_Met l d (cap nu).1 (cap nu).2 Y X D G as w r' w') (hok : cd.all (rx_okb mi own nm bc) = true) (hsq : rx_seq cd = true) {stop : Nat} {r : rx_R}
    (hF : ∀ (e1 : rx_E) (pre rest1 : List rx_E) (L1 : rx_L) (S1 : List rx_V) (w1 : List rx_C) (c1 s1 : Nat), cd = pre ++ e1 :: rest1 → r = (e1 :: rest1, L1, S1, w1, c1, s1) → rx_W p l e R s m args below meth c Q X D G nL e1.1 L1 S1 w1 c1 s1) :
    ∀ (n : Nat) (pre : List rx_E) (en : rx_E) (rest : List rx_E) (L : rx_L) (S : List rx_V) (w : List rx_C) (cc ss : Nat), cd = pre ++ en :: rest → rx_loop G cd nL mc ms cap ex stop n (en :: rest) L S w cc ss = some r → rx_W p l e R s m args below meth c Q X D G nL en.1 L S w cc ss := by
  have hnil : ∀ (n : Nat) (L : rx_L) (S : List rx_V) (w : List rx_C) (cc ss : Nat), rx_loop G cd nL mc ms cap ex stop n [] L S w cc ss = none := by
    intro n L S w cc ss
    cases n <;> rfl
  intro n
  induction n with
  | zero => intro pre en rest L S w cc ss _ h; cases h
  | succ n ih =>
    intro pre en rest L S w cc ss hcd h
    have h2 : cond (Nat.beq en.1 stop) (some (en :: rest, L, S, w, cc, ss)) (rx_step G cd nL mc ms cap ex (rx_loop G cd nL mc ms cap ex stop n) en rest L S w cc ss) = some r := h
    cases c0 : Nat.beq en.1 stop with
    | true =>
      rw [c0] at h2
      exact hF en pre rest L S w cc ss hcd (Option.some.inj h2).symm
    | false =>
      rw [c0] at h2
      have hokE : rx_okb mi own nm bc en = true := List.all_eq_true.mp hok en (by rw [hcd]; exact List.mem_append_right _ List.mem_cons_self)
      refine rx_step_ok (K := rx_loop G cd nL mc ms cap ex stop n) C hG hnm hmc hms hfr hlo hex hokE (fun L' S' w' cc' ss' hk => ?_) (fun t L' S' w' cc' ss' hk => ?_) (fun hr => hF en pre rest L S w cc ss hcd hr) h2
      · cases rest with
        | nil => rw [hnil] at hk; cases hk
        | cons e2 rest2 =>
          have h3 := ih (pre ++ [en]) e2 rest2 L' S' w' cc' ss' (by rw [hcd, List.append_assoc]; rfl) hk
          have h4 : e2.1 = en.1 + en.2.2.1 := rx_seq_ok (pre := pre) (rest := rest2) (by rw [← hcd]; exact hsq)
          rw [← h4]
          exact h3
      · rcases rx_find_ok cd t with h3 | ⟨pre2, e2, rest2, h3, h4, h5⟩
        · rw [h3, hnil] at hk; cases hk
        · rw [h4] at hk
          have h6 := ih pre2 e2 rest2 L' S' w' cc' ss' h3 hk
          rw [h5] at h6
          exact h6
end RXR
theorem rx_ofW {l : Launch} {y : MethodName} {ws ws' : List Cond} {rm : Room} {Pc : Array Value → State → Prop} {Qc : Array Value → State → Outcome → State → Prop} {mc ms : Nat} {free : Addr → Prop} {cc : ByteArray} {maxL : Nat} {ret : Option FieldType} (hy : plainFor y = true) (hw : ws = Cond.code y cc maxL ret :: ws')
    (body : ∀ p e s m args below meth c s₁, BodyLoose p l y (headSpec ws rm) cc maxL ret e s m args below meth c s₁ → c.maxLocals = maxL → Pc args s → W p l e (headSpec ws rm).room s m args below meth c s.heap [] 0 0 (MQ below Qc args s mc ms free) (entryFrame m args maxL)) : Met l y ws rm Pc Qc mc ms free := by
  refine MetFree.of_bodySF (code := cc) (maxLocals := maxL) (ret := ret) hy ?_ ?_
  · intro args s m h hn
    obtain ⟨meth, c, h1, h2, h3, h4, h5, h6, -, -⟩ := Cond.code_spec hn (atoms_spec (ws := ws) h _ (by rw [hw]; exact List.mem_cons_self))
    exact ⟨meth, c, h1, h2, h3, h4, h5, h6⟩
  · intro p e s m args below meth c s₁ B hml hP _
    have hh0 : s₁.heap = s.heap := by rw [B.state]; rfl
    obtain ⟨t, a1, o, b1, b2, b3⟩ := body p e s m args below meth c s₁ B hml hP s₁ hh0 (Stand.of_body B)
    exact ⟨t, o, a1, b1, b2, ⟨b3.1, b3.2⟩⟩
/-- the answer's kind -/
def rx_rk (q : Nat) (t : Option FieldType) : Bool := match t with
  | none => Nat.beq q 0
  | some .int => Nat.beq q 1
  | some .boolean => Nat.beq q 2
  | some .byte => Nat.beq q 3
  | some .char => Nat.beq q 4
  | some .long => Nat.beq q 5
  | _ => false
/-- a method's row and its table fit -/
def rx_tOk (mi : List rx_Y) (x : List rx_E × Nat × Nat × Nat × Nat) (Y : rx_Y) : Prop := Y.2.2.1 = x.2.1 ∧ rx_rk x.2.2.2.2 Y.2.2.2 = true ∧ Cond.code Y.1 Y.2.1 Y.2.2.1 Y.2.2.2 ∈ rx_words ∧ plainFor Y.1 = true ∧ x.1.all (rx_okb mi Y.1.cls Y.1.name Y.2.1) = true ∧ rx_seq x.1 = true ∧ ∃ e rest, x.1 = e :: rest ∧ e.1 = 0
theorem rx_args_lv (X : rx_X) (as : List rx_V) : ∀ i : Nat, lv_args i (as.map (rx_d X)) = rx_Lm X (rx_args as i) := by
  induction as with
  | nil => intro i; rfl
  | cons v t ih =>
    intro i
    show (i, rx_d X v) :: lv_args (if (rx_d X v).category = 2 then i + 2 else i + 1) (t.map (rx_d X)) = (i, rx_d X v) :: rx_Lm X (rx_args t (i + rx_cat v))
    rw [ih, rx_cat_d]
    have hc : rx_cat v = 1 ∨ rx_cat v = 2 := by rcases v with i | ((n | k) | ((_ | k) | j)) <;> simp [rx_cat]
    rcases hc with hc | hc <;> rw [hc] <;> rfl
theorem rx_sl_len (X : rx_X) (as : List rx_V) : (lg_sl (as.map (rx_d X))).length = rx_cats as := by
  induction as with
  | nil => rfl
  | cons v t ih =>
    show (lg_sl (rx_d X v :: t.map (rx_d X))).length = Nat.add (rx_cat v) (rx_cats t)
    rw [← ih]
    unfold lg_sl
    rw [List.flatMap_cons, List.length_append, rx_cat_d]
    have hc : rx_cat v = 1 ∨ rx_cat v = 2 := by rcases v with i | ((n | k) | ((_ | k) | j)) <;> simp [rx_cat]
    rcases hc with hc | hc <;> rw [hc] <;> rfl
theorem rx_cap_eq {tb : rx_T} : ∀ {nu : Nat} {x : List rx_E × Nat × Nat × Nat × Nat}, tb[nu]? = some x → rx_cap tb nu = (x.2.2.1, x.2.2.2.1) := by
  induction tb with
  | nil => intro nu x h; simp at h
  | cons y t ih =>
    intro nu x h
    cases nu with
    | zero => simp at h; rw [← h]; rfl
    | succ n => exact ih (by simpa using h)
theorem rx_end_i {q : Nat} {S : List rx_V} {w w' : List rx_C} {r : Option rx_V} (h : rx_end q .ireturn S w = some (r, w')) : (∃ n, S = [.inl (.inl n)] ∧ r = some (.inl (.inl n)) ∧ w' = w ∧ (q = 1 ∨ (q = 2 ∧ n ≤ 1) ∨ (q = 3 ∧ n < 128) ∨ (q = 4 ∧ n < 65536))) ∨ (∃ u, S = [.inl (.inr u)] ∧ r = some (.inl (.inr u)) ∧ w' = w ∧ q = 1) := by
  unfold rx_end at h
  dsimp only at h
  split at h
  · rename_i n
    obtain ⟨z1, h4⟩ := rx_c h
    cases h4
    refine Or.inl ⟨n, rfl, rfl, rfl, ?_⟩
    rcases Bool.or_eq_true_iff.mp z1 with z | z
    · exact Or.inl (rx_bq z)
    · rcases Bool.or_eq_true_iff.mp z with z | z
      · exact Or.inr (Or.inl ⟨rx_bq (rx_an z).1, rx_bl (rx_an z).2⟩)
      · rcases Bool.or_eq_true_iff.mp z with z | z
        · exact Or.inr (Or.inr (Or.inl ⟨rx_bq (rx_an z).1, rx_bt (rx_an z).2⟩))
        · exact Or.inr (Or.inr (Or.inr ⟨rx_bq (rx_an z).1, rx_bt (rx_an z).2⟩))
  · rename_i u
    obtain ⟨z1, h4⟩ := rx_c h
    cases h4
    exact Or.inr ⟨u, rfl, rfl, rfl, rx_bq z1⟩
  · cases h
theorem rx_end_l {q : Nat} {S : List rx_V} {w w' : List rx_C} {r : Option rx_V} (h : rx_end q .lreturn S w = some (r, w')) : ∃ x, S = [.inr (.inl x)] ∧ r = some (.inr (.inl x)) ∧ w' = w ∧ q = 5 := by
  unfold rx_end at h
  dsimp only at h
  split at h
  · rename_i x
    obtain ⟨z1, h4⟩ := rx_c h
    cases h4
    exact ⟨x, rfl, rfl, rfl, rx_bq z1⟩
  · cases h
theorem rx_nar_byte : ∀ n, n < 128 → narrow .byte (.int (nI n)) = .int (nI n) := by decide +kernel
set_option maxHeartbeats 1000000 in
theorem rx_ex_ok {l : Launch} {X : rx_X} {D : va_G} {G : rx_G} {tb : rx_T} {mi : List rx_Y} {fuel : Nat} (hG : rx_Gok G) (hF : rx_fok X G.1) (hT : ∀ (nu : Nat) (x : List rx_E × Nat × Nat × Nat × Nat), tb[nu]? = some x → ∃ Y, mi[nu]? = some Y ∧ rx_tOk mi x Y) :
    ∀ (d nu : Nat) (as : List rx_V) (w : List rx_C) (r : Option rx_V) (w' : List rx_C), rx_ex G tb fuel d nu as w = some (r, w') → ∃ Y, mi[nu]? = some Y ∧ Cond.code Y.1 Y.2.1 Y.2.2.1 Y.2.2.2 ∈ rx_words ∧ rx_Met l d (rx_cap tb nu).1 (rx_cap tb nu).2 Y X D G as w r w' := by
  intro d
  induction d with
  | zero => intro nu as w r w' h; cases h
  | succ d ih =>
    intro nu as w r w' h
    have h0 : rx_at tb nu (fun m => cond (Nat.ble (rx_cats as) m.2.1) (match rx_loop G m.1 m.2.1 m.2.2.1 m.2.2.2.1 (rx_cap tb) (rx_ex G tb fuel d) 99999999 fuel m.1 (rx_args as 0) [] w 0 0 with
      | some (e :: _, _, S, w', cc, ss) => cond (Nat.beq m.2.2.1 cc && Nat.ble ss m.2.2.2.1) (rx_end m.2.2.2.2 e.2.1 S w') none
      | _ => none) none) = some (r, w') := h
    obtain ⟨x, hx, h1⟩ := rx_at_ok h0
    obtain ⟨hc1, h2⟩ := rx_c h1
    have hc1 := rx_bl hc1
    obtain ⟨Y, hY, hmx, hrk, hcode, hpl, hokA, hsq, en, rest, hcd, hpc0⟩ := hT nu x hx
    refine ⟨Y, hY, hcode, ?_⟩
    rw [rx_cap_eq hx]
    obtain ⟨cd, nL, mc, ms, q⟩ := x
    dsimp only at h2 hmx hrk hokA hsq hcd hc1 ⊢
    cases hr : rx_loop G cd nL mc ms (rx_cap tb) (rx_ex G tb fuel d) 99999999 fuel cd (rx_args as 0) [] w 0 0 with
    | none => rw [hr] at h2; cases h2
    | some r1 =>
      rw [hr] at h2
      obtain ⟨cs1, L1, S1, w1, c1, s1⟩ := r1
      cases cs1 with
      | nil => cases h2
      | cons e1 rest1 =>
        obtain ⟨hc2, h3⟩ := rx_c h2
        obtain ⟨hc2, hc3⟩ := rx_an hc2
        have hc2 := rx_bq hc2
        have hc3 := rx_bl hc3
        subst hc2
        unfold rx_Met
        refine rx_ofW (cc := Y.2.1) (maxL := Y.2.2.1) (ret := Y.2.2.2) hpl rfl ?_
        intro p e s m args below meth c s₁ B hml hv
        obtain ⟨rfl, hP, hz, hU⟩ := hv
        have hts0 := atoms_spec (ws := Cond.code Y.1 Y.2.1 Y.2.2.1 Y.2.2.2 :: rx_words) B.pre
        have C : rx_Cx p s m (as.map (rx_d X)).toArray c X D G Y.1.cls Y.2.1 nL := ⟨B.exec, B.bytes, by rw [hml]; exact hmx, findClass_of_methodNamed B.named, fun w hw => hts0 w (List.mem_cons_of_mem _ hw), hU, hF⟩
        have hnm : meth.name = Y.1.name := (name_of_methodNamed B.named B.method).1
        have hlocks := B.notSynchronized
        have hret := B.returns
        have hlv := lv_entry (as.map (rx_d X)) (n := Y.2.2.1) (by rw [rx_sl_len, hmx]; exact hc1)
        rw [lg_entry_eq]
        rw [rx_args_lv, hmx] at hlv
        rw [hmx]
        generalize ((lg_sl (as.map (rx_d X)) ++ List.replicate (nL - (lg_sl (as.map (rx_d X))).length) Slot.unset).toArray) = ls at hlv ⊢
        have hI : rx_Iv X D G s w 0 s.heap [] := ⟨hP, fun q => by rw [Nat.add_zero]; exact hz q, va_S.rf⟩
        have hgo : rx_W p l e (headSpec (Cond.code Y.1 Y.2.1 Y.2.2.1 Y.2.2.2 :: rx_words) (rx_rm (d + 1) mc ms)).room s m (as.map (rx_d X)).toArray below meth c (MQ below (rx_Qc X D G mc r w') (as.map (rx_d X)).toArray s mc ms (rx_A X)) X D G nL en.1 (rx_args as 0) [] w 0 0 := by
          refine rx_loop_ok (mi := mi) (nm := Y.1.name) (cap := rx_cap tb) (ex := rx_ex G tb fuel d) (mc := mc) (ms := ms) (d := d) (cd := cd) (stop := 99999999) (r := (e1 :: rest1, L1, S1, w1, mc, s1)) C hG hnm (Nat.le_refl _) (Nat.le_refl _) (Nat.le_refl _) (by show 64 * d + 64 ≤ 64 * (d + 1); omega) (ih) hokA hsq ?_ fuel [] en rest (rx_args as 0) [] w 0 0 hcd (by rw [← hcd]; exact hr)
          intro e9 pre9 rest9 L9 S9 w9 c9 s9 hcd9 hr9
          cases hr9
          intro H locs ls hI hl
          have hd : rx_okb mi Y.1.cls Y.1.name Y.2.1 e1 = true := List.all_eq_true.mp hokA e1 (by rw [hcd9]; exact List.mem_append_right _ List.mem_cons_self)
          have hend : ∀ (r0 : Option rx_V), r0 = r → w1 = w' → ∀ t : State, t.heap = H → s.WarmedH t.vm → rx_Qc X D G mc r w' (as.map (rx_d X)).toArray s (.returned (r0.map (rx_d X))) t := by
            intro r0 e0 e2 t ht _
            subst e0
            subst e2
            refine ⟨rfl, by rw [ht]; exact hI.1, hI.2.1, by rw [ht]; exact hI.2.2.1, fun q h1 h2 => by rw [ht]; exact hI.2.2.2.1 q h1 h2⟩
          refine W.widen (k := mc) (n := ms) (Nat.le_refl _) hc3 ?_
          obtain ⟨pc1, i1, len1, a1, b1, k1, t1⟩ := e1
          cases i1 with
          | return_ =>
            obtain ⟨hd, -⟩ := rx_d1_ok hd
            obtain ⟨z1, h4⟩ := rx_c h3
            have z1 := rx_bq z1
            cases S1 with
            | nil =>
              cases h4
              have hn : Y.2.2.2 = none := by
                cases hy : Y.2.2.2 with
                | none => rfl
                | some ty => rw [hy, z1] at hrk; cases ty <;> cases hrk
              exact W.vret C.1 C.2.1 (by rw [hret]; exact hn) (hend none rfl rfl) hI.2.2.2.2 hd
            | cons v S2 => cases h4
          | ireturn =>
            obtain ⟨hd, -⟩ := rx_d1_ok hd
            have hty : ∀ ty : FieldType, (∀ t : Option FieldType, rx_rk q t = true → t = some ty) → meth.sig.returnType = some ty := fun ty hu => by rw [hret]; exact hu _ hrk
            rcases rx_end_i h3 with ⟨n, rfl, rfl, rfl, z | ⟨z, zn⟩ | ⟨z, zn⟩ | ⟨z, zn⟩⟩ | ⟨u, rfl, rfl, rfl, z⟩
            · subst z
              exact W.iret (v := nI n) C.1 C.2.1 (hty .int (fun t ht => by rcases t with _ | ty <;> first | (cases ht; done) | (cases ty <;> first | rfl | (cases ht; done)))) (hend (some (.inl (.inl n))) rfl rfl) hI.2.2.2.2 hd
            · subst z
              exact W.zret (v := nI n) (ty := .boolean) C.1 C.2.1 (hty .boolean (fun t ht => by rcases t with _ | ty <;> first | (cases ht; done) | (cases ty <;> first | rfl | (cases ht; done)))) (rx_nar_bool zn) (hend (some (.inl (.inl n))) rfl rfl) hI.2.2.2.2 hd
            · subst z
              exact W.zret (v := nI n) (ty := .byte) C.1 C.2.1 (hty .byte (fun t ht => by rcases t with _ | ty <;> first | (cases ht; done) | (cases ty <;> first | rfl | (cases ht; done)))) (rx_nar_byte n zn) (hend (some (.inl (.inl n))) rfl rfl) hI.2.2.2.2 hd
            · subst z
              exact W.zret (v := nI n) (ty := .char) C.1 C.2.1 (hty .char (fun t ht => by rcases t with _ | ty <;> first | (cases ht; done) | (cases ty <;> first | rfl | (cases ht; done)))) (pk_charN zn).1 (hend (some (.inl (.inl n))) rfl rfl) hI.2.2.2.2 hd
            · subst z
              exact W.iret (v := rx_N X (.inr u)) C.1 C.2.1 (hty .int (fun t ht => by rcases t with _ | ty <;> first | (cases ht; done) | (cases ty <;> first | rfl | (cases ht; done)))) (hend (some (.inl (.inr u))) rfl rfl) hI.2.2.2.2 hd
          | lreturn =>
            obtain ⟨hd, -⟩ := rx_d1_ok hd
            obtain ⟨x, rfl, rfl, rfl, z⟩ := rx_end_l h3
            subst z
            have hr5 : meth.sig.returnType = some .long := by
              have hu : ∀ t : Option FieldType, rx_rk 5 t = true → t = some .long := (fun t ht => by rcases t with _ | ty <;> first | (cases ht; done) | (cases ty <;> first | rfl | (cases ht; done)))
              rw [hret]; exact hu _ hrk
            rcases x with n | n
            · exact W.lret (v := lN n) C.1 C.2.1 hr5 (hend (some (.inr (.inl (.inl n)))) rfl rfl) hI.2.2.2.2 hd
            · exact W.lret (v := (X.1 n).toInt64) C.1 C.2.1 hr5 (hend (some (.inr (.inl (.inr n)))) rfl rfl) hI.2.2.2.2 hd
          | _ => exact absurd (show (none : Option (Option rx_V × List rx_C)) = some (r, w') from h3) (by simp)
        rw [hpc0] at hgo
        exact hgo s.heap [] ls hI hlv
