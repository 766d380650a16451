/-! methods on the last cells: runs from a place to a place, and to the answer -/
noncomputable def rx_isR (o : Option rx_R) (n mc ms : Nat) : Bool := match o with
  | some ((_, .ireturn, _) :: _, _, [.inl (.inl k)], _, cc, ss) => Nat.beq k n && (Nat.ble cc mc && Nat.ble ss ms)
  | _ => false
noncomputable def rx_mR (x : List rx_E × Nat × Nat × Nat × Nat) (F : rx_F) (stop pc : Nat) (L : rx_L) (S : List rx_V) (w : List rx_C) : Option rx_R := rx_loop (rx_G0 F 0) x.1 x.2.1 x.2.2.1 x.2.2.2.1 (rx_cap rx_tb) (rx_ex (rx_G0 F 0) rx_tb 10000000 20) stop 10000000 (rx_find x.1 pc) L S w 0 0
def rx_mC (p : Program) (s : State) (m : MethodId) (args : Array Value) (c : Code) (meth : Method) (X : rx_X) (D : va_G) (Y : rx_Y) (nL : Nat) : Prop := meth.name = Y.1.name ∧ meth.sig.returnType = Y.2.2.2 ∧ meth.locks = false ∧ ∀ F, rx_fok X F → rx_Cx p s m args c X D (rx_G0 F 0) Y.1.cls Y.2.1 nL
section RXV
variable {p : Program} {l : Launch} {e : Env} {s : State} {m : MethodId} {args : Array Value} {below : List Frame} {meth : Method} {c : Code} {X : rx_X} {D : va_G} {Y : rx_Y} {x : List rx_E × Nat × Nat × Nat × Nat} {v : Value}
abbrev rx_MW (p : Program) (l : Launch) (e : Env) (s : State) (m : MethodId) (args : Array Value) (below : List Frame) (meth : Method) (c : Code) (X : rx_X) (D : va_G) (Y : rx_Y) (x : List rx_E × Nat × Nat × Nat × Nat) (v : Value) (pc : Nat) (L : rx_L) (S : List rx_V) (w : List rx_C) (cc ss : Nat) : Prop := rx_W p l e (rx_rm 21 x.2.2.1 x.2.2.2.1) s m args below meth c (MQ below (rx_Qx X v) args s x.2.2.1 x.2.2.2.1 (rx_A X)) X D (rx_G0 [] 0) x.2.1 pc L S w cc ss
theorem rx_mG (hx : rx_tOk rx_mis x Y) (Cm : rx_mC p s m args c meth X D Y x.2.1) {F : rx_F} (hF : rx_fok X F) {stop pc : Nat} {L : rx_L} {S : List rx_V} {w : List rx_C} {r : rx_R} (h : rx_mR x F stop pc L S w = some r)
    (hE : ∀ (e1 : rx_E) (rest1 : List rx_E) (L1 : rx_L) (S1 : List rx_V) (w1 : List rx_C) (c1 s1 : Nat), e1 ∈ x.1 → r = (e1 :: rest1, L1, S1, w1, c1, s1) → rx_MW p l e s m args below meth c X D Y x v e1.1 L1 S1 w1 c1 s1) : rx_MW p l e s m args below meth c X D Y x v pc L S w 0 0 := by
  obtain ⟨hnm, hret, hlk, hC⟩ := Cm
  obtain ⟨hmx, hrk, hcode, hpl, hokA, hsq, en0, rest0, hcd0, hpc0⟩ := hx
  unfold rx_mR at h
  rcases rx_find_ok x.1 pc with h0 | ⟨pre, en, rest, h1, h2, h3⟩
  · rw [h0] at h; cases h
  · rw [h2] at h
    have hgo := rx_loop_ok (l := l) (e := e) (R := rx_rm 21 x.2.2.1 x.2.2.2.1) (below := below) (meth := meth) (Q := MQ below (rx_Qx X v) args s x.2.2.1 x.2.2.2.1 (rx_A X)) (mi := rx_mis) (nm := Y.1.name) (cap := rx_cap rx_tb) (ex := rx_ex (rx_G0 F 0) rx_tb 10000000 20) (mc := x.2.2.1) (ms := x.2.2.2.1) (d := 20) (cd := x.1) (stop := stop) (r := r) (hC F hF) (rx_Gok0 F 0) hnm (Nat.le_refl _) (Nat.le_refl _) (Nat.le_refl _) (by show 64 * 20 + 64 ≤ 64 * 21; decide) (rx_ex_ok (rx_Gok0 F 0) hF rx_T_ok 20) hokA hsq (fun e9 pre9 rest9 L9 S9 w9 c9 s9 hcd9 hr9 => hE e9 rest9 L9 S9 w9 c9 s9 (by rw [hcd9]; exact List.mem_append_right _ List.mem_cons_self) hr9) 10000000 pre en rest L S w 0 0 h1 h
    rw [h3] at hgo
    exact hgo
theorem rx_mS (hx : rx_tOk rx_mis x Y) (Cm : rx_mC p s m args c meth X D Y x.2.1) {F : rx_F} (hF : rx_fok X F) {stop pc pc' : Nat} {L L' : rx_L} {S S' : List rx_V} {w w' : List rx_C} (h : rx_is (rx_mR x F stop pc L S w) pc' L' S' w' 0 0 = true) (hk : rx_MW p l e s m args below meth c X D Y x v pc' L' S' w' 0 0) : rx_MW p l e s m args below meth c X D Y x v pc L S w 0 0 := by
  obtain ⟨e0, rest0, h1, h2⟩ := rx_is_ok h
  refine rx_mG hx Cm hF h1 (fun e1 rest1 L1 S1 w1 c1 s1 _ hr => ?_)
  cases hr
  rw [h2]
  exact hk
theorem rx_mE (hx : rx_tOk rx_mis x Y) (Cm : rx_mC p s m args c meth X D Y x.2.1) {F : rx_F} (hF : rx_fok X F) {pc n : Nat} {L : rx_L} {S : List rx_V} {w : List rx_C} (hi : Y.2.2.2 = some .int) (h : rx_isR (rx_mR x F 99999999 pc L S w) n x.2.2.1 x.2.2.2.1 = true) : rx_MW p l e s m args below meth c X D Y x (.int (nI n)) pc L S w 0 0 := by
  cases ho : rx_mR x F 99999999 pc L S w with
  | none => rw [ho] at h; cases h
  | some r =>
    refine rx_mG hx Cm hF ho (fun e1 rest1 L1 S1 w1 c1 s1 hm hr => ?_)
    rw [ho, hr] at h
    obtain ⟨hnm, hret, hlk, hC⟩ := Cm
    obtain ⟨hmx, hrk, hcode, hpl, hokA, hsq, -⟩ := hx
    have hok := List.all_eq_true.mp hokA e1 hm
    have C := hC [] rx_fok_n
    obtain ⟨pc1, i1, t1⟩ := e1
    unfold rx_isR at h
    split at h
    · rename_i heq
      cases heq
      obtain ⟨g1, h⟩ := rx_an h
      obtain ⟨g2, g3⟩ := rx_an h
      have g1 := rx_bq g1
      subst g1
      obtain ⟨hd, -⟩ := rx_d1_ok hok
      intro H locs ls hI hl
      refine W.widen (k := x.2.2.1) (n := x.2.2.2.1) (rx_bl g2) (rx_bl g3) ?_
      exact W.iret C.1 C.2.1 (by rw [hret]; exact hi) (fun t ht _ => ⟨rfl, by rw [ht]; exact hI.2.2.1, fun q h1 h2 => by rw [ht]; exact hI.2.2.2.1 q h1 h2⟩) hI.2.2.2.2 hd
    · cases h
/-- the same state in other words -/
theorem rx_mL' {pc : Nat} {L L' : rx_L} {S : List rx_V} {w : List rx_C} {cc ss : Nat} (he : rx_Lm X L' = rx_Lm X L) (h : rx_MW p l e s m args below meth c X D Y x v pc L' S w cc ss) : rx_MW p l e s m args below meth c X D Y x v pc L S w cc ss := by
  intro H locs ls hI hl
  rw [← he] at hl
  exact h H locs ls hI hl
end RXV
theorem rx_mMet {l : Launch} {X : rx_X} {D : va_G} {Y : rx_Y} {x : List rx_E × Nat × Nat × Nat × Nat} {as : List rx_V} {wm : List rx_C} {v : Value} (hx : rx_tOk rx_mis x Y) (hca : rx_cats as ≤ x.2.1)
    (hgo : ∀ (p : Program) (e : Env) (s : State) (m : MethodId) (args : Array Value) (below : List Frame) (meth : Method) (c : Code), rx_mC p s m args c meth X D Y x.2.1 → rx_MW p l e s m args below meth c X D Y x v 0 (rx_args as 0) [] wm 0 0) :
    Met l Y.1 (Cond.code Y.1 Y.2.1 Y.2.2.1 Y.2.2.2 :: rx_words) (rx_rm 21 x.2.2.1 x.2.2.2.1) (rx_Pc X D (rx_G0 [] 0) as wm) (rx_Qx X v) x.2.2.1 x.2.2.2.1 (rx_A X) := by
  obtain ⟨hmx, hrk, hcode, hpl, hokA, hsq, -⟩ := hx
  refine rx_ofW (cc := Y.2.1) (maxL := Y.2.2.1) (ret := Y.2.2.2) hpl rfl ?_
  intro p e s m args below meth c s₁ B hml hv
  obtain ⟨rfl, hP, hz, hU⟩ := hv
  have hts0 := atoms_spec (ws := Cond.code Y.1 Y.2.1 Y.2.2.1 Y.2.2.2 :: rx_words) B.pre
  have Cm : rx_mC p s m (as.map (rx_d X)).toArray c meth X D Y x.2.1 := ⟨(name_of_methodNamed B.named B.method).1, B.returns, B.notSynchronized, fun F hF => ⟨B.exec, B.bytes, by rw [hml]; exact hmx, findClass_of_methodNamed B.named, fun w hw => hts0 w (List.mem_cons_of_mem _ hw), hU, hF⟩⟩
  have hlv := lv_entry (as.map (rx_d X)) (n := Y.2.2.1) (by rw [rx_sl_len, hmx]; exact hca)
  rw [lg_entry_eq]
  rw [rx_args_lv, hmx] at hlv
  rw [hmx]
  generalize ((lg_sl (as.map (rx_d X)) ++ List.replicate (x.2.1 - (lg_sl (as.map (rx_d X))).length) Slot.unset).toArray) = ls at hlv ⊢
  exact hgo p e s m (as.map (rx_d X)).toArray below meth c Cm s.heap [] ls ⟨hP, fun q => by rw [Nat.add_zero]; exact hz q, va_S.rf⟩ hlv
