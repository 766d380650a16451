/-! what a run of the second layer is for the machine; one step -/
noncomputable def zLm (L : zL) : rx_L := L.map (fun q => (q.1, zv q.2))
def zSm (S : List zV) : List rx_V := S.map zv
theorem zcat_v (v : zV) : rx_cat (zv v) = zcat v := by rcases v with z | (z | (c | j)) <;> rfl
theorem zcats_v (S : List zV) : rx_cats (zSm S) = zcats S := by
  induction S with
  | nil => rfl
  | cons v t ih =>
    show Nat.add (rx_cat (zv v)) (rx_cats (zSm t)) = Nat.add (zcat v) (zcats t)
    rw [ih, zcat_v]
def zpc (cs : List rx_E) : Nat := match cs with
  | e :: _ => e.1
  | [] => 0
section ZRUN
variable {l : Launch} {d : Nat} {X : rx_X} {D : va_G} {G : rx_G} {Sh : List zC} {mi : List rx_Y} {Y : rx_Y} {cd rest T : List rx_E} {nL q : Nat} {L L1 : zL} {S S1 : List zV} {st st1 st' : zS} {r : Option zV} {en : rx_E} {Rt : zQ} {call : zCall}
def zRun (l : Launch) (d : Nat) (X : rx_X) (D : va_G) (G : rx_G) (Sh : List zC) (Y : rx_Y) (pc : Nat) (L : zL) (S : List zV) (st : zS) (r : Option zV) (st' : zS) : Prop :=
  ∀ w : List rx_C, zR Sh st w → ∃ w' : List rx_C, zR Sh st' w' ∧ ∀ (p : Program) (e : Env) (s : State) (m : MethodId) (args : Array Value) (below : List Frame) (meth : Method) (c : Code), rx_Cx p s m args c X D G Y.1.cls Y.2.1 Y.2.2.1 → meth.name = Y.1.name → meth.sig.returnType = Y.2.2.2 → meth.locks = false →
    rx_W p l e (headSpec (Cond.code Y.1 Y.2.1 Y.2.2.1 Y.2.2.2 :: rx_words) (rx_rm (d + 1) 0 0)).room s m args below meth c (MQ below (rx_Qc X D G 0 (r.map zv) w') args s 0 0 (rx_A X)) X D G Y.2.2.1 pc (zLm L) (zSm S) w 0 0
/-- from one state to the next -/
def zTr (l : Launch) (d : Nat) (X : rx_X) (D : va_G) (G : rx_G) (Sh : List zC) (Y : rx_Y) (pc : Nat) (L : zL) (S : List zV) (st : zS) (pc1 : Nat) (L1 : zL) (S1 : List zV) (st1 : zS) : Prop :=
  ∀ w : List rx_C, zR Sh st w → ∃ w1 : List rx_C, zR Sh st1 w1 ∧ ∀ (p : Program) (e : Env) (s : State) (m : MethodId) (args : Array Value) (below : List Frame) (meth : Method) (c : Code) (Q : State → Prop), rx_Cx p s m args c X D G Y.1.cls Y.2.1 Y.2.2.1 → meth.name = Y.1.name →
    rx_W p l e (headSpec (Cond.code Y.1 Y.2.1 Y.2.2.1 Y.2.2.2 :: rx_words) (rx_rm (d + 1) 0 0)).room s m args below meth c Q X D G Y.2.2.1 pc1 (zLm L1) (zSm S1) w1 0 0 →
    rx_W p l e (headSpec (Cond.code Y.1 Y.2.1 Y.2.2.1 Y.2.2.2 :: rx_words) (rx_rm (d + 1) 0 0)).room s m args below meth c Q X D G Y.2.2.1 pc (zLm L) (zSm S) w 0 0
theorem zRun_tr {pc pc1 : Nat} (h : zTr l d X D G Sh Y pc L S st pc1 L1 S1 st1) (k : zRun l d X D G Sh Y pc1 L1 S1 st1 r st') : zRun l d X D G Sh Y pc L S st r st' := by
  intro w hw
  obtain ⟨w1, h1, h2⟩ := h w hw
  obtain ⟨w', k1, k2⟩ := k w1 h1
  exact ⟨w', k1, fun p e s m args below meth c C hnm hret hlocks => h2 p e s m args below meth c _ C hnm (k2 p e s m args below meth c C hnm hret hlocks)⟩
def zex0 : Nat → List rx_V → List rx_C → Option (Option rx_V × List rx_C) := fun _ _ _ => none
noncomputable def zKz (T : List rx_E) (L : rx_L) (S : List rx_V) (w : List rx_C) : rx_K := fun cs L' S' w' cc ss => @ite _ (cs = T ∧ L' = L ∧ S' = S ∧ w' = w ∧ cc = 0 ∧ ss = 0) (Classical.propDecidable _) (some ([], [], [], [], 0, 0)) none
theorem zKz_ok {T cs : List rx_E} {L L' : rx_L} {S S' : List rx_V} {w w' : List rx_C} {cc ss : Nat} {r : rx_R} (h : zKz T L S w cs L' S' w' cc ss = some r) : cs = T ∧ L' = L ∧ S' = S ∧ w' = w ∧ cc = 0 ∧ ss = 0 := by
  unfold zKz at h
  split at h
  · rename_i q; exact q
  · cases h
theorem zKz_eq (T : List rx_E) (L : rx_L) (S : List rx_V) (w : List rx_C) : zKz T L S w T L S w 0 0 = some ([], [], [], [], 0, 0) := by
  unfold zKz
  rw [if_pos ⟨rfl, rfl, rfl, rfl, rfl, rfl⟩]
/-- a step of the executor, whatever comes behind it -/
def zEq (G : rx_G) (Sh : List zC) (cd : List rx_E) (nL : Nat) (en : rx_E) (rest : List rx_E) (L : zL) (S : List zV) (st : zS) (T : List rx_E) (L1 : zL) (S1 : List zV) (st1 : zS) : Prop :=
  ∀ w : List rx_C, zR Sh st w → ∃ w1 : List rx_C, zR Sh st1 w1 ∧ ∀ K : rx_K, rx_step G cd nL 0 0 (fun _ => (0, 0)) zex0 K en rest (zLm L) (zSm S) w 0 0 = K T (zLm L1) (zSm S1) w1 0 0
theorem zW_eq {cap : Nat → Nat × Nat} {ex : Nat → List rx_V → List rx_C → Option (Option rx_V × List rx_C)} {w w1 : List rx_C} (hG : rx_Gok G) (hok : rx_okb mi Y.1.cls Y.1.name Y.2.1 en = true) (hnL : Y.2.2.1 = nL) (h1 : rest = T → zpc T = en.1 + en.2.2.1) (h2 : ∀ t, rx_find cd t = T → zpc T = t)
    (hex : ∀ (nu : Nat) (as : List rx_V) (w : List rx_C) (r' : Option rx_V) (w' : List rx_C), ex nu as w = some (r', w') → ∃ Y, mi[nu]? = some Y ∧ Cond.code Y.1 Y.2.1 Y.2.2.1 Y.2.2.2 ∈ rx_words ∧ rx_Met l d (cap nu).1 (cap nu).2 Y X D G as w r' w')
    (h : ∀ K : rx_K, rx_step G cd nL 0 0 cap ex K en rest (zLm L) (zSm S) w 0 0 = K T (zLm L1) (zSm S1) w1 0 0) {p : Program} {e : Env} {s : State} {m : MethodId} {args : Array Value} {below : List Frame} {meth : Method} {c : Code} {Q : State → Prop} (C : rx_Cx p s m args c X D G Y.1.cls Y.2.1 Y.2.2.1) (hnm : meth.name = Y.1.name)
    (hW : rx_W p l e (headSpec (Cond.code Y.1 Y.2.1 Y.2.2.1 Y.2.2.2 :: rx_words) (rx_rm (d + 1) 0 0)).room s m args below meth c Q X D G Y.2.2.1 (zpc T) (zLm L1) (zSm S1) w1 0 0) :
    rx_W p l e (headSpec (Cond.code Y.1 Y.2.1 Y.2.2.1 Y.2.2.2 :: rx_words) (rx_rm (d + 1) 0 0)).room s m args below meth c Q X D G Y.2.2.1 en.1 (zLm L) (zSm S) w 0 0 := by
  subst hnL
  have h3 := h (zKz T (zLm L1) (zSm S1) w1)
  rw [zKz_eq] at h3
  refine rx_step_ok (mi := mi) (d := d) (mc := 0) (ms := 0) (cap := cap) (ex := ex) (K := zKz T (zLm L1) (zSm S1) w1) C hG hnm (Nat.zero_le _) (Nat.zero_le _) (Nat.le_refl _) (by show 64 * d + 64 ≤ 64 * (d + 1); omega) hex hok ?_ ?_ ?_ h3
  · intro L' S' w' cc ss hk
    obtain ⟨e1, rfl, rfl, rfl, rfl, rfl⟩ := zKz_ok hk
    rw [← h1 e1]
    exact hW
  · intro t L' S' w' cc ss hk
    obtain ⟨e1, rfl, rfl, rfl, rfl, rfl⟩ := zKz_ok hk
    rw [← h2 t e1]
    exact hW
  · intro hr
    cases hr
theorem zTr_eq (hG : rx_Gok G) (hok : rx_okb mi Y.1.cls Y.1.name Y.2.1 en = true) (hnL : Y.2.2.1 = nL) (h1 : rest = T → zpc T = en.1 + en.2.2.1) (h2 : ∀ t, rx_find cd t = T → zpc T = t) (h : zEq G Sh cd nL en rest L S st T L1 S1 st1) : zTr l d X D G Sh Y en.1 L S st (zpc T) L1 S1 st1 := by
  intro w hw
  obtain ⟨w1, k1, k2⟩ := h w hw
  exact ⟨w1, k1, fun p e s m args below meth c Q C hnm hW => zW_eq hG hok hnL h1 h2 (fun nu as w r' w' hq => by cases hq) k2 C hnm hW⟩
/-- the goal of a method's body -/
def zGd (l : Launch) (d : Nat) (X : rx_X) (D : va_G) (G : rx_G) (Sh : List zC) (Y : rx_Y) (cd : List rx_E) (Rt : zQ) : zG := fun cs L S st => cs ≠ [] ∧ ((∃ pre, cd = pre ++ cs) → zsk Sh st → (∀ q ∈ L, zok q.2) → (∀ v ∈ S, zok v) → ∃ r st', Rt r st' ∧ ((∀ v, r = some v → zok v) ∧ zsk Sh st') ∧ zRun l d X D G Sh Y (zpc cs) L S st r st')
def zgoal (l : Launch) (d : Nat) (X : rx_X) (D : va_G) (G : rx_G) (Sh : List zC) (Y : rx_Y) (Rt : zQ) (pc : Nat) (L : zL) (S : List zV) (st : zS) : Prop := ∃ r st', Rt r st' ∧ ((∀ v, r = some v → zok v) ∧ zsk Sh st') ∧ zRun l d X D G Sh Y pc L S st r st'
theorem zfind_pc {t : Nat} (h : T ≠ []) (e : rx_find cd t = T) : zpc T = t := by
  rcases rx_find_ok cd t with h3 | ⟨pre2, e2, rest2, h3, h4, h5⟩
  · exact absurd (e.symm.trans h3) h
  · rw [← e, h4]
    exact h5
theorem zgo_tr {pc1 : Nat} (hT : zTr l d X D G Sh Y en.1 L S st pc1 L1 S1 st1) (hk : zgoal l d X D G Sh Y Rt pc1 L1 S1 st1) : zgoal l d X D G Sh Y Rt en.1 L S st := by
  obtain ⟨r, st', k1, k2, k3⟩ := hk
  exact ⟨r, st', k1, k2, zRun_tr hT k3⟩
theorem zrest_pc {pre : List rx_E} (hsq : rx_seq cd = true) (hcd : cd = pre ++ en :: rest) (h : rest ≠ []) : zpc rest = en.1 + en.2.2.1 := by
  cases rest with
  | nil => exact absurd rfl h
  | cons e2 rest2 =>
    subst hcd
    exact rx_seq_ok hsq
theorem zgo (hG : rx_Gok G) (hok : rx_okb mi Y.1.cls Y.1.name Y.2.1 en = true) (hnL : Y.2.2.1 = nL) (hsq : rx_seq cd = true) {pre : List rx_E} (hcd : cd = pre ++ en :: rest) (hT : T = rest ∨ ∃ t, T = rx_find cd t) (hK : zGd l d X D G Sh Y cd Rt T L1 S1 st1) (hst : zsk Sh st1) (hL : ∀ q ∈ L1, zok q.2) (hS : ∀ v ∈ S1, zok v) (h : zEq G Sh cd nL en rest L S st T L1 S1 st1) : zgoal l d X D G Sh Y Rt en.1 L S st := by
  obtain ⟨hne, hK⟩ := hK
  have hpre : ∃ pre, cd = pre ++ T := by
    rcases hT with rfl | ⟨t, rfl⟩
    · exact ⟨pre ++ [en], by rw [hcd, List.append_assoc]; rfl⟩
    · rcases rx_find_ok cd t with h3 | ⟨pre2, e2, rest2, h3, h4, h5⟩
      · exact absurd h3 hne
      · exact ⟨pre2, by rw [h4]; exact h3⟩
  refine zgo_tr (zTr_eq hG hok hnL (fun e => ?_) (fun t e => zfind_pc hne e) h) (hK hpre hst hL hS)
  subst e
  exact zrest_pc hsq hcd hne
theorem zgoR (hsq : rx_seq cd = true) {pre : List rx_E} (hcd : cd = pre ++ en :: rest) (hK : zGd l d X D G Sh Y cd Rt rest L1 S1 st1) (hst : zsk Sh st1) (hL : ∀ q ∈ L1, zok q.2) (hS : ∀ v ∈ S1, zok v) (h : zTr l d X D G Sh Y en.1 L S st (en.1 + en.2.2.1) L1 S1 st1) : zgoal l d X D G Sh Y Rt en.1 L S st := by
  obtain ⟨hne, hK⟩ := hK
  have hk := hK ⟨pre ++ [en], by rw [hcd, List.append_assoc]; rfl⟩ hst hL hS
  rw [zrest_pc hsq hcd hne] at hk
  exact zgo_tr h hk
end ZRUN
