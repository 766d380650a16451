/-! the law: a run from a place to a place, and to its end -/
noncomputable def rx_is (o : Option rx_R) (pc : Nat) (L : rx_L) (S : List rx_V) (w : List rx_C) (cc ss : Nat) : Bool := match o with
  | some (e :: _, L', S', w', cc', ss') => Nat.beq e.1 pc && (@decide _ (rx_dL L' L) && (@decide _ (rx_dS S' S) && (@decide _ (rx_dW w' w) && (Nat.beq cc' cc && Nat.beq ss' ss))))
  | _ => false
theorem rx_is_ok {o : Option rx_R} {pc : Nat} {L : rx_L} {S : List rx_V} {w : List rx_C} {cc ss : Nat} (h : rx_is o pc L S w cc ss = true) : ∃ e rest, o = some (e :: rest, L, S, w, cc, ss) ∧ e.1 = pc := by
  unfold rx_is at h
  split at h
  · rename_i e rest L' S' w' cc' ss'
    obtain ⟨h1, h⟩ := rx_an h
    obtain ⟨h2, h⟩ := rx_an h
    obtain ⟨h3, h⟩ := rx_an h
    obtain ⟨h4, h⟩ := rx_an h
    obtain ⟨h5, h6⟩ := rx_an h
    have h2 := @of_decide_eq_true _ (rx_dL _ _) h2
    have h3 := @of_decide_eq_true _ (rx_dS _ _) h3
    have h4 := @of_decide_eq_true _ (rx_dW _ _) h4
    have h5 := rx_bq h5
    have h6 := rx_bq h6
    subst h2; subst h3; subst h4; subst h5; subst h6
    exact ⟨e, rest, rfl, rx_bq h1⟩
  · cases h
/-- the law's end: 1 on the stack -/
noncomputable def rx_isE (o : Option rx_R) : Bool := match o with
  | some ((_, .ireturn, _) :: _, _, [.inl (.inl n)], _, cc, ss) => Nat.beq n 1 && (Nat.ble cc 600000 && Nat.ble ss 7302250)
  | _ => false
noncomputable def rx_lawR (F : rx_F) (sl stop : Nat) (cs : List rx_E) (L : rx_L) (S : List rx_V) (w : List rx_C) (cc ss : Nat) : Option rx_R := rx_loop (rx_G0 F sl) rx_mL 4 600000 7302250 (rx_cap rx_tb) (rx_ex (rx_G0 F sl) rx_tb 10000000 20) stop 10000000 cs L S w cc ss
section RXL
variable {p : Program} {l : Launch} {e : Env} {s : State} {m : MethodId} {below : List Frame} {meth : Method} {c : Code} {b L : Nat} {xs : Nat → Int32} {X : rx_X} {D : va_G}
/-- what the law's walk stands on -/
def rx_lawC (p : Program) (s : State) (m : MethodId) (meth : Method) (c : Code) (b L : Nat) (xs : Nat → Int32) (X : rx_X) (D : va_G) : Prop := lw_At p s m meth c b L xs ∧ X.1 = xs ∧ X.2.1 = s.heap.size ∧ meth.name = "law" ∧ ∀ (F : rx_F) (sl : Nat), (sl = 0 ∨ sl = L + 1) → rx_U0 X D (rx_G0 F sl) s
abbrev rx_LW (p : Program) (l : Launch) (e : Env) (s : State) (m : MethodId) (below : List Frame) (meth : Method) (c : Code) (b : Nat) (X : rx_X) (D : va_G) (pc : Nat) (Lc : rx_L) (S : List rx_V) (w : List rx_C) (cc ss : Nat) : Prop := rx_W p l e room_1 s m #[Value.ref b] below meth c (lw_Z below #[Value.ref b] s) X D (rx_G0 [] 0) 4 pc Lc S w cc ss
theorem rx_lawG (C0 : rx_lawC p s m meth c b L xs X D) {F : rx_F} {sl stop pc : Nat} (hsl : sl = 0 ∨ sl = L + 1) (hF : rx_fok X F) {Lc : rx_L} {S : List rx_V} {w : List rx_C} {cc ss : Nat} {r : rx_R} (h : rx_lawR F sl stop (rx_find rx_mL pc) Lc S w cc ss = some r)
    (hE : ∀ (e1 : rx_E) (rest1 : List rx_E) (L1 : rx_L) (S1 : List rx_V) (w1 : List rx_C) (c1 s1 : Nat), e1 ∈ rx_mL → r = (e1 :: rest1, L1, S1, w1, c1, s1) → rx_LW p l e s m below meth c b X D e1.1 L1 S1 w1 c1 s1) : rx_LW p l e s m below meth c b X D pc Lc S w cc ss := by
  obtain ⟨⟨hx, hb, hr, hml, hown, hts, hX, hbl, hlocks, hgv⟩, e1, e2, hnm, hU⟩ := C0
  have C : rx_Cx p s m #[Value.ref b] c X D (rx_G0 F sl) "GreyRouteLaw" code 4 := ⟨hx, hb, hml, hown, fun w h => hts w (List.mem_filter.mp h).1, hU F sl hsl, hF⟩
  rcases rx_find_ok rx_mL pc with h0 | ⟨pre, en, rest, h1, h2, h3⟩
  · rw [h0] at h; cases h
  · rw [h2] at h
    have hgo := rx_loop_ok (l := l) (e := e) (R := room_1) (below := below) (meth := meth) (Q := lw_Z below #[Value.ref b] s) (mi := rx_mis) (nm := "law") (cap := rx_cap rx_tb) (ex := rx_ex (rx_G0 F sl) rx_tb 10000000 20) (mc := 600000) (ms := 7302250) (d := 20) (cd := rx_mL) (stop := stop) (r := r) C (rx_Gok0 F sl) hnm (Nat.le_refl _) (Nat.le_refl _) (by decide) (by decide) (rx_ex_ok (rx_Gok0 F sl) hF rx_T_ok 20) rx_mL_ok rx_mL_sq (fun e9 pre9 rest9 L9 S9 w9 c9 s9 hcd9 hr9 => hE e9 rest9 L9 S9 w9 c9 s9 (by rw [hcd9]; exact List.mem_append_right _ List.mem_cons_self) hr9) 10000000 pre en rest Lc S w cc ss h1 h
    rw [h3] at hgo
    exact hgo
theorem rx_lawS (C0 : rx_lawC p s m meth c b L xs X D) {F : rx_F} {sl stop pc pc' : Nat} (hsl : sl = 0 ∨ sl = L + 1) (hF : rx_fok X F) {Lc L' : rx_L} {S S' : List rx_V} {w w' : List rx_C} {cc ss cc' ss' : Nat} (h : rx_is (rx_lawR F sl stop (rx_find rx_mL pc) Lc S w cc ss) pc' L' S' w' cc' ss' = true) (hk : rx_LW p l e s m below meth c b X D pc' L' S' w' cc' ss') : rx_LW p l e s m below meth c b X D pc Lc S w cc ss := by
  obtain ⟨e0, rest0, h1, h2⟩ := rx_is_ok h
  refine rx_lawG C0 hsl hF h1 (fun e1 rest1 L1 S1 w1 c1 s1 _ hr => ?_)
  cases hr
  rw [h2]
  exact hk
theorem rx_lawE (C0 : rx_lawC p s m meth c b L xs X D) {F : rx_F} {sl pc : Nat} (hsl : sl = 0 ∨ sl = L + 1) (hF : rx_fok X F) {Lc : rx_L} {S : List rx_V} {w : List rx_C} {cc ss : Nat} (h : rx_isE (rx_lawR F sl 99999999 (rx_find rx_mL pc) Lc S w cc ss) = true) : rx_LW p l e s m below meth c b X D pc Lc S w cc ss := by
  cases ho : rx_lawR F sl 99999999 (rx_find rx_mL pc) Lc S w cc ss with
  | none => rw [ho] at h; cases h
  | some r =>
    refine rx_lawG C0 hsl hF ho (fun e1 rest1 L1 S1 w1 c1 s1 hm hr => ?_)
    rw [ho, hr] at h
    obtain ⟨⟨hx, hb, hret, hml, hown, hts, hX, hbl, hlocks, hgv⟩, -, e2, -, -⟩ := C0
    have hok := List.all_eq_true.mp rx_mL_ok e1 hm
    obtain ⟨pc1, i1, t1⟩ := e1
    unfold rx_isE at h
    split at h
    · rename_i heq
      cases heq
      obtain ⟨g1, h⟩ := rx_an h
      obtain ⟨g2, g3⟩ := rx_an h
      have g1 := rx_bq g1
      subst g1
      obtain ⟨hd, -⟩ := rx_d1_ok hok
      intro H locs ls hI hl
      refine va_forget (fun q hq => by have := hI.2.2.2.2 q hq; unfold rx_A at this; rw [e2] at this; exact this) ?_
      refine W.widen (k := 600000) (n := 7302250) (rx_bl g2) (rx_bl g3) ?_
      exact lw_ret hx hb hret hlocks hd
    · cases h
theorem rx_fok_c {X : rx_X} {u : Nat × List (Nat × Nat)} {lo hi : Nat} {F : rx_F} (h1 : lo ≤ rx_b (rx_U X u.1 u.2)) (h2 : rx_b (rx_U X u.1 u.2) ≤ hi) (h : rx_fok X F) : rx_fok X ((u, lo, hi) :: F) := by
  intro q hq
  rcases List.mem_cons.mp hq with rfl | hq
  · exact ⟨h1, h2⟩
  · exact h q hq
theorem rx_fok_n {X : rx_X} : rx_fok X [] := fun q hq => by cases hq
end RXL
