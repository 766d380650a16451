/-! a base further on: the last cells of a world, alone -/
def rx_upV (k : Nat) (v : rx_V) : rx_V := match v with
  | .inr (.inr (.inl (some j))) => .inr (.inr (.inl (some (j + k))))
  | v => v
def rx_upC (k : Nat) (c : rx_C) : rx_C := match c with
  | .inl o => .inl (o.1, o.2.map (rx_upV k))
  | .inr a => .inr (a.1, a.2.1, a.2.2.map (fun q => (q.1, rx_upV k q.2)))
def rx_Xu (X : rx_X) (k : Nat) : rx_X := (X.1, X.2.1 + k, X.2.2.1, X.2.2.2)
theorem rx_U_up (X : rx_X) (k j : Nat) (u : List (Nat × Nat)) : rx_U (rx_Xu X k) j u = rx_U X j u := by
  induction u with
  | nil => rfl
  | cons q t ih => show rx_op q.1 (rx_U (rx_Xu X k) j t) (nI q.2) = rx_op q.1 (rx_U X j t) (nI q.2); rw [ih]
theorem rx_N_up (X : rx_X) (k : Nat) (i : rx_I) : rx_N (rx_Xu X k) i = rx_N X i := by
  rcases i with n | u
  · rfl
  · exact rx_U_up X k u.1 u.2
theorem rx_fok_up {X : rx_X} {k : Nat} {F : rx_F} (h : rx_fok X F) : rx_fok (rx_Xu X k) F := fun q hq => by rw [rx_U_up]; exact h q hq
theorem rx_d_up (X : rx_X) (k : Nat) (v : rx_V) : rx_d (rx_Xu X k) v = rx_d X (rx_upV k v) := by
  rcases v with i | ((n | n) | ((_ | j) | j))
  · show Value.int (rx_N (rx_Xu X k) i) = Value.int (rx_N X i)
    rw [rx_N_up]
  · rfl
  · rfl
  · rfl
  · show Value.ref (X.2.1 + k + j) = Value.ref (X.2.1 + (j + k))
    rw [show X.2.1 + k + j = X.2.1 + (j + k) by omega]
  · rfl
theorem rx_vi_up (X : rx_X) (k : Nat) (v : rx_V) : rx_vi (rx_Xu X k) v = rx_vi X (rx_upV k v) := by
  rcases v with i | ((n | n) | ((_ | j) | j)) <;> first | exact rx_N_up X k i | rfl
theorem rx_vl_up (X : rx_X) (k : Nat) (v : rx_V) : rx_vl (rx_Xu X k) v = rx_vl X (rx_upV k v) := by
  rcases v with i | ((n | n) | ((_ | j) | j)) <;> rfl
theorem rx_vr_up (X : rx_X) (k : Nat) (v : rx_V) : rx_vr (rx_Xu X k) v = rx_vr X (rx_upV k v) := by
  rcases v with i | ((n | n) | ((_ | j) | j)) <;> first | rfl | skip
  show some (X.2.1 + k + j) = some (X.2.1 + (j + k))
  rw [show X.2.1 + k + j = X.2.1 + (j + k) by omega]
theorem rx_lk_up (k : Nat) (u : List (Nat × rx_V)) (j : Nat) (d : rx_V) (hd : rx_upV k d = d) : rx_lk (u.map (fun q => (q.1, rx_upV k q.2))) j d = rx_upV k (rx_lk u j d) := by
  induction u with
  | nil => exact hd.symm
  | cons q t ih =>
    change cond (Nat.beq q.1 j) (rx_upV k q.2) (rx_lk (t.map (fun q => (q.1, rx_upV k q.2))) j d) = rx_upV k (cond (Nat.beq q.1 j) q.2 (rx_lk t j d))
    cases Nat.beq q.1 j with
    | true => rfl
    | false => exact ih
theorem rx_ct_up (X : rx_X) (k t : Nat) (u : List (Nat × rx_V)) : rx_ct (rx_Xu X k) t u = rx_ct X t (u.map (fun q => (q.1, rx_upV k q.2))) := by
  unfold rx_ct
  split
  · congr 2; funext j; rw [rx_lk_up k u j _ rfl, rx_vl_up]
  · congr 5; funext j; rw [rx_lk_up k u j _ rfl, rx_vr_up]
  · congr 1; funext j; rw [rx_lk_up k u j _ rfl, rx_vi_up]
theorem rx_ce_up (X : rx_X) (k : Nat) (c : rx_C) : rx_ce (rx_Xu X k) c = rx_ce X (rx_upC k c) := by
  rcases c with o | a
  · show Sum.inr (o.1, o.2.map (rx_d (rx_Xu X k))) = Sum.inr (o.1, (o.2.map (rx_upV k)).map (rx_d X))
    rw [List.map_map]
    congr 3
    funext v
    exact rx_d_up X k v
  · show Sum.inl (X.2.2.2 a.1, a.2.1, rx_ct (rx_Xu X k) a.1 a.2.2) = Sum.inl (X.2.2.2 a.1, a.2.1, rx_ct X a.1 (a.2.2.map (fun q => (q.1, rx_upV k q.2))))
    rw [rx_ct_up]
theorem rx_w_up (X : rx_X) (k : Nat) : ∀ (w : List rx_C) (j : Nat), rx_w (rx_Xu X k) j w = rx_w X (k + j) (w.map (rx_upC k)) := by
  intro w
  induction w with
  | nil => intro j; rfl
  | cons c t ih =>
    intro j
    show (X.2.1 + k + j, rx_ce (rx_Xu X k) c) :: rx_w (rx_Xu X k) (j + 1) t = (X.2.1 + (k + j), rx_ce X (rx_upC k c)) :: rx_w X (k + j + 1) (t.map (rx_upC k))
    rw [ih, rx_ce_up, show X.2.1 + k + j = X.2.1 + (k + j) by omega]
    rfl
theorem rx_P_drop {X : rx_X} {D : va_G} {k : Nat} {w wm : List rx_C} {H : Heap} (h : va_P D vwCl (rx_w X 0 w) H) (hw : w.drop k = wm.map (rx_upC k)) : va_P D vwCl (rx_w (rx_Xu X k) 0 wm) H := by
  rw [rx_w_up, ← hw, Nat.add_zero]
  intro i q hi
  rw [rx_w_at, List.getElem?_drop] at hi
  refine h (k + i) q ?_
  rw [rx_w_at, Nat.zero_add]
  exact hi
theorem rx_U0_up {X : rx_X} {D : va_G} {G : rx_G} {U : State} {k : Nat} (h : rx_U0 X D G U) (hk : X.2.1 + k ≤ U.heap.size) : rx_U0 (rx_Xu X k) D G U := by
  obtain ⟨h1, h2, h3, ⟨b, b1, b2, b3⟩, ⟨q1, q2, tx, c1, c2, c3, c4, c5, c6, c7⟩, h5, h6, h7⟩ := h
  have hA : ∀ q, rx_A (rx_Xu X k) q → rx_A X q := fun q hq => Nat.le_trans (Nat.le_add_right _ _) hq
  exact ⟨h1, h2, h3, ⟨b, b1, b2, Nat.lt_of_lt_of_le b3 (Nat.le_add_right _ _)⟩, ⟨q1, q2, tx, c1, c2, c3, c4.narrow hA, c5.narrow hA, c6.narrow hA, c7.narrow hA⟩, h5.narrow hA, h6.narrow hA, hk⟩
/-- a method on the last cells, of which only the answer is told -/
def rx_Qx (X : rx_X) (v : Value) : Array Value → State → Outcome → State → Prop := fun _ st oc t => oc = .returned (some v) ∧ st.heap.size ≤ t.heap.size ∧ ∀ q : Nat, q < st.heap.size → ¬ rx_A X q → t.heap[q]? = st.heap[q]?
section RXU
variable {p : Program} {l : Launch} {e : Env} {s : State} {m : MethodId} {below : List Frame} {meth : Method} {c : Code} {b L : Nat} {xs : Nat → Int32} {X : rx_X} {D : va_G}
/-- the law calls a method of the object that is the first of the last cells -/
theorem rx_mcall (C0 : rx_lawC p s m meth c b L xs X D) {Y : rx_Y} {pc idx n k d c1 s1 : Nat} {F : rx_F} {Lc : rx_L} {as' S' : List rx_V} {w wm : List rx_C} {cc ss : Nat} {v : Value} {fs : List rx_V} {ci : Nat} (hd : decode code pc = .ok (.invokevirtual idx, 3)) (hcc : cc + c1 ≤ 600000) (hss : ss + s1 ≤ 7302250) (hdd : d ≤ 100) (hmx : Y.2.2.1 ≤ 45)
    (hc : Cond.code Y.1 Y.2.1 Y.2.2.1 Y.2.2.2 ∈ rx_words) (hi : Cond.initialized Y.1.cls ∈ rx_words) (hst : Cond.instanceMethod Y.1 ∈ rx_words) (hse : Cond.selects Y.1.cls Y.1 Y.1 ∈ rx_words) (hlk : Cond.methodLink "GreyRouteLaw" idx Y.1 ∈ rx_words) (hy : Y.1.cls ≠ "java/lang/invoke/MethodHandle" ∧ Y.1.cls ≠ "java/lang/invoke/VarHandle" ∧ (parseMethodDescriptor Y.1.desc).map (fun d => d.parameters.length) = some n)
    (hcl : ∃ T N, vwCl[ci]? = some (Y.1.cls, T, N)) (hw0 : wm[0]? = some (.inl (ci, fs))) (hw : w.drop k = wm.map (rx_upC k)) (hlen : w.length = k + wm.length) (hal : as'.length = n) (hS' : rx_cats S' ≤ 8)
    (hM : Met l Y.1 (Cond.code Y.1 Y.2.1 Y.2.2.1 Y.2.2.2 :: rx_words) (rx_rm d c1 s1) (rx_Pc (rx_Xu X k) D (rx_G0 F 0) (.inr (.inr (.inl (some 0))) :: as') wm) (rx_Qx (rx_Xu X k) v) c1 s1 (rx_A (rx_Xu X k)))
    (hk : ∀ (H : Heap) (locs : List Loc) (ls : Array Slot), va_S (rx_A X) s.heap H locs → lv_has ls 4 (rx_Lm X Lc) → W p l e room_1 s m #[Value.ref b] below meth c H locs (cc + c1) (ss + s1) (lw_Z below #[Value.ref b] s) (F0 m (pc + 3) ls (v :: S'.map (rx_d X)))) :
    rx_LW p l e s m below meth c b X D pc Lc (as'.reverse.map (rx_upV k) ++ .inr (.inr (.inl (some k))) :: S') w cc ss := by
  obtain ⟨⟨hx, hb, hr, hml, hown, hts, hX, hbl, hlocks, hgv⟩, e1, e2, hnm, hU⟩ := C0
  have hU := hU F 0 (Or.inl rfl)
  have hw' : ∀ w ∈ rx_words, w.before #[Value.ref b] s = true := fun w h => hts w (List.mem_filter.mp h).1
  intro H locs ls hI hl
  have hlow := rx_low hI hU.2.2.2.2.2.2.2
  have hrun : va_Run p l e room_1 s m #[Value.ref b] below meth c H locs cc ss c1 s1 (F0 m pc ls ((as'.reverse.map (rx_upV k) ++ .inr (.inr (.inl (some k))) :: S').map (rx_d X))) (S'.map (rx_d X)) (rx_Qx (rx_Xu X k) v #[]) (rx_A (rx_Xu X k)) := by
    refine rx_W_sizeR (fun hsz => ?_)
    have hhi := hI.2.1 rfl
    have hPm := rx_P_drop (D := D) hI.1 hw
    obtain ⟨T, N, hcl⟩ := hcl
    have hrec := va_recv (s := s) hU.1 hPm hcl (rx_w_get (X := rx_Xu X k) hw0)
    have hargs : (.inr (.inr (.inl (some 0))) :: as' : List rx_V).map (rx_d (rx_Xu X k)) = .ref (X.2.1 + k) :: as'.map (rx_d (rx_Xu X k)) := rfl
    have hpv : PreV s H Y.1.cls (X.2.1 + k) (rx_Pc (rx_Xu X k) D (rx_G0 F 0) (.inr (.inr (.inl (some 0))) :: as') wm) (as'.map (rx_d (rx_Xu X k))) := by
      refine ⟨rx_Pc_blind _ _ _ _ _, hrec, fun U hU2 hW => ⟨by rw [hargs], by rw [hU2]; exact hPm, fun _ => ?_, ?_⟩⟩
      · show U.heap.size ≤ X.2.1 + k + wm.length
        rw [hU2]
        omega
      · refine rx_U0_up (rx_U0.to hW ?_ (fun q h1 h2 => ?_) hU) ?_
        · rw [hU2]; exact hI.2.2.1
        · rw [hU2]; exact hI.2.2.2.1 q h1 h2
        · rw [hU2]; omega
    have hstk : (as'.reverse.map (rx_upV k) ++ .inr (.inr (.inl (some k))) :: S').map (rx_d X) = (as'.map (rx_d (rx_Xu X k))).reverse ++ .ref (X.2.1 + k) :: S'.map (rx_d X) := by
      have e9 : ∀ zs : List rx_V, (zs.map (rx_upV k)).map (rx_d X) = zs.map (rx_d (rx_Xu X k)) := fun zs => by
        rw [List.map_map]
        exact List.map_congr_left (fun v _ => (rx_d_up X k v).symm)
      rw [List.map_append, e9, ← List.map_reverse]
      rfl
    have hR : (rx_rm d c1 s1).frames + 1 ≤ room_1.frames ∧ 8 + (Y.2.2.1 + 11) + (rx_rm d c1 s1).locals ≤ room_1.locals := ⟨by show d + 1 ≤ 2048; omega, by show 8 + (Y.2.2.1 + 11) + 64 * d ≤ 84000; omega⟩
    have hrm : ((S'.map (rx_d X)).map (fun v => v.category)).sum ≤ 8 := by rw [rx_cats_eq]; exact hS'
    exact va_runV (As := as'.map (rx_d (rx_Xu X k))) (b := X.2.1 + k) ⟨hx, hb, hml, hown, hw'⟩ hM ⟨callB_of n hw' (rx_goodc hc) rfl rfl rfl (hw' _ hi) (hw' _ hlk) hy hR, hw' _ hst, hw' _ hse⟩ hpv rfl (by rw [List.length_map]; exact hal) hl.1 hstk (lv_room hrm) hd ⟨hcc, hss⟩
  intro T hT Z
  obtain ⟨v', st₀, t, T', L1, e0, Z', hL, e3, e4, ⟨hv, hz2, hk2⟩, st⟩ := hrun T hT Z
  rw [e0] at hz2 hk2
  cases hv
  have hA : ∀ q, rx_A (rx_Xu X k) q → rx_A X q := fun q hq => Nat.le_trans (Nat.le_add_right _ _) hq
  have hV : va_S (rx_A X) s.heap T'.heap (locs ++ L1) := by
    refine ⟨Nat.le_trans hI.2.2.1 (by rw [e3]; exact hz2), fun q h1 h2 => ?_, fun q hq => ?_⟩
    · rw [e3, hk2 q (Nat.lt_of_lt_of_le h1 hI.2.2.1) (fun z => h2 (hA q z))]
      exact hI.2.2.2.1 q h1 h2
    · rcases List.mem_append.mp hq with z | z
      · exact hI.2.2.2.2 q z
      · exact hA _ (hL q z)
  obtain ⟨t2, a1, b1⟩ := hk T'.heap (locs ++ L1) ls hV hl T' rfl Z'
  exact ⟨t2, st t2 a1, b1⟩
/-- a run without cells, to the law's end -/
noncomputable def rx_G1 (F : rx_F) (sl : Nat) : rx_G := (F, false, sl, rx_txt, 125, rx_dfs)
theorem rx_lawZ (C0 : rx_lawC p s m meth c b L xs X D) {pc : Nat} {Lc : rx_L} {S : List rx_V} {cc ss : Nat} (h : rx_isE (rx_loop (rx_G1 [] (L + 1)) rx_mL 4 600000 7302250 (rx_cap rx_tb) (rx_ex (rx_G1 [] (L + 1)) rx_tb 100 0) 99999999 100 (rx_find rx_mL pc) Lc S [] cc ss) = true) :
    ∀ (H : Heap) (locs : List Loc) (ls : Array Slot), va_S (rx_A X) s.heap H locs → lv_has ls 4 (rx_Lm X Lc) → W p l e room_1 s m #[Value.ref b] below meth c H locs cc ss (lw_Z below #[Value.ref b] s) (F0 m pc ls (S.map (rx_d X))) := by
  intro H locs ls hV hl
  obtain ⟨⟨hx, hb, hret, hml, hown, hts, hX, hbl, hlocks, hgv⟩, e1, e2, hnm, hU⟩ := C0
  have C : rx_Cx p s m #[Value.ref b] c X D (rx_G1 [] (L + 1)) "GreyRouteLaw" code 4 := ⟨hx, hb, hml, hown, fun w h => hts w (List.mem_filter.mp h).1, hU [] (L + 1) (Or.inr rfl), rx_fok_n⟩
  cases ho : rx_loop (rx_G1 [] (L + 1)) rx_mL 4 600000 7302250 (rx_cap rx_tb) (rx_ex (rx_G1 [] (L + 1)) rx_tb 100 0) 99999999 100 (rx_find rx_mL pc) Lc S [] cc ss with
  | none => rw [ho] at h; cases h
  | some r =>
    rcases rx_find_ok rx_mL pc with h0 | ⟨pre, en, rest, h1, h2, h3⟩
    · rw [h0] at ho; cases ho
    · rw [h2] at ho
      have hgo : rx_W p l e room_1 s m #[Value.ref b] below meth c (lw_Z below #[Value.ref b] s) X D (rx_G1 [] (L + 1)) 4 en.1 Lc S [] cc ss := by
        refine rx_loop_ok (mi := rx_mis) (nm := "law") (cap := rx_cap rx_tb) (ex := rx_ex (rx_G1 [] (L + 1)) rx_tb 100 0) (mc := 600000) (ms := 7302250) (d := 0) (cd := rx_mL) (stop := 99999999) (r := r) C (rx_Gok0 [] (L + 1)) hnm (Nat.le_refl _) (Nat.le_refl _) (by decide) (by decide) (fun nu as w r' w' h9 => by cases h9) rx_mL_ok rx_mL_sq ?_ 100 pre en rest Lc S [] cc ss h1 ho
        intro e1' pre1 rest1 L1 S1 w1 c1 s1 hcd1 hr1
        have hm : e1' ∈ rx_mL := by rw [hcd1]; exact List.mem_append_right _ List.mem_cons_self
        have hok := List.all_eq_true.mp rx_mL_ok e1' hm
        rw [h2, ho, hr1] at h
        obtain ⟨pc1, i1, t1⟩ := e1'
        unfold rx_isE at h
        split at h
        · rename_i heq
          cases heq
          obtain ⟨g1, h⟩ := rx_an h
          obtain ⟨g2, g3⟩ := rx_an h
          have g1 := rx_bq g1
          subst g1
          obtain ⟨hd, -⟩ := rx_d1_ok hok
          intro H locs ls hI hl
          refine va_forget (fun q hq => by have := hI.2.2.2.2 q hq; unfold rx_A at this; rw [e2] at this; exact this) ?_
          refine W.widen (k := 600000) (n := 7302250) (rx_bl g2) (rx_bl g3) ?_
          exact lw_ret hx hb hret hlocks hd
        · cases h
      rw [h3] at hgo
      exact hgo H locs ls ⟨fun k q hk => by simp [rx_w] at hk, fun q => (by cases q), hV⟩ hl
end RXU
