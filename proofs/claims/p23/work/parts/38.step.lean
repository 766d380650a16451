/-! a step of the executor is steps of the machine; a run; a call -/
section RXT
variable {p : Program} {l : Launch} {e : Env} {R : Room} {s : State} {m : MethodId} {args : Array Value} {below : List Frame} {meth : Method} {c : Code} {Q : State → Prop} {X : rx_X} {D : va_G} {G : rx_G} {own nm : String} {bc : ByteArray} {nL : Nat} {K : rx_K} {rest cd : List rx_E} {L : rx_L} {S : List rx_V} {w : List rx_C} {cc ss mc ms d : Nat} {r : rx_R} {mi : List rx_Y} {cap : Nat → Nat × Nat} {ex : Nat → List rx_V → List rx_C → Option (Option rx_V × List rx_C)}
/-- what is fixed: the classes, the blank fields, the text -/
def rx_Gok (G : rx_G) : Prop := (∀ (a : Nat) (q : vw_C), vwCl[a]? = some q → rx_clOk q) ∧ (∀ (X : rx_X) (a : Nat) (q : vw_C) (df : List rx_V), vwCl[a]? = some q → G.2.2.2.2.2[a]? = some df → ∀ j, j < q.2.2 → defaultValue (rx_ty q.2.1 j) = vp_V (df.map (rx_d X)) j) ∧ (G.2.2.2.1.length = G.2.2.2.2.1 ∧ G.2.2.2.2.1 < 2147483648)
theorem rx_step_ok (C : rx_Cx p s m args c X D G own bc nL) (hG : rx_Gok G) (hnm : meth.name = nm) (hmc : mc ≤ R.cells) (hms : ms ≤ R.slots) (hfr : d + 1 ≤ R.frames) (hlo : 64 * d + 64 ≤ R.locals)
    (hex : ∀ (nu : Nat) (as : List rx_V) (w : List rx_C) (r' : Option rx_V) (w' : List rx_C), ex nu as w = some (r', w') → ∃ Y, mi[nu]? = some Y ∧ Cond.code Y.1 Y.2.1 Y.2.2.1 Y.2.2.2 ∈ rx_words ∧ rx_Met l d (cap nu).1 (cap nu).2 Y X D G as w r' w') {en : rx_E} (hok : rx_okb mi own nm bc en = true)
    (hS : rx_hS (rx_W p l e R s m args below meth c Q X D G nL) K rest r (en.1 + en.2.2.1)) (hJ : ∀ t : Nat, rx_hS (rx_W p l e R s m args below meth c Q X D G nL) K (rx_find cd t) r t) (hE : r = (en :: rest, L, S, w, cc, ss) → rx_W p l e R s m args below meth c Q X D G nL en.1 L S w cc ss) (h : rx_step G cd nL mc ms cap ex K en rest L S w cc ss = some r) : rx_W p l e R s m args below meth c Q X D G nL en.1 L S w cc ss := by
  obtain ⟨pc, i, len, a, b, k, t⟩ := en
  cases i with
  | iadd =>
    obtain ⟨hd, hlen⟩ := rx_d1_ok hok
    have hlen : len = _ := hlen
    subst hlen
    exact rx_q_iadd C hd hS h
  | isub =>
    obtain ⟨hd, hlen⟩ := rx_d1_ok hok
    have hlen : len = _ := hlen
    subst hlen
    exact rx_q_isub C hd hS h
  | imul =>
    obtain ⟨hd, hlen⟩ := rx_d1_ok hok
    have hlen : len = _ := hlen
    subst hlen
    exact rx_q_imul C hd hS h
  | ior =>
    obtain ⟨hd, hlen⟩ := rx_d1_ok hok
    have hlen : len = _ := hlen
    subst hlen
    exact rx_q_ior C hd hS h
  | ixor =>
    obtain ⟨hd, hlen⟩ := rx_d1_ok hok
    have hlen : len = _ := hlen
    subst hlen
    exact rx_q_ixor C hd hS h
  | ishl =>
    obtain ⟨hd, hlen⟩ := rx_d1_ok hok
    have hlen : len = _ := hlen
    subst hlen
    exact rx_q_ishl C hd hS h
  | iushr =>
    obtain ⟨hd, hlen⟩ := rx_d1_ok hok
    have hlen : len = _ := hlen
    subst hlen
    exact rx_q_iushr C hd hS h
  | idiv =>
    obtain ⟨hd, hlen⟩ := rx_d1_ok hok
    have hlen : len = _ := hlen
    subst hlen
    exact rx_q_idiv C hd hS h
  | irem =>
    obtain ⟨hd, hlen⟩ := rx_d1_ok hok
    have hlen : len = _ := hlen
    subst hlen
    exact rx_q_irem C hd hS h
  | iand =>
    obtain ⟨hd, hlen⟩ := rx_d1_ok hok
    have hlen : len = _ := hlen
    subst hlen
    exact rx_q_iand C hd hS h
  | ishr =>
    obtain ⟨hd, hlen⟩ := rx_d1_ok hok
    have hlen : len = _ := hlen
    subst hlen
    exact rx_q_ishr C hd hS h
  | i2c =>
    obtain ⟨hd, hlen⟩ := rx_d1_ok hok
    have hlen : len = _ := hlen
    subst hlen
    exact rx_q_i2c C hd hS h
  | i2b =>
    obtain ⟨hd, hlen⟩ := rx_d1_ok hok
    have hlen : len = _ := hlen
    subst hlen
    exact rx_q_i2b C hd hS h
  | i2l =>
    obtain ⟨hd, hlen⟩ := rx_d1_ok hok
    have hlen : len = _ := hlen
    subst hlen
    exact rx_q_i2l C hd hS h
  | l2i =>
    obtain ⟨hd, hlen⟩ := rx_d1_ok hok
    have hlen : len = _ := hlen
    subst hlen
    exact rx_q_l2i C hd hS h
  | ladd =>
    obtain ⟨hd, hlen⟩ := rx_d1_ok hok
    have hlen : len = _ := hlen
    subst hlen
    exact rx_q_ladd C hd hS h
  | lsub =>
    obtain ⟨hd, hlen⟩ := rx_d1_ok hok
    have hlen : len = _ := hlen
    subst hlen
    exact rx_q_lsub C hd hS h
  | lmul =>
    obtain ⟨hd, hlen⟩ := rx_d1_ok hok
    have hlen : len = _ := hlen
    subst hlen
    exact rx_q_lmul C hd hS h
  | land =>
    obtain ⟨hd, hlen⟩ := rx_d1_ok hok
    have hlen : len = _ := hlen
    subst hlen
    exact rx_q_land C hd hS h
  | lor =>
    obtain ⟨hd, hlen⟩ := rx_d1_ok hok
    have hlen : len = _ := hlen
    subst hlen
    exact rx_q_lor C hd hS h
  | ldiv =>
    obtain ⟨hd, hlen⟩ := rx_d1_ok hok
    have hlen : len = _ := hlen
    subst hlen
    exact rx_q_ldiv C hd hS h
  | lrem =>
    obtain ⟨hd, hlen⟩ := rx_d1_ok hok
    have hlen : len = _ := hlen
    subst hlen
    exact rx_q_lrem C hd hS h
  | lcmp =>
    obtain ⟨hd, hlen⟩ := rx_d1_ok hok
    have hlen : len = _ := hlen
    subst hlen
    exact rx_q_lcmp C hd hS h
  | dup =>
    obtain ⟨hd, hlen⟩ := rx_d1_ok hok
    have hlen : len = _ := hlen
    subst hlen
    exact rx_q_dup C hd hS h
  | dup2 =>
    obtain ⟨hd, hlen⟩ := rx_d1_ok hok
    have hlen : len = _ := hlen
    subst hlen
    exact rx_q_dup2 C hd hS h
  | pop =>
    obtain ⟨hd, hlen⟩ := rx_d1_ok hok
    have hlen : len = _ := hlen
    subst hlen
    exact rx_q_pop C hd hS h
  | iconst z =>
    obtain ⟨hok, h1⟩ := rx_an hok
    obtain ⟨hd, hlen⟩ := rx_d1_ok hok
    have hlen : len = _ := hlen
    subst hlen
    exact rx_q_iconst C (of_decide_eq_true h1) hd hS h
  | bipush z =>
    obtain ⟨hok, h1⟩ := rx_an hok
    obtain ⟨hd, hlen⟩ := rx_d1_ok hok
    have hlen : len = _ := hlen
    subst hlen
    exact rx_q_bipush C (of_decide_eq_true h1) hd hS h
  | sipush z =>
    obtain ⟨hok, h1⟩ := rx_an hok
    obtain ⟨hd, hlen⟩ := rx_d1_ok hok
    have hlen : len = _ := hlen
    subst hlen
    exact rx_q_sipush C (of_decide_eq_true h1) hd hS h
  | lconst z =>
    obtain ⟨hok, h1⟩ := rx_an hok
    obtain ⟨hd, hlen⟩ := rx_d1_ok hok
    have hlen : len = _ := hlen
    subst hlen
    exact rx_q_lconst C (of_decide_eq_true h1) hd hS h
  | ldc z =>
    obtain ⟨hok, h1⟩ := rx_an hok
    obtain ⟨hd, hlen⟩ := rx_d1_ok hok
    have hlen : len = _ := hlen
    subst hlen
    cases c0 : Nat.beq b 0 with
    | true =>
      have h2 : cond (Nat.beq b 0) (rx_wd (rx_nth t 0) (.constant own z (nI a))) (decide (own = "GreyRoute$Words" ∧ z = 38)) = true := h1
      rw [c0] at h2
      have h3 : cond (Nat.beq b 0) (K rest L (.inl (.inl a) :: S) w cc ss) (K rest L (.inr (.inr (.inr 1)) :: S) w cc ss) = some r := h
      rw [c0] at h3
      exact rx_q_ldc C (rx_wd_ok h2) hd hS h3
    | false =>
      have h2 : cond (Nat.beq b 0) (rx_wd (rx_nth t 0) (.constant own z (nI a))) (decide (own = "GreyRoute$Words" ∧ z = 38)) = true := h1
      rw [c0] at h2
      have h3 : cond (Nat.beq b 0) (K rest L (.inl (.inl a) :: S) w cc ss) (K rest L (.inr (.inr (.inr 1)) :: S) w cc ss) = some r := h
      rw [c0] at h3
      obtain ⟨e1, e2⟩ := of_decide_eq_true h2
      subst e2
      exact rx_q_ldcS C e1 hd hS h3
  | ldc_w z =>
    obtain ⟨hok, h1⟩ := rx_an hok
    obtain ⟨hd, hlen⟩ := rx_d1_ok hok
    have hlen : len = _ := hlen
    subst hlen
    exact rx_q_ldcw C (rx_wd_ok h1) hd hS h
  | ldc2_w z =>
    obtain ⟨hok, h1⟩ := rx_an hok
    obtain ⟨hd, hlen⟩ := rx_d1_ok hok
    have hlen : len = _ := hlen
    subst hlen
    exact rx_q_ldc2 C (rx_wd_ok h1) hd hS h
  | iload z =>
    obtain ⟨hok, h1⟩ := rx_an hok
    obtain ⟨hd, hlen⟩ := rx_d1_ok hok
    have hlen : len = _ := hlen
    subst hlen
    have e1 : z = a := rx_bq h1
    subst e1
    exact rx_q_iload C hd hS h
  | iload_n z =>
    obtain ⟨hok, h1⟩ := rx_an hok
    obtain ⟨hd, hlen⟩ := rx_d1_ok hok
    have hlen : len = _ := hlen
    subst hlen
    exact rx_q_iload_n C (rx_bq h1) hd hS h
  | istore z =>
    obtain ⟨hok, h1⟩ := rx_an hok
    obtain ⟨hd, hlen⟩ := rx_d1_ok hok
    have hlen : len = _ := hlen
    subst hlen
    have e1 : z = a := rx_bq h1
    subst e1
    exact rx_q_istore C hd hS h
  | istore_n z =>
    obtain ⟨hok, h1⟩ := rx_an hok
    obtain ⟨hd, hlen⟩ := rx_d1_ok hok
    have hlen : len = _ := hlen
    subst hlen
    exact rx_q_istore_n C (rx_bq h1) hd hS h
  | lload z =>
    obtain ⟨hok, h1⟩ := rx_an hok
    obtain ⟨hd, hlen⟩ := rx_d1_ok hok
    have hlen : len = _ := hlen
    subst hlen
    have e1 : z = a := rx_bq h1
    subst e1
    exact rx_q_lload C hd hS h
  | lload_n z =>
    obtain ⟨hok, h1⟩ := rx_an hok
    obtain ⟨hd, hlen⟩ := rx_d1_ok hok
    have hlen : len = _ := hlen
    subst hlen
    exact rx_q_lload_n C (rx_bq h1) hd hS h
  | lstore z =>
    obtain ⟨hok, h1⟩ := rx_an hok
    obtain ⟨hd, hlen⟩ := rx_d1_ok hok
    have hlen : len = _ := hlen
    subst hlen
    have e1 : z = a := rx_bq h1
    subst e1
    exact rx_q_lstore C hd hS h
  | lstore_n z =>
    obtain ⟨hok, h1⟩ := rx_an hok
    obtain ⟨hd, hlen⟩ := rx_d1_ok hok
    have hlen : len = _ := hlen
    subst hlen
    exact rx_q_lstore_n C (rx_bq h1) hd hS h
  | aload z =>
    obtain ⟨hok, h1⟩ := rx_an hok
    obtain ⟨hd, hlen⟩ := rx_d1_ok hok
    have hlen : len = _ := hlen
    subst hlen
    have e1 : z = a := rx_bq h1
    subst e1
    exact rx_q_aload C hd hS h
  | aload_n z =>
    obtain ⟨hok, h1⟩ := rx_an hok
    obtain ⟨hd, hlen⟩ := rx_d1_ok hok
    have hlen : len = _ := hlen
    subst hlen
    exact rx_q_aload_n C (rx_bq h1) hd hS h
  | astore z =>
    obtain ⟨hok, h1⟩ := rx_an hok
    obtain ⟨hd, hlen⟩ := rx_d1_ok hok
    have hlen : len = _ := hlen
    subst hlen
    have e1 : z = a := rx_bq h1
    subst e1
    exact rx_q_astore C hd hS h
  | astore_n z =>
    obtain ⟨hok, h1⟩ := rx_an hok
    obtain ⟨hd, hlen⟩ := rx_d1_ok hok
    have hlen : len = _ := hlen
    subst hlen
    exact rx_q_astore_n C (rx_bq h1) hd hS h
  | iinc z y =>
    obtain ⟨hok, h1⟩ := rx_an hok
    obtain ⟨hd, hlen⟩ := rx_d1_ok hok
    have hlen : len = _ := hlen
    subst hlen
    obtain ⟨g1, g2⟩ := rx_an h1
    have e1 : z = a := rx_bq g1
    subst e1
    exact rx_q_iinc C (of_decide_eq_true g2) hd hS h
  | if_icmp z y =>
    obtain ⟨hok, h1⟩ := rx_an hok
    obtain ⟨hd, hlen⟩ := rx_d1_ok hok
    have hlen : len = _ := hlen
    subst hlen
    exact rx_q_icmp C (of_decide_eq_true h1) hd hS hJ h
  | ifCond z y =>
    obtain ⟨hok, h1⟩ := rx_an hok
    obtain ⟨hd, hlen⟩ := rx_d1_ok hok
    have hlen : len = _ := hlen
    subst hlen
    exact rx_q_if C (of_decide_eq_true h1) hd hS hJ h
  | goto y =>
    obtain ⟨hok, h1⟩ := rx_an hok
    obtain ⟨hd, hlen⟩ := rx_d1_ok hok
    have hlen : len = _ := hlen
    subst hlen
    exact rx_q_goto C (of_decide_eq_true h1) hd hJ h
  | tableswitch dflt lo hi offs =>
    obtain ⟨h0, h1⟩ := rx_an hok
    obtain ⟨h2, h3⟩ := rx_an h1
    obtain ⟨g1, g2, g3⟩ := of_decide_eq_true h2
    refine rx_q_tsw C (of_decide_eq_true h0) g2 g3 g1 (fun j g hj => ?_) hJ h
    have hlt : j < t.length := (List.getElem?_eq_some_iff.mp hj).1
    have h4 := of_decide_eq_true (List.all_eq_true.mp h3 j (List.mem_range.mpr hlt))
    have h5 : t.getD j 0 = g := by rw [List.getD_eq_getElem?_getD, hj]; rfl
    refine ⟨_, h4, ?_⟩
    show (pc : Int) + (((t.getD j 0 : Nat) : Int) - (pc : Int)) = _
    rw [h5]
    omega
  | getfield z =>
    obtain ⟨hok, h1⟩ := rx_an hok
    obtain ⟨hd, hlen⟩ := rx_d1_ok hok
    have hlen : len = _ := hlen
    subst hlen
    cases hv : vwCl[a]? with
    | some q =>
      obtain ⟨Cn, T, N⟩ := q
      refine rx_q_getf (Cn := Cn) (T := T) (N := N) C hd (hG.1 a _ hv).1 hS (fun hk => ?_) (fun hk => ?_) (fun hk => ?_) h
      · have h2 := h1
        dsimp only at h2
        rw [Nat.ble_eq_true_of_le hk, hv] at h2
        obtain ⟨g1, g2⟩ := rx_an h2
        refine ⟨hv, rx_bt g1, ?_⟩
        cases c0 : Nat.beq k 0 with
        | true => rw [c0] at g2; exact Or.inl (rx_wd_ok g2)
        | false => rw [c0] at g2; exact Or.inr ⟨_, rx_nd_ok g2⟩
      · subst hk
        exact rx_wd_ok h1
      · subst hk
        exact rx_wd_ok h1
    | none =>
      refine rx_q_getf (Cn := "") (T := fun _ => ("", "", "", false)) (N := 0) C hd (fun w hw => by simp [u_ws] at hw) hS (fun hk => ?_) (fun hk => ?_) (fun hk => ?_) h
      · have h2 := h1
        dsimp only at h2
        rw [Nat.ble_eq_true_of_le hk, hv] at h2
        cases h2
      · subst hk
        exact rx_wd_ok h1
      · subst hk
        exact rx_wd_ok h1
  | putfield z =>
    obtain ⟨hok, h1⟩ := rx_an hok
    obtain ⟨hd, hlen⟩ := rx_d1_ok hok
    have hlen : len = _ := hlen
    subst hlen
    dsimp only at h1
    cases hv : vwCl[a]? with
    | none => rw [hv] at h1; cases h1
    | some q =>
      obtain ⟨Cn, T, N⟩ := q
      rw [hv] at h1
      obtain ⟨g1, h1⟩ := rx_an h1
      obtain ⟨g2, h1⟩ := rx_an h1
      obtain ⟨g3, g4⟩ := rx_an h1
      have hcl := hG.1 a _ hv
      refine rx_q_putf (Cn := Cn) (T := T) (N := N) (ty0 := rx_ty T) C hd hcl.1 hcl.2.1 hcl.2.2 hS hv (rx_bt g1) (rx_wd_ok g2) g3 (fun hf => ?_) h
      rw [hf] at g4
      obtain ⟨e1, e2⟩ := of_decide_eq_true g4
      exact ⟨e1, by rw [hnm]; exact e2⟩
  | getstatic z =>
    obtain ⟨hok, h1⟩ := rx_an hok
    obtain ⟨hd, hlen⟩ := rx_d1_ok hok
    have hlen : len = _ := hlen
    subst hlen
    refine rx_q_gets C hd hS (fun ha => ?_) (fun ha => ?_) h
    · subst ha; exact rx_wd_ok h1
    · subst ha; exact rx_wd_ok h1
  | iaload =>
    obtain ⟨hd, hlen⟩ := rx_d1_ok hok
    have hlen : len = _ := hlen
    subst hlen
    exact rx_q_ald C (Or.inl ⟨rfl, hd⟩) hG.2.2 hS h
  | baload =>
    obtain ⟨hd, hlen⟩ := rx_d1_ok hok
    have hlen : len = _ := hlen
    subst hlen
    exact rx_q_ald C (Or.inr (Or.inl ⟨rfl, hd⟩)) hG.2.2 hS h
  | laload =>
    obtain ⟨hd, hlen⟩ := rx_d1_ok hok
    have hlen : len = _ := hlen
    subst hlen
    exact rx_q_ald C (Or.inr (Or.inr (Or.inl ⟨rfl, hd⟩))) hG.2.2 hS h
  | aaload =>
    obtain ⟨hd, hlen⟩ := rx_d1_ok hok
    have hlen : len = _ := hlen
    subst hlen
    exact rx_q_ald C (Or.inr (Or.inr (Or.inr ⟨rfl, hd⟩))) hG.2.2 hS h
  | iastore =>
    obtain ⟨hd, hlen⟩ := rx_d1_ok hok
    have hlen : len = _ := hlen
    subst hlen
    exact rx_q_iast C hd hS h
  | bastore =>
    obtain ⟨hd, hlen⟩ := rx_d1_ok hok
    have hlen : len = _ := hlen
    subst hlen
    exact rx_q_bast C hd hS h
  | lastore =>
    obtain ⟨hd, hlen⟩ := rx_d1_ok hok
    have hlen : len = _ := hlen
    subst hlen
    exact rx_q_last C hd hS h
  | aastore =>
    obtain ⟨hok, h1⟩ := rx_an hok
    obtain ⟨hd, hlen⟩ := rx_d1_ok hok
    have hlen : len = _ := hlen
    subst hlen
    dsimp only at h1
    cases hv : vwCl[a]? with
    | none => rw [hv] at h1; cases h1
    | some q =>
      obtain ⟨Cn, T, N⟩ := q
      rw [hv] at h1
      have e1 := of_decide_eq_true h1
      exact rx_q_aast C ⟨T, N, by rw [hv, e1]⟩ hd hS h
  | arraylength =>
    obtain ⟨hd, hlen⟩ := rx_d1_ok hok
    have hlen : len = _ := hlen
    subst hlen
    exact rx_q_len C hd hS h
  | newarray z =>
    obtain ⟨hok, h1⟩ := rx_an hok
    obtain ⟨hd, hlen⟩ := rx_d1_ok hok
    have hlen : len = _ := hlen
    subst hlen
    obtain ⟨g1, g2⟩ := rx_an h1
    refine rx_q_newa C hd ?_ (rx_wd_ok g1) hmc hms hS h
    cases z <;> first | (cases g2; done) | skip
    · exact Or.inr (Or.inr (Or.inl ⟨rx_bq g2, rfl⟩))
    · exact Or.inr (Or.inl ⟨rx_bq g2, rfl⟩)
    · exact Or.inl ⟨rx_bq g2, rfl⟩
    · exact Or.inr (Or.inr (Or.inr ⟨rx_bq g2, rfl⟩))
  | anewarray z =>
    obtain ⟨hok, h1⟩ := rx_an hok
    obtain ⟨hd, hlen⟩ := rx_d1_ok hok
    have hlen : len = _ := hlen
    subst hlen
    obtain ⟨g1, g2⟩ := rx_an h1
    have e1 : a = 4 := rx_bq g1
    subst e1
    exact rx_q_newq C hd (rx_wd_ok g2) hmc hms hS h
  | new z =>
    obtain ⟨hok, h1⟩ := rx_an hok
    obtain ⟨hd, hlen⟩ := rx_d1_ok hok
    have hlen : len = _ := hlen
    subst hlen
    dsimp only at h1
    cases hv : vwCl[a]? with
    | none => rw [hv] at h1; cases h1
    | some q =>
      obtain ⟨Cn, T, N⟩ := q
      rw [hv] at h1
      obtain ⟨g1, h1⟩ := rx_an h1
      obtain ⟨g2, h1⟩ := rx_an h1
      obtain ⟨g3, g4⟩ := rx_an h1
      obtain ⟨df, hdf, h5⟩ := rx_at_ok h
      have hcl := hG.1 a _ hv
      exact rx_q_new (Cn := Cn) (T := T) (N := N) (ty0 := rx_ty T) C hd hcl.1 hcl.2.1 hv (rx_bq g1) (hG.2.1 X a _ df hv hdf) (rx_wd_ok g2) (rx_wd_ok g3) (rx_wd_ok g4) hmc hms hS h5
  | invokevirtual z =>
    obtain ⟨hok, h1⟩ := rx_an hok
    obtain ⟨hd, hlen⟩ := rx_d1_ok hok
    have hlen : len = _ := hlen
    subst hlen
    dsimp only at h1
    obtain ⟨ci, hci, h5⟩ := rx_at_ok h
    dsimp only at h5 hci
    have hci : rx_nth t 0 = ci := by unfold rx_nth; rw [List.getD_eq_getElem?_getD, hci]; rfl
    cases hv : mi[a]? with
    | none =>
      exfalso
      obtain ⟨as, S', r', w', -, -, -, -, -, h6, -, -⟩ := rx_inv_ok h5
      obtain ⟨Y, hY, -⟩ := hex _ _ _ _ _ h6
      rw [hv] at hY
      cases hY
    | some Y =>
      rw [hv] at h1
      obtain ⟨gy, h1⟩ := rx_an h1
      obtain ⟨y1, gy⟩ := rx_an gy
      obtain ⟨y2, gy⟩ := rx_an gy
      obtain ⟨y3, y4⟩ := rx_an gy
      have y3 := of_decide_eq_true y3
      have y4 := of_decide_eq_true y4
      have hM : ∀ (as : List rx_V) (w : List rx_C) (r' : Option rx_V) (w' : List rx_C), ex a as w = some (r', w') → rx_Met l d (cap a).1 (cap a).2 Y X D G as w r' w' := by
        intro as w r' w' h6
        obtain ⟨Y', hY', -, hM'⟩ := hex _ _ _ _ _ h6
        rw [hv] at hY'
        cases hY'
        exact hM'
      have hcode : Cond.code Y.1 Y.2.1 Y.2.2.1 Y.2.2.2 ∈ rx_words := by
        obtain ⟨as, S', r', w', -, -, -, -, -, h6, -, -⟩ := rx_inv_ok h5
        obtain ⟨Y', hY', hc, -⟩ := hex _ _ _ _ _ h6
        rw [hv] at hY'
        cases hY'
        exact hc
      obtain ⟨g0, h1⟩ := rx_an h1
      obtain ⟨g1, h1⟩ := rx_an h1
      obtain ⟨g2, h1⟩ := rx_an h1
      obtain ⟨g3, h1⟩ := rx_an h1
      have g0 := rx_bt g0
      have eb : b = (b - 1) + 1 := by omega
      rw [eb] at h5
      refine rx_q_virt C hd hmc hms hfr hlo (rx_bl y1) hM hcode (rx_wd_ok y2) (rx_wd_ok g2) (rx_wd_ok g3) (rx_lkb_ok g1) ?_ ⟨y3.1, y3.2, y4⟩ hS h5
      cases c0 : Nat.beq k 1 with
      | true =>
        rw [c0, hci] at h1
        cases hw : vwCl[ci]? with
        | none => rw [hw] at h1; cases h1
        | some q =>
          obtain ⟨Cn, T, N⟩ := q
          rw [hw] at h1
          have e1 := of_decide_eq_true h1
          exact Or.inl ⟨rx_bq c0, T, N, by rw [e1]⟩
      | false =>
        rw [c0] at h1
        obtain ⟨z1, z2⟩ := rx_an h1
        exact Or.inr ⟨rx_bq z1, of_decide_eq_true z2⟩
  | invokespecial z =>
    obtain ⟨hok, h1⟩ := rx_an hok
    obtain ⟨hd, hlen⟩ := rx_d1_ok hok
    have hlen : len = _ := hlen
    subst hlen
    dsimp only at h1
    have h3 : cond (Nat.beq k 3) (rx_oi K rest L S w cc ss) (rx_at t 0 (fun ci => rx_inv G.2.1 mc ms cap ex K rest a b 1 ci L S w cc ss)) = some r := h
    cases c0 : Nat.beq k 3 with
    | true =>
      rw [c0] at h1 h3
      obtain ⟨g1, h1⟩ := rx_an h1
      obtain ⟨g2, g3⟩ := rx_an h1
      exact rx_q_oi C hd (rx_wd_ok g1) (rx_wd_ok g2) (rx_wd_ok g3) (by omega) (by omega) hS h3
    | false =>
      rw [c0] at h1 h3
      dsimp only [cond_false] at h1 h3
      obtain ⟨ci, hci, h5⟩ := rx_at_ok h3
      cases hv : mi[a]? with
      | none =>
        exfalso
        obtain ⟨as, S', r', w', -, -, -, -, -, h6, -, -⟩ := rx_inv_ok h5
        obtain ⟨Y, hY, -⟩ := hex _ _ _ _ _ h6
        rw [hv] at hY
        cases hY
      | some Y =>
        rw [hv] at h1
        obtain ⟨gy, h1⟩ := rx_an h1
        obtain ⟨y1, gy⟩ := rx_an gy
        obtain ⟨y2, gy⟩ := rx_an gy
        obtain ⟨y3, y4⟩ := rx_an gy
        have y3 := of_decide_eq_true y3
        have y4 := of_decide_eq_true y4
        have hM : ∀ (as : List rx_V) (w : List rx_C) (r' : Option rx_V) (w' : List rx_C), ex a as w = some (r', w') → rx_Met l d (cap a).1 (cap a).2 Y X D G as w r' w' := by
          intro as w r' w' h6
          obtain ⟨Y', hY', -, hM'⟩ := hex _ _ _ _ _ h6
          rw [hv] at hY'
          cases hY'
          exact hM'
        have hcode : Cond.code Y.1 Y.2.1 Y.2.2.1 Y.2.2.2 ∈ rx_words := by
          obtain ⟨as, S', r', w', -, -, -, -, -, h6, -, -⟩ := rx_inv_ok h5
          obtain ⟨Y', hY', hc, -⟩ := hex _ _ _ _ _ h6
          rw [hv] at hY'
          cases hY'
          exact hc
        obtain ⟨g0, h1⟩ := rx_an h1
        obtain ⟨g1, h1⟩ := rx_an h1
        obtain ⟨g2, h1⟩ := rx_an h1
        obtain ⟨g3, g4⟩ := of_decide_eq_true h1
        have g0 := rx_bt g0
        have eb : b = (b - 1) + 1 := by omega
        rw [eb] at h5
        exact rx_q_spec C hd hmc hms hfr hlo (rx_bl y1) hM hcode (rx_wd_ok y2) (rx_wd_ok g2) (rx_lkb_ok g1) g3 g4 ⟨y3.1, y3.2, y4⟩ hS h5
  | invokestatic z =>
    obtain ⟨hok, h1⟩ := rx_an hok
    obtain ⟨hd, hlen⟩ := rx_d1_ok hok
    have hlen : len = _ := hlen
    subst hlen
    dsimp only at h1
    have h3 : cond (Nat.beq k 4) (rx_cpy K rest L S w cc ss) (rx_inv G.2.1 mc ms cap ex K rest a b 0 0 L S w cc ss) = some r := h
    cases c0 : Nat.beq k 4 with
    | true =>
      rw [c0] at h1 h3
      obtain ⟨g1, h1⟩ := rx_an h1
      obtain ⟨g2, h1⟩ := rx_an h1
      obtain ⟨g3, g4⟩ := rx_an h1
      exact rx_q_cpy C hd (rx_wd_ok g1) (rx_wd_ok g2) (rx_wd_ok g3) (rx_wd_ok g4) (by omega) (by omega) hS h3
    | false =>
      rw [c0] at h1 h3
      dsimp only [cond_false] at h1 h3
      cases hv : mi[a]? with
      | none =>
        exfalso
        obtain ⟨as, S', r', w', -, -, -, -, -, h6, -, -⟩ := rx_inv_ok h3
        obtain ⟨Y, hY, -⟩ := hex _ _ _ _ _ h6
        rw [hv] at hY
        cases hY
      | some Y =>
        rw [hv] at h1
        obtain ⟨gy, h1⟩ := rx_an h1
        obtain ⟨y1, gy⟩ := rx_an gy
        obtain ⟨y2, gy⟩ := rx_an gy
        obtain ⟨y3, y4⟩ := rx_an gy
        have y3 := of_decide_eq_true y3
        have y4 := of_decide_eq_true y4
        have hM : ∀ (as : List rx_V) (w : List rx_C) (r' : Option rx_V) (w' : List rx_C), ex a as w = some (r', w') → rx_Met l d (cap a).1 (cap a).2 Y X D G as w r' w' := by
          intro as w r' w' h6
          obtain ⟨Y', hY', -, hM'⟩ := hex _ _ _ _ _ h6
          rw [hv] at hY'
          cases hY'
          exact hM'
        have hcode : Cond.code Y.1 Y.2.1 Y.2.2.1 Y.2.2.2 ∈ rx_words := by
          obtain ⟨as, S', r', w', -, -, -, -, -, h6, -, -⟩ := rx_inv_ok h3
          obtain ⟨Y', hY', hc, -⟩ := hex _ _ _ _ _ h6
          rw [hv] at hY'
          cases hY'
          exact hc
        obtain ⟨g1, g2⟩ := rx_an h1
        exact rx_q_stat C hd hmc hms hfr hlo (rx_bl y1) hM hcode (rx_wd_ok y2) (rx_wd_ok g2) (rx_lkb_ok g1) ⟨y3.1, y3.2, y4⟩ hS h3
  | return_ =>
    exact hE (Option.some.inj h).symm
  | ireturn =>
    exact hE (Option.some.inj h).symm
  | lreturn =>
    exact hE (Option.some.inj h).symm
  | _ => exact absurd (show (none : Option rx_R) = some r from h) (by simp)
end RXT
