/-! THE CLOSURE: a step of the second layer is a step of the machine; a method -/
section ZCL
variable {l : Launch} {d : Nat} {X : rx_X} {D : va_G} {G : rx_G} {Sh : List zC} {mi : List rx_Y} {Y : rx_Y} {cd rest : List rx_E} {nL q : Nat} {L : zL} {S : List zV} {st : zS} {en : rx_E} {Rt : zQ} {call : zCall}
theorem zc_inv0 (B : zB G Sh mi Y cd nL en rest L S st) {nu n : Nat} (h : zinv Sh (zOk l d X D G Sh mi) (zGd l d X D G Sh Y cd Rt) rest nu n 0 0 L S st)
    (he : ∀ (K : rx_K) (w : List rx_C) (ex : Nat → List rx_V → List rx_C → Option (Option rx_V × List rx_C)), rx_step G cd nL 0 0 (fun _ => (0, 0)) ex K en rest (zLm L) (zSm S) w 0 0 = rx_inv G.2.1 0 0 (fun _ => (0, 0)) ex K rest nu n 0 0 (zLm L) (zSm S) w 0 0) : zgoal l d X D G Sh Y Rt en.1 L S st := by
  obtain ⟨as, S', h1, h2, h3, h4⟩ := ztake_ok h
  obtain ⟨-, -, -, -, -, hst, hL, hS⟩ := id B
  cases k : Nat.ble (zcats S') 8 with
  | false => simp only [k] at h1; exact absurd h1 id
  | true =>
    simp only [k] at h1
    refine zc_call B (fun v hv => (h3 v hv).elim (fun e => hS v e) (fun e => by simp at e)) (fun v hv => hS v (h4 v hv)) h1 (fun K w r w1 ex hw hx => ?_)
    rw [he]
    unfold rx_inv
    have h5 := h2 rx_R (fun as S' => cond (Nat.ble (rx_cats S') 8 && (Nat.ble (0 + ((fun _ => (0, 0)) nu : Nat × Nat).1) 0 && Nat.ble (0 + ((fun _ => (0, 0)) nu : Nat × Nat).2) 0)) (match ex nu as w with
      | some (r, w') => K rest (zLm L) (match r with | some v => v :: S' | none => S') w' (0 + ((fun _ => (0, 0)) nu : Nat × Nat).1) (0 + ((fun _ => (0, 0)) nu : Nat × Nat).2)
      | none => none) none)
    refine Eq.trans h5 ?_
    rw [zcats_v, k, hx]
    cases r <;> rfl
theorem zc_inv1 (B : zB G Sh mi Y cd nL en rest L S st) {nu n q a : Nat} (h : zinv Sh (zOk l d X D G Sh mi) (zGd l d X D G Sh Y cd Rt) rest nu n q a L S st)
    (he : ∀ (K : rx_K) (w : List rx_C) (ex : Nat → List rx_V → List rx_C → Option (Option rx_V × List rx_C)), rx_step G cd nL 0 0 (fun _ => (0, 0)) ex K en rest (zLm L) (zSm S) w 0 0 = rx_inv G.2.1 0 0 (fun _ => (0, 0)) ex K rest nu n q a (zLm L) (zSm S) w 0 0) : zgoal l d X D G Sh Y Rt en.1 L S st := by
  cases q with
  | zero =>
    obtain ⟨as, S', h1, h2, h3, h4⟩ := ztake_ok h
    obtain ⟨-, -, -, -, -, hst, hL, hS⟩ := id B
    cases k : Nat.ble (zcats S') 8 with
    | false => simp only [k] at h1; exact absurd h1 id
    | true =>
      simp only [k] at h1
      refine zc_call B (fun v hv => (h3 v hv).elim (fun e => hS v e) (fun e => by simp at e)) (fun v hv => hS v (h4 v hv)) h1 (fun K w r w1 ex hw hx => ?_)
      rw [he]
      unfold rx_inv
      have h5 := h2 rx_R (fun as S' => cond (Nat.ble (rx_cats S') 8 && (Nat.ble (0 + ((fun _ => (0, 0)) nu : Nat × Nat).1) 0 && Nat.ble (0 + ((fun _ => (0, 0)) nu : Nat × Nat).2) 0)) (match ex nu as w with
        | some (r, w') => K rest (zLm L) (match r with | some v => v :: S' | none => S') w' (0 + ((fun _ => (0, 0)) nu : Nat × Nat).1) (0 + ((fun _ => (0, 0)) nu : Nat × Nat).2)
        | none => none) none)
      refine Eq.trans h5 ?_
      rw [zcats_v, k, hx]
      cases r <;> rfl
  | succ q1 =>
    cases q1 with
    | succ q2 =>
      obtain ⟨as, S', h1, h2, h3, h4⟩ := ztake_ok h
      cases k : Nat.ble (zcats S') 8 with
      | false => simp only [k] at h1; exact absurd h1 id
      | true =>
        simp only [k] at h1
        exact absurd h1 id
    | zero =>
      obtain ⟨as, S', h1, h2, h3, h4⟩ := ztake_ok h
      obtain ⟨-, -, -, -, -, hst, hL, hS⟩ := id B
      cases k : Nat.ble (zcats S') 8 with
      | false => simp only [k] at h1; exact absurd h1 id
      | true =>
        simp only [k] at h1
        rcases as with _ | ⟨v, as⟩
        · exact absurd h1 id
        · rcases v with z | (z | (o | j))
          · exact absurd h1 id
          · exact absurd h1 id
          · obtain ⟨s, g1, g2⟩ := zat_ok (show zat Sh o _ from h1)
            rcases s with ⟨a', ks⟩ | p
            · cases k2 : Nat.beq a' a with
              | false => simp only [k2] at g2; exact absurd g2 id
              | true =>
                simp only [k2] at g2
                refine zc_call B (fun v hv => (h3 v hv).elim (fun e => hS v e) (fun e => by simp at e)) (fun v hv => hS v (h4 v hv)) g2 (fun K w r w1 ex hw hx => ?_)
                rw [he]
                unfold rx_inv
                obtain ⟨fs, f1, -, -⟩ := hw.2.1 o a' ks g1
                have h5 := h2 rx_R (fun as S' => cond (Nat.ble (rx_cats S') 8 && (Nat.ble (0 + ((fun _ => (0, 0)) nu : Nat × Nat).1) 0 && Nat.ble (0 + ((fun _ => (0, 0)) nu : Nat × Nat).2) 0)) (match ex nu as w with
                  | some (r, w') => (match 1, as with
                    | 0, _ => K rest (zLm L) (match r with | some v => v :: S' | none => S') w' (0 + ((fun _ => (0, 0)) nu : Nat × Nat).1) (0 + ((fun _ => (0, 0)) nu : Nat × Nat).2)
                    | 1, .inr (.inr (.inl (some k))) :: _ => rx_at w k (fun x => match x with
                      | .inl o => cond (Nat.beq o.1 a) (K rest (zLm L) (match r with | some v => v :: S' | none => S') w' (0 + ((fun _ => (0, 0)) nu : Nat × Nat).1) (0 + ((fun _ => (0, 0)) nu : Nat × Nat).2)) none
                      | .inr _ => none)
                    | 2, .inr (.inr (.inr k)) :: _ => cond (Nat.beq k 1) (K rest (zLm L) (match r with | some v => v :: S' | none => S') w' (0 + ((fun _ => (0, 0)) nu : Nat × Nat).1) (0 + ((fun _ => (0, 0)) nu : Nat × Nat).2)) none
                    | _, _ => none)
                  | none => none) none)
                refine Eq.trans h5 ?_
                rw [zcats_v, k, hx]
                show rx_at w o _ = _
                rw [zat_eq _ f1]
                show cond (Nat.beq a' a) _ none = _
                rw [k2]
                cases r <;> rfl
            · exact absurd g2 id
          · exact absurd h1 id
theorem zend {r : Option zV} {w : List rx_C} {s : State} {args : Array Value} {H : Heap} {locs : List Loc} (hI : rx_Iv X D G s w 0 H locs) : ∀ t : State, t.heap = H → s.WarmedH t.vm → rx_Qc X D G 0 (r.map zv) w args s (.returned ((r.map zv).map (rx_d X))) t := by
  intro t ht _
  exact ⟨rfl, by rw [ht]; exact hI.1, hI.2.1, by rw [ht]; exact hI.2.2.1, fun q h1 h2 => by rw [ht]; exact hI.2.2.2.1 q h1 h2⟩
theorem zc_ret (B : zB G Sh mi Y cd nL en rest L S st) (hrk : rx_rk q Y.2.2.2 = true) (hd : decode Y.2.1 en.1 = .ok (.return_, 1)) (h : zret q Rt S st) : zgoal l d X D G Sh Y Rt en.1 L S st := by
  obtain ⟨-, -, -, -, -, hst, hL, hS⟩ := id B
  unfold zret at h
  cases k : Nat.beq q 0 with
  | false => rw [k] at h; exact absurd h id
  | true =>
    rw [k] at h
    have k := rx_bq k
    subst k
    cases S with
    | cons v S' => exact absurd h id
    | nil =>
      refine ⟨none, st, h, ⟨fun v e => (by cases e), hst⟩, fun w hw => ⟨w, hw, fun p e s m args below meth c C hnm hret hlocks => ?_⟩⟩
      intro H locs ls hI hl
      have hn : Y.2.2.2 = none := by
        cases hy : Y.2.2.2 with
        | none => rfl
        | some ty => rw [hy] at hrk; cases ty <;> cases hrk
      exact W.vret C.1 C.2.1 (by rw [hret]; exact hn) (zend (r := none) hI) hI.2.2.2.2 hd
theorem zc_reti (B : zB G Sh mi Y cd nL en rest L S st) (hrk : rx_rk q Y.2.2.2 = true) (hd : decode Y.2.1 en.1 = .ok (.ireturn, 1)) (h : zreti q Rt S st) : zgoal l d X D G Sh Y Rt en.1 L S st := by
  obtain ⟨-, -, -, -, -, hst, hL, hS⟩ := id B
  unfold zreti at h
  split at h
  · rename_i z
    have hz : zok (.inl z) := hS _ List.mem_cons_self
    cases k : Nat.beq q 1 with
    | true =>
      simp only [k] at h
      have k := rx_bq k
      subst k
      refine ⟨some (.inl z), st, h, ⟨fun v e => (by cases e; exact hz), hst⟩, fun w hw => ⟨w, hw, fun p e s m args below meth c C hnm hret hlocks => ?_⟩⟩
      intro H locs ls hI hl
      have hu : ∀ t : Option FieldType, rx_rk 1 t = true → t = some .int := (fun t ht => by rcases t with _ | ty <;> first | (cases ht; done) | (cases ty <;> first | rfl | (cases ht; done)))
      exact W.iret (v := nI (zi z)) C.1 C.2.1 (by rw [hret]; exact hu _ hrk) (zend (r := some (.inl z)) hI) hI.2.2.2.2 hd
    | false =>
      simp only [k] at h
      cases k2 : Nat.beq q 2 with
      | true =>
        simp only [k2] at h
        have k2 := rx_bq k2
        subst k2
        obtain ⟨h5, h6⟩ := h
        refine ⟨some (.inl z), st, h6, ⟨fun v e => (by cases e; exact hz), hst⟩, fun w hw => ⟨w, hw, fun p e s m args below meth c C hnm hret hlocks => ?_⟩⟩
        intro H locs ls hI hl
        have hu : ∀ t : Option FieldType, rx_rk 2 t = true → t = some .boolean := (fun t ht => by rcases t with _ | ty <;> first | (cases ht; done) | (cases ty <;> first | rfl | (cases ht; done)))
        have hn : zi z ≤ 1 := by rcases h5 with rfl | rfl <;> decide
        exact W.zret (v := nI (zi z)) (ty := .boolean) C.1 C.2.1 (by rw [hret]; exact hu _ hrk) (rx_nar_bool hn) (zend (r := some (.inl z)) hI) hI.2.2.2.2 hd
      | false => simp only [k2] at h; exact absurd h id
  · exact absurd h id
theorem zc_retl (B : zB G Sh mi Y cd nL en rest L S st) (hrk : rx_rk q Y.2.2.2 = true) (hd : decode Y.2.1 en.1 = .ok (.lreturn, 1)) (h : zretl q Rt S st) : zgoal l d X D G Sh Y Rt en.1 L S st := by
  obtain ⟨-, -, -, -, -, hst, hL, hS⟩ := id B
  unfold zretl at h
  split at h
  · rename_i z
    have hz : zok (.inr (.inl z)) := hS _ List.mem_cons_self
    cases k : Nat.beq q 5 with
    | true =>
      simp only [k] at h
      have k := rx_bq k
      subst k
      refine ⟨some (.inr (.inl z)), st, h, ⟨fun v e => (by cases e; exact hz), hst⟩, fun w hw => ⟨w, hw, fun p e s m args below meth c C hnm hret hlocks => ?_⟩⟩
      intro H locs ls hI hl
      have hu : ∀ t : Option FieldType, rx_rk 5 t = true → t = some .long := (fun t ht => by rcases t with _ | ty <;> first | (cases ht; done) | (cases ty <;> first | rfl | (cases ht; done)))
      exact W.lret (v := lN (zl z)) C.1 C.2.1 (by rw [hret]; exact hu _ hrk) (zend (r := some (.inr (.inl z))) hI) hI.2.2.2.2 hd
    | false => simp only [k] at h; exact absurd h id
  · exact absurd h id
set_option maxHeartbeats 2000000 in
theorem z_close (hG : rx_Gok G) (hokA : cd.all (rx_okb mi Y.1.cls Y.1.name Y.2.1) = true) (hnL : Y.2.2.1 = nL) (hsq : rx_seq cd = true) (hrk : rx_rk q Y.2.2.2 = true) (hlen : ∀ (c t n : Nat), Sh[c]? = some (.inr (t, n)) → n < 2147483648) : zcl Sh cd nL q (zOk l d X D G Sh mi) Rt (zGd l d X D G Sh Y cd Rt) := by
  intro en rest L S st h
  refine ⟨by simp, fun ⟨pre, hcd⟩ hst hL hS => ?_⟩
  have hok : rx_okb mi Y.1.cls Y.1.name Y.2.1 en = true := List.all_eq_true.mp hokA en (by rw [hcd]; exact List.mem_append_right _ List.mem_cons_self)
  have B : zB G Sh mi Y cd nL en rest L S st := ⟨hG, hok, hnL, hsq, ⟨pre, hcd⟩, hst, hL, hS⟩
  show zgoal l d X D G Sh Y Rt en.1 L S st
  obtain ⟨pc, i, len, a, b, k, t⟩ := en
  cases i with
  | iconst z => exact zc_cst B h (fun K w => rfl)
  | bipush z => exact zc_cst B h (fun K w => rfl)
  | sipush z => exact zc_cst B h (fun K w => rfl)
  | ldc_w z => exact zc_cst B h (fun K w => rfl)
  | ldc z =>
    cases k0 : Nat.beq b 0 with
    | false =>
      have h : cond (Nat.beq b 0) (zcst (zGd l d X D G Sh Y cd Rt) rest a L S st) False := h
      rw [k0] at h
      exact absurd h id
    | true =>
      have h : cond (Nat.beq b 0) (zcst (zGd l d X D G Sh Y cd Rt) rest a L S st) False := h
      rw [k0] at h
      refine zc_cst B h (fun K w => ?_)
      show cond (Nat.beq b 0) _ _ = _
      rw [k0]
      rfl
  | lconst z => exact zc_lst B h (fun K w => rfl)
  | ldc2_w z => exact zc_lst B h (fun K w => rfl)
  | iload z => exact zc_ldI B h (fun K w => rfl)
  | iload_n z => exact zc_ldI B h (fun K w => rfl)
  | lload z => exact zc_ldL B h (fun K w => rfl)
  | lload_n z => exact zc_ldL B h (fun K w => rfl)
  | aload z => exact zc_ldA B h (fun K w => rfl)
  | aload_n z => exact zc_ldA B h (fun K w => rfl)
  | istore z => exact zc_stI B h (fun K w => rfl)
  | istore_n z => exact zc_stI B h (fun K w => rfl)
  | lstore z => exact zc_stL B h (fun K w => rfl)
  | lstore_n z => exact zc_stL B h (fun K w => rfl)
  | astore z => exact zc_stA B h (fun K w => rfl)
  | astore_n z => exact zc_stA B h (fun K w => rfl)
  | iinc z z2 => exact zc_inc B h (fun K w => rfl)
  | iadd => exact zc_2 B h (fun x y _ _ => ⟨rfl, zi_add x y, zw_ok _⟩) (fun K w => rfl)
  | isub => exact zc_2 B h (fun x y _ _ => ⟨rfl, zi_sub x y, zw_ok _⟩) (fun K w => rfl)
  | imul => exact zc_2 B h (fun x y _ _ => ⟨rfl, zi_mul x y, zw_ok _⟩) (fun K w => rfl)
  | iand => exact zc_2u B h (fun x y _ _ => ⟨rfl, (zi_zd (zland x y)).symm, zd_ok (zland x y)⟩) (fun K w => rfl)
  | ior => exact zc_2 B h (fun x y _ _ => ⟨rfl, (zi_zd (zlor x y)).symm, zd_ok (zlor x y)⟩) (fun K w => rfl)
  | ixor => exact zc_2 B h (fun x y _ _ => ⟨rfl, (zi_zd (zlxor x y)).symm, zd_ok (zlxor x y)⟩) (fun K w => rfl)
  | ishl => exact zc_2 B h (fun x y _ _ => ⟨rfl, (zi_zd (Nat.mod_lt _ (by decide))).symm, zd_ok (Nat.mod_lt _ (by decide))⟩) (fun K w => rfl)
  | iushr => exact zc_2 B h (fun x y _ _ => ⟨rfl, (zi_zd (zush x y)).symm, zd_ok (zush x y)⟩) (fun K w => rfl)
  | ishr => exact zd_ishr B (rx_d1_ok hok).1 (rx_d1_ok hok).2 h
  | idiv => exact zd_idiv B (rx_d1_ok hok).1 (rx_d1_ok hok).2 h
  | irem => exact zd_irem B (rx_d1_ok hok).1 (rx_d1_ok hok).2 h
  | ldiv => exact zd_ldiv B (rx_d1_ok hok).1 (rx_d1_ok hok).2 h
  | lrem => exact zd_lrem B (rx_d1_ok hok).1 (rx_d1_ok hok).2 h
  | lshl => exact zd_lshl B (rx_d1_ok hok).1 (rx_d1_ok hok).2 h
  | lshr => exact zd_lshr B (rx_d1_ok hok).1 (rx_d1_ok hok).2 h
  | i2l => exact zd_i2l B (rx_d1_ok hok).1 (rx_d1_ok hok).2 h
  | i2b => exact zc_i2b B h (fun K w => rfl)
  | l2i => exact zc_l2i B h (fun K w => rfl)
  | ladd => exact zc_2l B h (fun x y _ _ => ⟨rfl, zl_add x y, zx_ok _⟩) (fun K w => rfl)
  | lsub => exact zc_2l B h (fun x y _ _ => ⟨rfl, zl_sub x y, zx_ok _⟩) (fun K w => rfl)
  | lmul => exact zc_2l B h (fun x y _ _ => ⟨rfl, zl_mul x y, zx_ok _⟩) (fun K w => rfl)
  | land => exact zc_2l B h (fun x y _ _ => ⟨rfl, (zl_ze (zlandl x y)).symm, ze_ok (zlandl x y)⟩) (fun K w => rfl)
  | lor => exact zc_2l B h (fun x y _ _ => ⟨rfl, (zl_ze (zlorl x y)).symm, ze_ok (zlorl x y)⟩) (fun K w => rfl)
  | lcmp => exact zc_lcm B h (fun K w => rfl)
  | dup => exact zc_dup B h (fun K w => rfl)
  | dup2 => exact zc_dup2 B h (fun K w => rfl)
  | pop => exact zc_pop B h (fun K w => rfl)
  | if_icmp z z2 => exact zc_icm B h (fun K w => rfl)
  | ifCond z z2 => exact zc_ifc B h (fun K w => rfl)
  | goto z => exact zc_goto B h (fun K w => rfl)
  | tableswitch z z2 z3 z4 => exact zc_sw B h (fun K w => rfl)
  | getfield z => exact zc_gf B h (fun K w => rfl)
  | putfield z => exact zc_pf B h (fun K w => rfl)
  | iaload => exact zc_al B (Or.inl rfl) h (fun K w => rfl)
  | baload => exact zc_al B (Or.inr (Or.inl rfl)) h (fun K w => rfl)
  | laload => exact zc_al B (Or.inr (Or.inr (Or.inl rfl))) h (fun K w => rfl)
  | aaload => exact zc_al B (Or.inr (Or.inr (Or.inr rfl))) h (fun K w => rfl)
  | iastore => exact zc_as B h (fun K w => rfl)
  | bastore => exact zc_as B h (fun K w => rfl)
  | lastore => exact zc_as B h (fun K w => rfl)
  | arraylength => exact zc_len B h hlen (fun K w => rfl)
  | invokevirtual z =>
    obtain ⟨ci, h1, h2⟩ := zat_ok (show zat t 0 _ from h)
    refine zc_inv1 B h2 (fun K w ex => ?_)
    show rx_at t 0 _ = _
    rw [zat_eq _ h1]
  | invokestatic z =>
    cases k0 : Nat.beq k 4 with
    | true =>
      have h : cond (Nat.beq k 4) (zcpy Sh (zGd l d X D G Sh Y cd Rt) rest L S st) (zinv Sh (zOk l d X D G Sh mi) (zGd l d X D G Sh Y cd Rt) rest a b 0 0 L S st) := h
      rw [k0] at h
      refine zc_cpy B h (fun K w => ?_)
      show cond (Nat.beq k 4) _ _ = _
      rw [k0]
      rfl
    | false =>
      have h : cond (Nat.beq k 4) (zcpy Sh (zGd l d X D G Sh Y cd Rt) rest L S st) (zinv Sh (zOk l d X D G Sh mi) (zGd l d X D G Sh Y cd Rt) rest a b 0 0 L S st) := h
      rw [k0] at h
      refine zc_inv0 B h (fun K w ex => ?_)
      show cond (Nat.beq k 4) _ _ = _
      rw [k0]
      rfl
  | return_ => exact zc_ret B hrk (rx_d1_ok hok).1 h
  | ireturn => exact zc_reti B hrk (rx_d1_ok hok).1 h
  | lreturn => exact zc_retl B hrk (rx_d1_ok hok).1 h
  | _ => exact absurd h id
end ZCL
/-- only what stands in the code is asked for -/
def zsf (cd : List rx_E) (K : zG) : Prop := ∀ (cs : List rx_E) (L : zL) (S : List zV) (st : zS), cs ≠ [] → ((∃ pre, cd = pre ++ cs) → K cs L S st) → K cs L S st
theorem zGd_sf (l : Launch) (d : Nat) (X : rx_X) (D : va_G) (G : rx_G) (Sh : List zC) (Y : rx_Y) (cd : List rx_E) (Rt : zQ) : zsf cd (zGd l d X D G Sh Y cd Rt) := fun _ _ _ _ hne h => ⟨hne, fun hp => (h hp).2 hp⟩
/-- fewer locals are enough -/
def zsl (K : zG) : Prop := ∀ (cs : List rx_E) (L L' : zL) (S : List zV) (st : zS), (∀ q ∈ L', q ∈ L) → K cs L' S st → K cs L S st
theorem zGd_sl (l : Launch) (d : Nat) (X : rx_X) (D : va_G) (G : rx_G) (Sh : List zC) (Y : rx_Y) (cd : List rx_E) (Rt : zQ) : zsl (zGd l d X D G Sh Y cd Rt) := by
  intro cs L L' S st hs h
  refine ⟨h.1, fun hp hst hL hS => ?_⟩
  obtain ⟨r, st', h1, h2, h3⟩ := h.2 hp hst (fun q hq => hL q (hs q hq)) hS
  refine ⟨r, st', h1, h2, fun w hw => ?_⟩
  obtain ⟨w', k1, k2⟩ := h3 w hw
  refine ⟨w', k1, fun p e s m args below meth c C hnm hret hlocks => ?_⟩
  intro H locs ls hI hl
  refine k2 p e s m args below meth c C hnm hret hlocks H locs ls hI (rx_lv_mono hl (fun q hq => ?_))
  obtain ⟨z, hz, rfl⟩ := List.mem_map.mp hq
  obtain ⟨y, hy, rfl⟩ := List.mem_map.mp hz
  exact List.mem_map.mpr ⟨(y.1, zv y.2), List.mem_map.mpr ⟨y, hs y hy, rfl⟩, rfl⟩
noncomputable def zargs (as : List zV) : Nat → zL := List.rec (fun _ => []) (fun v _ ih i => (i, v) :: ih (i + zcat v)) as
theorem zargs_m (as : List zV) : ∀ i, zLm (zargs as i) = rx_args (zSm as) i := by
  induction as with
  | nil => intro i; rfl
  | cons v t ih =>
    intro i
    show (i, zv v) :: zLm (zargs t (i + zcat v)) = (i, zv v) :: rx_args (zSm t) (i + rx_cat (zv v))
    rw [ih, zcat_v]
theorem zargs_mem (as : List zV) : ∀ i, ∀ q ∈ zargs as i, q.2 ∈ as := by
  induction as with
  | nil => intro i q hq; cases hq
  | cons v t ih =>
    intro i q hq
    rcases List.mem_cons.mp (show q ∈ (i, v) :: zargs t (i + zcat v) from hq) with e | e
    · rw [e]; exact List.mem_cons_self
    · exact List.mem_cons_of_mem _ (ih _ q e)
set_option maxHeartbeats 1000000 in
theorem z_enter {l : Launch} {d : Nat} {X : rx_X} {D : va_G} {G : rx_G} {Sh : List zC} {mi : List rx_Y} {nu : Nat} {as : List zV} {st : zS} {Q : zQ} {x : List rx_E × Nat × Nat × Nat × Nat} {Y : rx_Y} (hG : rx_Gok G) (hF : rx_fok X G.1) (hlen : ∀ (c t n : Nat), Sh[c]? = some (.inr (t, n)) → n < 2147483648) (hY : mi[nu]? = some Y) (hT : rx_tOk mi x Y) (hc : zcats as ≤ x.2.1)
    (h : (∀ v ∈ as, zok v) → zsk Sh st → ∀ K : zG, zcl Sh x.1 x.2.1 x.2.2.2.2 (zOk l d X D G Sh mi) Q K → zsf x.1 K → zsl K → K x.1 (zargs as 0) [] st) : zOk l (d + 1) X D G Sh mi nu as st Q := by
  intro has hst
  obtain ⟨hmx, hrk, hcode, hpl, hokA, hsq, en, rest, hcd, hpc0⟩ := hT
  obtain ⟨hne, hk⟩ := h has hst (zGd l d X D G Sh Y x.1 Q) (z_close hG hokA hmx hsq hrk hlen) (zGd_sf l d X D G Sh Y x.1 Q) (zGd_sl l d X D G Sh Y x.1 Q)
  obtain ⟨r, st', hQ, ⟨hr, hst'⟩, hrun⟩ := hk ⟨[], rfl⟩ hst (fun q hq => has _ (zargs_mem as 0 q hq)) (fun v hv => by cases hv)
  refine ⟨r, st', hQ, ⟨hr, hst'⟩, Y, hY, hcode, fun w hw => ?_⟩
  obtain ⟨w', hw', hW⟩ := hrun w hw
  refine ⟨w', hw', ?_⟩
  unfold rx_Met
  refine rx_ofW (cc := Y.2.1) (maxL := Y.2.2.1) (ret := Y.2.2.2) hpl rfl ?_
  intro p e s m args below meth c s₁ B hml hv
  obtain ⟨rfl, hP, hz, hU⟩ := hv
  have hts0 := atoms_spec (ws := Cond.code Y.1 Y.2.1 Y.2.2.1 Y.2.2.2 :: rx_words) B.pre
  have C : rx_Cx p s m ((zSm as).map (rx_d X)).toArray c X D G Y.1.cls Y.2.1 Y.2.2.1 := ⟨B.exec, B.bytes, hml, findClass_of_methodNamed B.named, fun w hw => hts0 w (List.mem_cons_of_mem _ hw), hU, hF⟩
  have hnm : meth.name = Y.1.name := (name_of_methodNamed B.named B.method).1
  have hret := B.returns
  have hlocks := B.notSynchronized
  have hlv := lv_entry ((zSm as).map (rx_d X)) (n := Y.2.2.1) (by rw [rx_sl_len, hmx, zcats_v]; exact hc)
  rw [lg_entry_eq]
  rw [rx_args_lv] at hlv
  generalize ((lg_sl ((zSm as).map (rx_d X)) ++ List.replicate (Y.2.2.1 - (lg_sl ((zSm as).map (rx_d X))).length) Slot.unset).toArray) = ls at hlv ⊢
  have hI : rx_Iv X D G s w 0 s.heap [] := ⟨hP, fun q => by rw [Nat.add_zero]; exact hz q, va_S.rf⟩
  have hgo := hW p e s m ((zSm as).map (rx_d X)).toArray below meth c C hnm hret hlocks
  have hp0 : zpc x.1 = 0 := by rw [hcd]; exact hpc0
  rw [hp0, zargs_m] at hgo
  exact hgo s.heap [] ls hI hlv
