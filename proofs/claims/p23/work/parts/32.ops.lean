/-! an instruction of the executor is an instruction of the machine -/
def rx_hS (W : Nat → rx_L → List rx_V → List rx_C → Nat → Nat → Prop) (K : rx_K) (cs : List rx_E) (r : rx_R) (n : Nat) : Prop := ∀ (L : rx_L) (S : List rx_V) (w : List rx_C) (cc ss : Nat), K cs L S w cc ss = some r → W n L S w cc ss
section RXI
variable {p : Program} {l : Launch} {e : Env} {R : Room} {s : State} {m : MethodId} {args : Array Value} {below : List Frame} {meth : Method} {c : Code} {Q : State → Prop} {X : rx_X} {D : va_G} {G : rx_G} {own : String} {bc : ByteArray} {nL pc : Nat} {K : rx_K} {rest cd : List rx_E} {L : rx_L} {S : List rx_V} {w : List rx_C} {cc ss : Nat} {r : rx_R}
theorem rx_q_iconst (C : rx_Cx p s m args c X D G own bc nL) {n : Int} {a : Nat} (hv : Int32.ofInt n = nI a) (hd : decode bc pc = .ok (.iconst n, 1)) (hS : rx_hS (rx_W p l e R s m args below meth c Q X D G nL) K rest r (pc + 1)) (h : K rest L (.inl (.inl a) :: S) w cc ss = some r) : rx_W p l e R s m args below meth c Q X D G nL pc L S w cc ss := by
  intro H locs ls hI hl
  exact lv_iconst C.1 C.2.1 hd hv (hS _ _ _ _ _ h H locs ls hI hl)
theorem rx_q_bipush (C : rx_Cx p s m args c X D G own bc nL) {n : Int} {a : Nat} (hv : (Int8.ofInt n).toInt32 = nI a) (hd : decode bc pc = .ok (.bipush n, 2)) (hS : rx_hS (rx_W p l e R s m args below meth c Q X D G nL) K rest r (pc + 2)) (h : K rest L (.inl (.inl a) :: S) w cc ss = some r) : rx_W p l e R s m args below meth c Q X D G nL pc L S w cc ss := by
  intro H locs ls hI hl
  exact lv_bipush C.1 C.2.1 hd hv (hS _ _ _ _ _ h H locs ls hI hl)
theorem rx_q_sipush (C : rx_Cx p s m args c X D G own bc nL) {n : Int} {a : Nat} (hv : (Int16.ofInt n).toInt32 = nI a) (hd : decode bc pc = .ok (.sipush n, 3)) (hS : rx_hS (rx_W p l e R s m args below meth c Q X D G nL) K rest r (pc + 3)) (h : K rest L (.inl (.inl a) :: S) w cc ss = some r) : rx_W p l e R s m args below meth c Q X D G nL pc L S w cc ss := by
  intro H locs ls hI hl
  exact lv_sipush C.1 C.2.1 hd hv (hS _ _ _ _ _ h H locs ls hI hl)
theorem rx_q_ldc (C : rx_Cx p s m args c X D G own bc nL) {k : Nat} {a : Nat} (hv : Cond.constant own k (nI a) ∈ rx_words) (hd : decode bc pc = .ok (.ldc k, 2)) (hS : rx_hS (rx_W p l e R s m args below meth c Q X D G nL) K rest r (pc + 2)) (h : K rest L (.inl (.inl a) :: S) w cc ss = some r) : rx_W p l e R s m args below meth c Q X D G nL pc L S w cc ss := by
  intro H locs ls hI hl
  exact lv_ldc C.1 C.2.1 C.2.2.2.1 (C.2.2.2.2.1 _ hv) hd (hS _ _ _ _ _ h H locs ls hI hl)
theorem rx_q_ldcw (C : rx_Cx p s m args c X D G own bc nL) {k : Nat} {a : Nat} (hv : Cond.constant own k (nI a) ∈ rx_words) (hd : decode bc pc = .ok (.ldc_w k, 3)) (hS : rx_hS (rx_W p l e R s m args below meth c Q X D G nL) K rest r (pc + 3)) (h : K rest L (.inl (.inl a) :: S) w cc ss = some r) : rx_W p l e R s m args below meth c Q X D G nL pc L S w cc ss := by
  intro H locs ls hI hl
  exact lv_ldcw C.1 C.2.1 C.2.2.2.1 (C.2.2.2.2.1 _ hv) hd (hS _ _ _ _ _ h H locs ls hI hl)
theorem rx_q_lconst (C : rx_Cx p s m args c X D G own bc nL) {n : Fin 2} {a : Nat} (hv : Int64.ofNat (n : Nat) = lN a) (hd : decode bc pc = .ok (.lconst n, 1)) (hS : rx_hS (rx_W p l e R s m args below meth c Q X D G nL) K rest r (pc + 1)) (h : K rest L (.inr (.inl (.inl a)) :: S) w cc ss = some r) : rx_W p l e R s m args below meth c Q X D G nL pc L S w cc ss := by
  intro H locs ls hI hl
  exact lv_lconst C.1 C.2.1 hd hv (hS _ _ _ _ _ h H locs ls hI hl)
theorem rx_q_ldc2 (C : rx_Cx p s m args c X D G own bc nL) {k : Nat} {a : Nat} (hv : Cond.constantLong own k (lN a) ∈ rx_words) (hd : decode bc pc = .ok (.ldc2_w k, 3)) (hS : rx_hS (rx_W p l e R s m args below meth c Q X D G nL) K rest r (pc + 3)) (h : K rest L (.inr (.inl (.inl a)) :: S) w cc ss = some r) : rx_W p l e R s m args below meth c Q X D G nL pc L S w cc ss := by
  intro H locs ls hI hl
  exact lv_ldc2 C.1 C.2.1 C.2.2.2.1 (C.2.2.2.2.1 _ hv) hd (hS _ _ _ _ _ h H locs ls hI hl)
theorem rx_q_ldcS (C : rx_Cx p s m args c X D G own bc nL) (ho : own = "GreyRoute$Words") (hd : decode bc pc = .ok (.ldc 38, 2)) (hS : rx_hS (rx_W p l e R s m args below meth c Q X D G nL) K rest r (pc + 2)) (h : K rest L (.inr (.inr (.inr 1)) :: S) w cc ss = some r) : rx_W p l e R s m args below meth c Q X D G nL pc L S w cc ss := by
  intro H locs ls hI hl
  obtain ⟨-, -, -, hown, -, ⟨-, -, -, -, ⟨q1, q2, tx, c1, -, c3, -⟩, -⟩, -⟩ := id C
  subst ho
  have k := hS _ _ _ _ _ h H locs ls hI hl
  have e1 : rx_d X (.inr (.inr (.inr 1))) = .ref q1 := by show va_rf _ = _; rw [c1]; rfl
  rw [List.map_cons, e1] at k
  exact va_ldcS C.1 C.2.1 hown c3 hd k
theorem rx_q_iload (C : rx_Cx p s m args c X D G own bc nL) {a : Nat} (hd : decode bc pc = .ok (.iload a, 2)) (hS : rx_hS (rx_W p l e R s m args below meth c Q X D G nL) K rest r (pc + 2)) (h : rx_ld 0 K rest a L S w cc ss = some r) : rx_W p l e R s m args below meth c Q X D G nL pc L S w cc ss := by
  obtain ⟨v, hm, h⟩ := rx_get_ok h
  rcases v with i | (n | ((_ | k) | j))
  · obtain ⟨-, h⟩ := rx_c h
    intro H locs ls hI hl
    exact lv_iload C.1 C.2.1 hd (rx_Lm_mem hl hm) (hS _ _ _ _ _ h H locs ls hI hl)
  · exact absurd (rx_c h).1 (by decide)
  · cases h
  · exact absurd (rx_c h).1 (by decide)
  · exact absurd (rx_c h).1 (by decide)
theorem rx_q_iload_n (C : rx_Cx p s m args c X D G own bc nL) {a : Nat} {kn : Fin 4} (hk : (kn : Nat) = a) (hd : decode bc pc = .ok (.iload_n kn, 1)) (hS : rx_hS (rx_W p l e R s m args below meth c Q X D G nL) K rest r (pc + 1)) (h : rx_ld 0 K rest a L S w cc ss = some r) : rx_W p l e R s m args below meth c Q X D G nL pc L S w cc ss := by
  obtain ⟨v, hm, h⟩ := rx_get_ok h
  rcases v with i | (n | ((_ | k) | j))
  · obtain ⟨-, h⟩ := rx_c h
    intro H locs ls hI hl
    exact lv_iload_n C.1 C.2.1 hd hk (rx_Lm_mem hl hm) (hS _ _ _ _ _ h H locs ls hI hl)
  · exact absurd (rx_c h).1 (by decide)
  · cases h
  · exact absurd (rx_c h).1 (by decide)
  · exact absurd (rx_c h).1 (by decide)
theorem rx_q_lload (C : rx_Cx p s m args c X D G own bc nL) {a : Nat} (hd : decode bc pc = .ok (.lload a, 2)) (hS : rx_hS (rx_W p l e R s m args below meth c Q X D G nL) K rest r (pc + 2)) (h : rx_ld 1 K rest a L S w cc ss = some r) : rx_W p l e R s m args below meth c Q X D G nL pc L S w cc ss := by
  obtain ⟨v, hm, h⟩ := rx_get_ok h
  rcases v with i | (n | ((_ | k) | j))
  · exact absurd (rx_c h).1 (by decide)
  · obtain ⟨-, h⟩ := rx_c h
    intro H locs ls hI hl
    rcases n with n | n
    · exact lv_lload C.1 C.2.1 hd (rx_Lm_mem hl hm) (hS _ _ _ _ _ h H locs ls hI hl)
    · exact lv_lload C.1 C.2.1 hd (rx_Lm_mem hl hm) (hS _ _ _ _ _ h H locs ls hI hl)
  · cases h
  · exact absurd (rx_c h).1 (by decide)
  · exact absurd (rx_c h).1 (by decide)
theorem rx_q_lload_n (C : rx_Cx p s m args c X D G own bc nL) {a : Nat} {kn : Fin 4} (hk : (kn : Nat) = a) (hd : decode bc pc = .ok (.lload_n kn, 1)) (hS : rx_hS (rx_W p l e R s m args below meth c Q X D G nL) K rest r (pc + 1)) (h : rx_ld 1 K rest a L S w cc ss = some r) : rx_W p l e R s m args below meth c Q X D G nL pc L S w cc ss := by
  obtain ⟨v, hm, h⟩ := rx_get_ok h
  rcases v with i | (n | ((_ | k) | j))
  · exact absurd (rx_c h).1 (by decide)
  · obtain ⟨-, h⟩ := rx_c h
    intro H locs ls hI hl
    rcases n with n | n
    · exact lv_lload_n C.1 C.2.1 hd hk (rx_Lm_mem hl hm) (hS _ _ _ _ _ h H locs ls hI hl)
    · exact lv_lload_n C.1 C.2.1 hd hk (rx_Lm_mem hl hm) (hS _ _ _ _ _ h H locs ls hI hl)
  · cases h
  · exact absurd (rx_c h).1 (by decide)
  · exact absurd (rx_c h).1 (by decide)
theorem rx_q_aload (C : rx_Cx p s m args c X D G own bc nL) {a : Nat} (hd : decode bc pc = .ok (.aload a, 2)) (hS : rx_hS (rx_W p l e R s m args below meth c Q X D G nL) K rest r (pc + 2)) (h : rx_ld 2 K rest a L S w cc ss = some r) : rx_W p l e R s m args below meth c Q X D G nL pc L S w cc ss := by
  obtain ⟨v, hm, h⟩ := rx_get_ok h
  rcases v with i | (n | ((_ | k) | j))
  · exact absurd (rx_c h).1 (by decide)
  · exact absurd (rx_c h).1 (by decide)
  · cases h
  · obtain ⟨-, h⟩ := rx_c h
    intro H locs ls hI hl
    exact lv_aload C.1 C.2.1 hd (rx_Lm_mem hl hm) (hS _ _ _ _ _ h H locs ls hI hl)
  · obtain ⟨-, h⟩ := rx_c h
    intro H locs ls hI hl
    have k := hS _ _ _ _ _ h H locs ls hI hl
    have g := rx_Lm_mem hl hm
    rw [List.map_cons] at k
    have e0 : rx_d X (.inr (.inr (.inr j))) = va_rf (X.2.2.1 j) := rfl
    rw [e0] at k g
    cases ej : X.2.2.1 j with
    | none => rw [ej] at k g; exact lv_aloadN C.1 C.2.1 hd g k
    | some y => rw [ej] at k g; exact lv_aload C.1 C.2.1 hd g k
theorem rx_q_aload_n (C : rx_Cx p s m args c X D G own bc nL) {a : Nat} {kn : Fin 4} (hk : (kn : Nat) = a) (hd : decode bc pc = .ok (.aload_n kn, 1)) (hS : rx_hS (rx_W p l e R s m args below meth c Q X D G nL) K rest r (pc + 1)) (h : rx_ld 2 K rest a L S w cc ss = some r) : rx_W p l e R s m args below meth c Q X D G nL pc L S w cc ss := by
  obtain ⟨v, hm, h⟩ := rx_get_ok h
  rcases v with i | (n | ((_ | k) | j))
  · exact absurd (rx_c h).1 (by decide)
  · exact absurd (rx_c h).1 (by decide)
  · cases h
  · obtain ⟨-, h⟩ := rx_c h
    intro H locs ls hI hl
    exact lv_aload_n C.1 C.2.1 hd hk (rx_Lm_mem hl hm) (hS _ _ _ _ _ h H locs ls hI hl)
  · obtain ⟨-, h⟩ := rx_c h
    intro H locs ls hI hl
    have k := hS _ _ _ _ _ h H locs ls hI hl
    have g := rx_Lm_mem hl hm
    rw [List.map_cons] at k
    have e0 : rx_d X (.inr (.inr (.inr j))) = va_rf (X.2.2.1 j) := rfl
    rw [e0] at k g
    cases ej : X.2.2.1 j with
    | none => rw [ej] at k g; exact lv_aload_nN C.1 C.2.1 hd hk g k
    | some y => rw [ej] at k g; exact lv_aload_n C.1 C.2.1 hd hk g k
theorem rx_q_istore (C : rx_Cx p s m args c X D G own bc nL) {a : Nat} (hd : decode bc pc = .ok (.istore a, 2)) (hS : rx_hS (rx_W p l e R s m args below meth c Q X D G nL) K rest r (pc + 2)) (h : rx_st 0 nL K rest a L S w cc ss = some r) : rx_W p l e R s m args below meth c Q X D G nL pc L S w cc ss := by
  cases S with
  | nil => cases h
  | cons v S' =>
  rcases v with i | (n | ((_ | k) | j))
  · obtain ⟨hc, h⟩ := rx_c h
    have hn := rx_bt (rx_an hc).2
    rw [rx_rem_eq] at h
    intro H locs ls hI hl
    exact lv_istore C.1 C.2.1 hd hl hn rfl (fun ls' hl' => hS _ _ _ _ _ h H locs ls' hI (rx_lv1 (v := .inl i) hl'))
  · cases h
  · cases h
  · cases h
  · cases h
theorem rx_q_istore_n (C : rx_Cx p s m args c X D G own bc nL) {a : Nat} {kn : Fin 4} (hk : (kn : Nat) = a) (hd : decode bc pc = .ok (.istore_n kn, 1)) (hS : rx_hS (rx_W p l e R s m args below meth c Q X D G nL) K rest r (pc + 1)) (h : rx_st 0 nL K rest a L S w cc ss = some r) : rx_W p l e R s m args below meth c Q X D G nL pc L S w cc ss := by
  cases S with
  | nil => cases h
  | cons v S' =>
  rcases v with i | (n | ((_ | k) | j))
  · obtain ⟨hc, h⟩ := rx_c h
    have hn := rx_bt (rx_an hc).2
    rw [rx_rem_eq] at h
    intro H locs ls hI hl
    exact lv_istore_n C.1 C.2.1 hd hk hl hn rfl (fun ls' hl' => hS _ _ _ _ _ h H locs ls' hI (rx_lv1 (v := .inl i) hl'))
  · cases h
  · cases h
  · cases h
  · cases h
theorem rx_q_lstore (C : rx_Cx p s m args c X D G own bc nL) {a : Nat} (hd : decode bc pc = .ok (.lstore a, 2)) (hS : rx_hS (rx_W p l e R s m args below meth c Q X D G nL) K rest r (pc + 2)) (h : rx_st 1 nL K rest a L S w cc ss = some r) : rx_W p l e R s m args below meth c Q X D G nL pc L S w cc ss := by
  cases S with
  | nil => cases h
  | cons v S' =>
  rcases v with i | (n | ((_ | k) | j))
  · cases h
  · obtain ⟨hc, h⟩ := rx_c h
    have hn := rx_bt (rx_an hc).2
    rw [rx_rem_eq] at h
    intro H locs ls hI hl
    rcases n with n | n
    · exact lv_lstore C.1 C.2.1 hd hl hn rfl (fun ls' hl' => hS _ _ _ _ _ h H locs ls' hI (rx_lv2 (v := .inr (.inl (.inl n))) hl'))
    · exact lv_lstore C.1 C.2.1 hd hl hn rfl (fun ls' hl' => hS _ _ _ _ _ h H locs ls' hI (rx_lv2 (v := .inr (.inl (.inr n))) hl'))
  · cases h
  · cases h
  · cases h
theorem rx_q_lstore_n (C : rx_Cx p s m args c X D G own bc nL) {a : Nat} {kn : Fin 4} (hk : (kn : Nat) = a) (hd : decode bc pc = .ok (.lstore_n kn, 1)) (hS : rx_hS (rx_W p l e R s m args below meth c Q X D G nL) K rest r (pc + 1)) (h : rx_st 1 nL K rest a L S w cc ss = some r) : rx_W p l e R s m args below meth c Q X D G nL pc L S w cc ss := by
  cases S with
  | nil => cases h
  | cons v S' =>
  rcases v with i | (n | ((_ | k) | j))
  · cases h
  · obtain ⟨hc, h⟩ := rx_c h
    have hn := rx_bt (rx_an hc).2
    rw [rx_rem_eq] at h
    intro H locs ls hI hl
    rcases n with n | n
    · exact lv_lstore_n C.1 C.2.1 hd hk hl hn rfl (fun ls' hl' => hS _ _ _ _ _ h H locs ls' hI (rx_lv2 (v := .inr (.inl (.inl n))) hl'))
    · exact lv_lstore_n C.1 C.2.1 hd hk hl hn rfl (fun ls' hl' => hS _ _ _ _ _ h H locs ls' hI (rx_lv2 (v := .inr (.inl (.inr n))) hl'))
  · cases h
  · cases h
  · cases h
theorem rx_q_astore (C : rx_Cx p s m args c X D G own bc nL) {a : Nat} (hd : decode bc pc = .ok (.astore a, 2)) (hS : rx_hS (rx_W p l e R s m args below meth c Q X D G nL) K rest r (pc + 2)) (h : rx_st 2 nL K rest a L S w cc ss = some r) : rx_W p l e R s m args below meth c Q X D G nL pc L S w cc ss := by
  cases S with
  | nil => cases h
  | cons v S' =>
  rcases v with i | (n | ((_ | k) | j))
  · cases h
  · cases h
  · cases h
  · obtain ⟨hc, h⟩ := rx_c h
    have hn := rx_bt (rx_an hc).2
    rw [rx_rem_eq] at h
    intro H locs ls hI hl
    exact lv_astore C.1 C.2.1 hd hl hn rfl (fun ls' hl' => hS _ _ _ _ _ h H locs ls' hI (rx_lv1 (v := .inr (.inr (.inl (some k)))) hl'))
  · obtain ⟨hc, h⟩ := rx_c h
    have hn := rx_bt (rx_an hc).2
    rw [rx_rem_eq] at h
    intro H locs ls hI hl
    rw [List.map_cons]
    have e0 : rx_d X (.inr (.inr (.inr j))) = va_rf (X.2.2.1 j) := rfl
    rw [e0]
    have hb : ∀ ls' : Array Slot, lv_has ls' nL ((a, va_rf (X.2.2.1 j)) :: (rx_Lm X L).filter (fun q => !(q.1 == a) && !(q.1 + 1 == a && q.2.category == 2))) → _ := fun ls' hl' => hS _ _ _ _ _ h H locs ls' hI (rx_lv1 (v := .inr (.inr (.inr j))) hl')
    cases ej : X.2.2.1 j with
    | none => rw [ej] at hb; exact lv_astoreN C.1 C.2.1 hd hl hn rfl hb
    | some y => rw [ej] at hb; exact lv_astore C.1 C.2.1 hd hl hn rfl hb
theorem rx_q_astore_n (C : rx_Cx p s m args c X D G own bc nL) {a : Nat} {kn : Fin 4} (hk : (kn : Nat) = a) (hd : decode bc pc = .ok (.astore_n kn, 1)) (hS : rx_hS (rx_W p l e R s m args below meth c Q X D G nL) K rest r (pc + 1)) (h : rx_st 2 nL K rest a L S w cc ss = some r) : rx_W p l e R s m args below meth c Q X D G nL pc L S w cc ss := by
  cases S with
  | nil => cases h
  | cons v S' =>
  rcases v with i | (n | ((_ | k) | j))
  · cases h
  · cases h
  · cases h
  · obtain ⟨hc, h⟩ := rx_c h
    have hn := rx_bt (rx_an hc).2
    rw [rx_rem_eq] at h
    intro H locs ls hI hl
    exact lv_astore_n C.1 C.2.1 hd hk hl hn rfl (fun ls' hl' => hS _ _ _ _ _ h H locs ls' hI (rx_lv1 (v := .inr (.inr (.inl (some k)))) hl'))
  · obtain ⟨hc, h⟩ := rx_c h
    have hn := rx_bt (rx_an hc).2
    rw [rx_rem_eq] at h
    intro H locs ls hI hl
    rw [List.map_cons]
    have e0 : rx_d X (.inr (.inr (.inr j))) = va_rf (X.2.2.1 j) := rfl
    rw [e0]
    have hb : ∀ ls' : Array Slot, lv_has ls' nL ((a, va_rf (X.2.2.1 j)) :: (rx_Lm X L).filter (fun q => !(q.1 == a) && !(q.1 + 1 == a && q.2.category == 2))) → _ := fun ls' hl' => hS _ _ _ _ _ h H locs ls' hI (rx_lv1 (v := .inr (.inr (.inr j))) hl')
    cases ej : X.2.2.1 j with
    | none => rw [ej] at hb; exact lv_astore_nN C.1 C.2.1 hd hk hl hn rfl hb
    | some y => rw [ej] at hb; exact lv_astore_n C.1 C.2.1 hd hk hl hn rfl hb
theorem rx_q_iinc (C : rx_Cx p s m args c X D G own bc nL) {a b : Nat} {z : Int} (hz : Int32.ofInt z = nI b) (hd : decode bc pc = .ok (.iinc a z, 3)) (hS : rx_hS (rx_W p l e R s m args below meth c Q X D G nL) K rest r (pc + 3)) (h : rx_ii nL K rest a b L S w cc ss = some r) : rx_W p l e R s m args below meth c Q X D G nL pc L S w cc ss := by
  obtain ⟨v, hm, h⟩ := rx_get_ok h
  rcases v with (n | u) | q
  · obtain ⟨hn, h⟩ := rx_c h
    have hn := rx_bt hn
    rw [rx_fN_eq, rx_rem_eq] at h
    intro H locs ls hI hl
    have hmem : (a, Value.int (nI n)) ∈ rx_Lm X L := List.mem_map.mpr ⟨(a, .inl (.inl n)), hm, rfl⟩
    obtain ⟨i, hi⟩ := List.getElem?_of_mem hmem
    exact lv_iinc (v := nI ((n + b) % 4294967296)) C.1 C.2.1 hd hl hi (by rw [hz, rx_add]) hn rfl (fun ls' hl' => hS _ _ _ _ _ h H locs ls' hI (rx_lv1 (v := .inl (.inl ((n + b) % 4294967296))) hl'))
  · cases h
  · cases h
theorem rx_o2_ok {g : Nat → Nat → Bool} {f : Nat → Nat → Nat} (h : rx_o2 g f K rest L S w cc ss = some r) : ∃ x y S', S = .inl (.inl y) :: .inl (.inl x) :: S' ∧ g x y = true ∧ K rest L (.inl (.inl (f x y)) :: S') w cc ss = some r := by
  unfold rx_o2 at h
  split at h
  · obtain ⟨h1, h⟩ := rx_c h
    rw [rx_fN_eq] at h
    exact ⟨_, _, _, rfl, h1, h⟩
  · cases h
theorem rx_l2_ok {g : Nat → Nat → Bool} {f : Nat → Nat → Nat} (h : rx_l2 g f K rest L S w cc ss = some r) : ∃ x y S', S = .inr (.inl (.inl y)) :: .inr (.inl (.inl x)) :: S' ∧ g x y = true ∧ K rest L (.inr (.inl (.inl (f x y))) :: S') w cc ss = some r := by
  unfold rx_l2 at h
  split at h
  · obtain ⟨h1, h⟩ := rx_c h
    rw [rx_fN_eq] at h
    exact ⟨_, _, _, rfl, h1, h⟩
  · cases h
theorem rx_q_iadd (C : rx_Cx p s m args c X D G own bc nL) (hd : decode bc pc = .ok (.iadd, 1)) (hS : rx_hS (rx_W p l e R s m args below meth c Q X D G nL) K rest r (pc + 1)) (h : rx_o2 (fun _ _ => true) (fun x y => (x + y) % 4294967296) K rest L S w cc ss = some r) : rx_W p l e R s m args below meth c Q X D G nL pc L S w cc ss := by
  obtain ⟨x, y, S', rfl, hg, h⟩ := rx_o2_ok h
  intro H locs ls hI hl
  have k := hS _ _ _ _ _ h H locs ls hI hl
  have k : W p l e R s m args below meth c H locs cc ss Q (F0 m (pc + 1) ls (.int (nI ((x + y) % 4294967296)) :: S'.map (rx_d X))) := k
  rw [rx_add] at k
  exact lv_iadd C.1 C.2.1 hd  k
theorem rx_q_isub (C : rx_Cx p s m args c X D G own bc nL) (hd : decode bc pc = .ok (.isub, 1)) (hS : rx_hS (rx_W p l e R s m args below meth c Q X D G nL) K rest r (pc + 1)) (h : rx_o2 (fun _ _ => true) (fun x y => (x + (4294967296 - y % 4294967296)) % 4294967296) K rest L S w cc ss = some r) : rx_W p l e R s m args below meth c Q X D G nL pc L S w cc ss := by
  obtain ⟨x, y, S', rfl, hg, h⟩ := rx_o2_ok h
  intro H locs ls hI hl
  have k := hS _ _ _ _ _ h H locs ls hI hl
  have k : W p l e R s m args below meth c H locs cc ss Q (F0 m (pc + 1) ls (.int (nI ((x + (4294967296 - y % 4294967296)) % 4294967296)) :: S'.map (rx_d X))) := k
  rw [rx_sub] at k
  exact lv_isub C.1 C.2.1 hd  k
theorem rx_q_imul (C : rx_Cx p s m args c X D G own bc nL) (hd : decode bc pc = .ok (.imul, 1)) (hS : rx_hS (rx_W p l e R s m args below meth c Q X D G nL) K rest r (pc + 1)) (h : rx_o2 (fun _ _ => true) (fun x y => (x * y) % 4294967296) K rest L S w cc ss = some r) : rx_W p l e R s m args below meth c Q X D G nL pc L S w cc ss := by
  obtain ⟨x, y, S', rfl, hg, h⟩ := rx_o2_ok h
  intro H locs ls hI hl
  have k := hS _ _ _ _ _ h H locs ls hI hl
  have k : W p l e R s m args below meth c H locs cc ss Q (F0 m (pc + 1) ls (.int (nI ((x * y) % 4294967296)) :: S'.map (rx_d X))) := k
  rw [rx_mul] at k
  exact lv_imul C.1 C.2.1 hd  k
theorem rx_q_ior (C : rx_Cx p s m args c X D G own bc nL) (hd : decode bc pc = .ok (.ior, 1)) (hS : rx_hS (rx_W p l e R s m args below meth c Q X D G nL) K rest r (pc + 1)) (h : rx_o2 (fun _ _ => true) (fun x y => Nat.lor x y) K rest L S w cc ss = some r) : rx_W p l e R s m args below meth c Q X D G nL pc L S w cc ss := by
  obtain ⟨x, y, S', rfl, hg, h⟩ := rx_o2_ok h
  intro H locs ls hI hl
  have k := hS _ _ _ _ _ h H locs ls hI hl
  have k : W p l e R s m args below meth c H locs cc ss Q (F0 m (pc + 1) ls (.int (nI (Nat.lor x y)) :: S'.map (rx_d X))) := k
  rw [rx_or] at k
  exact lv_ior C.1 C.2.1 hd  k
theorem rx_q_ixor (C : rx_Cx p s m args c X D G own bc nL) (hd : decode bc pc = .ok (.ixor, 1)) (hS : rx_hS (rx_W p l e R s m args below meth c Q X D G nL) K rest r (pc + 1)) (h : rx_o2 (fun _ _ => true) (fun x y => Nat.xor x y) K rest L S w cc ss = some r) : rx_W p l e R s m args below meth c Q X D G nL pc L S w cc ss := by
  obtain ⟨x, y, S', rfl, hg, h⟩ := rx_o2_ok h
  intro H locs ls hI hl
  have k := hS _ _ _ _ _ h H locs ls hI hl
  have k : W p l e R s m args below meth c H locs cc ss Q (F0 m (pc + 1) ls (.int (nI (Nat.xor x y)) :: S'.map (rx_d X))) := k
  rw [rx_xor] at k
  exact lv_ixor C.1 C.2.1 hd  k
theorem rx_q_ishl (C : rx_Cx p s m args c X D G own bc nL) (hd : decode bc pc = .ok (.ishl, 1)) (hS : rx_hS (rx_W p l e R s m args below meth c Q X D G nL) K rest r (pc + 1)) (h : rx_o2 (fun _ _ => true) (fun x y => (x * 2 ^ (y % 32)) % 4294967296) K rest L S w cc ss = some r) : rx_W p l e R s m args below meth c Q X D G nL pc L S w cc ss := by
  obtain ⟨x, y, S', rfl, hg, h⟩ := rx_o2_ok h
  intro H locs ls hI hl
  have k := hS _ _ _ _ _ h H locs ls hI hl
  have k : W p l e R s m args below meth c H locs cc ss Q (F0 m (pc + 1) ls (.int (nI ((x * 2 ^ (y % 32)) % 4294967296)) :: S'.map (rx_d X))) := k
  rw [rx_shl] at k
  exact lv_ishl C.1 C.2.1 hd  k
theorem rx_q_idiv (C : rx_Cx p s m args c X D G own bc nL) (hd : decode bc pc = .ok (.idiv, 1)) (hS : rx_hS (rx_W p l e R s m args below meth c Q X D G nL) K rest r (pc + 1)) (h : rx_o2 (fun x y => Nat.blt x 2147483648 && (Nat.blt y 2147483648 && Nat.blt 0 y)) (fun x y => x / y) K rest L S w cc ss = some r) : rx_W p l e R s m args below meth c Q X D G nL pc L S w cc ss := by
  obtain ⟨x, y, S', rfl, hg, h⟩ := rx_o2_ok h
  intro H locs ls hI hl
  have k := hS _ _ _ _ _ h H locs ls hI hl
  obtain ⟨g1, hg⟩ := rx_an hg
  obtain ⟨g2, g3⟩ := rx_an hg
  have g1 := rx_bt g1
  have g2 := rx_bt g2
  have g3 := rx_bt g3
  have k : W p l e R s m args below meth c H locs cc ss Q (F0 m (pc + 1) ls (.int (nI (x / y)) :: S'.map (rx_d X))) := k
  rw [rx_div g1 g2 g3] at k
  exact lv_idiv C.1 C.2.1 hd (by intro q; have := (nI_eq (a := y) (b := 0) g2 (by decide)).mp q; omega) k
theorem rx_q_irem (C : rx_Cx p s m args c X D G own bc nL) (hd : decode bc pc = .ok (.irem, 1)) (hS : rx_hS (rx_W p l e R s m args below meth c Q X D G nL) K rest r (pc + 1)) (h : rx_o2 (fun x y => Nat.blt x 2147483648 && (Nat.blt y 2147483648 && Nat.blt 0 y)) (fun x y => x % y) K rest L S w cc ss = some r) : rx_W p l e R s m args below meth c Q X D G nL pc L S w cc ss := by
  obtain ⟨x, y, S', rfl, hg, h⟩ := rx_o2_ok h
  intro H locs ls hI hl
  have k := hS _ _ _ _ _ h H locs ls hI hl
  obtain ⟨g1, hg⟩ := rx_an hg
  obtain ⟨g2, g3⟩ := rx_an hg
  have g1 := rx_bt g1
  have g2 := rx_bt g2
  have g3 := rx_bt g3
  have k : W p l e R s m args below meth c H locs cc ss Q (F0 m (pc + 1) ls (.int (nI (x % y)) :: S'.map (rx_d X))) := k
  rw [rx_rem' g1 g2 g3] at k
  exact lv_irem C.1 C.2.1 hd (by intro q; have := (nI_eq (a := y) (b := 0) g2 (by decide)).mp q; omega) k
theorem rx_q_iushr (C : rx_Cx p s m args c X D G own bc nL) (hd : decode bc pc = .ok (.iushr, 1)) (hS : rx_hS (rx_W p l e R s m args below meth c Q X D G nL) K rest r (pc + 1)) (h : rx_o2 (fun _ _ => true) (fun x y => x % 4294967296 / 2 ^ (y % 32)) K rest L S w cc ss = some r) : rx_W p l e R s m args below meth c Q X D G nL pc L S w cc ss := by
  obtain ⟨x, y, S', rfl, hg, h⟩ := rx_o2_ok h
  intro H locs ls hI hl
  exact lv_iushr (v := nI (x % 4294967296 / 2 ^ (y % 32))) C.1 C.2.1 hd (rx_ushr x y).symm (hS _ _ _ _ _ h H locs ls hI hl)
theorem rx_q_ladd (C : rx_Cx p s m args c X D G own bc nL) (hd : decode bc pc = .ok (.ladd, 1)) (hS : rx_hS (rx_W p l e R s m args below meth c Q X D G nL) K rest r (pc + 1)) (h : rx_l2 (fun _ _ => true) (fun x y => (x + y) % 18446744073709551616) K rest L S w cc ss = some r) : rx_W p l e R s m args below meth c Q X D G nL pc L S w cc ss := by
  obtain ⟨x, y, S', rfl, hg, h⟩ := rx_l2_ok h
  intro H locs ls hI hl
  have k := hS _ _ _ _ _ h H locs ls hI hl
  have k : W p l e R s m args below meth c H locs cc ss Q (F0 m (pc + 1) ls (.long (lN ((x + y) % 18446744073709551616)) :: S'.map (rx_d X))) := k
  rw [rl_add] at k
  exact lv_ladd C.1 C.2.1 hd  k
theorem rx_q_lsub (C : rx_Cx p s m args c X D G own bc nL) (hd : decode bc pc = .ok (.lsub, 1)) (hS : rx_hS (rx_W p l e R s m args below meth c Q X D G nL) K rest r (pc + 1)) (h : rx_l2 (fun _ _ => true) (fun x y => (x + (18446744073709551616 - y % 18446744073709551616)) % 18446744073709551616) K rest L S w cc ss = some r) : rx_W p l e R s m args below meth c Q X D G nL pc L S w cc ss := by
  obtain ⟨x, y, S', rfl, hg, h⟩ := rx_l2_ok h
  intro H locs ls hI hl
  have k := hS _ _ _ _ _ h H locs ls hI hl
  have k : W p l e R s m args below meth c H locs cc ss Q (F0 m (pc + 1) ls (.long (lN ((x + (18446744073709551616 - y % 18446744073709551616)) % 18446744073709551616)) :: S'.map (rx_d X))) := k
  rw [rl_sub] at k
  exact lv_lsub C.1 C.2.1 hd  k
theorem rx_q_lmul (C : rx_Cx p s m args c X D G own bc nL) (hd : decode bc pc = .ok (.lmul, 1)) (hS : rx_hS (rx_W p l e R s m args below meth c Q X D G nL) K rest r (pc + 1)) (h : rx_l2 (fun _ _ => true) (fun x y => (x * y) % 18446744073709551616) K rest L S w cc ss = some r) : rx_W p l e R s m args below meth c Q X D G nL pc L S w cc ss := by
  obtain ⟨x, y, S', rfl, hg, h⟩ := rx_l2_ok h
  intro H locs ls hI hl
  have k := hS _ _ _ _ _ h H locs ls hI hl
  have k : W p l e R s m args below meth c H locs cc ss Q (F0 m (pc + 1) ls (.long (lN ((x * y) % 18446744073709551616)) :: S'.map (rx_d X))) := k
  rw [rl_mul] at k
  exact lv_lmul C.1 C.2.1 hd  k
theorem rx_q_land (C : rx_Cx p s m args c X D G own bc nL) (hd : decode bc pc = .ok (.land, 1)) (hS : rx_hS (rx_W p l e R s m args below meth c Q X D G nL) K rest r (pc + 1)) (h : rx_l2 (fun _ _ => true) (fun x y => Nat.land x y) K rest L S w cc ss = some r) : rx_W p l e R s m args below meth c Q X D G nL pc L S w cc ss := by
  obtain ⟨x, y, S', rfl, hg, h⟩ := rx_l2_ok h
  intro H locs ls hI hl
  have k := hS _ _ _ _ _ h H locs ls hI hl
  have k : W p l e R s m args below meth c H locs cc ss Q (F0 m (pc + 1) ls (.long (lN (Nat.land x y)) :: S'.map (rx_d X))) := k
  rw [rl_and] at k
  exact lv_land C.1 C.2.1 hd  k
theorem rx_q_lor (C : rx_Cx p s m args c X D G own bc nL) (hd : decode bc pc = .ok (.lor, 1)) (hS : rx_hS (rx_W p l e R s m args below meth c Q X D G nL) K rest r (pc + 1)) (h : rx_l2 (fun _ _ => true) (fun x y => Nat.lor x y) K rest L S w cc ss = some r) : rx_W p l e R s m args below meth c Q X D G nL pc L S w cc ss := by
  obtain ⟨x, y, S', rfl, hg, h⟩ := rx_l2_ok h
  intro H locs ls hI hl
  have k := hS _ _ _ _ _ h H locs ls hI hl
  have k : W p l e R s m args below meth c H locs cc ss Q (F0 m (pc + 1) ls (.long (lN (Nat.lor x y)) :: S'.map (rx_d X))) := k
  rw [rl_or] at k
  exact lv_lor C.1 C.2.1 hd  k
theorem rx_q_ldiv (C : rx_Cx p s m args c X D G own bc nL) (hd : decode bc pc = .ok (.ldiv, 1)) (hS : rx_hS (rx_W p l e R s m args below meth c Q X D G nL) K rest r (pc + 1)) (h : rx_l2 (fun x y => Nat.blt x 9223372036854775808 && (Nat.blt y 9223372036854775808 && Nat.blt 0 y)) (fun x y => x / y) K rest L S w cc ss = some r) : rx_W p l e R s m args below meth c Q X D G nL pc L S w cc ss := by
  obtain ⟨x, y, S', rfl, hg, h⟩ := rx_l2_ok h
  intro H locs ls hI hl
  have k := hS _ _ _ _ _ h H locs ls hI hl
  obtain ⟨g1, hg⟩ := rx_an hg
  obtain ⟨g2, g3⟩ := rx_an hg
  have g1 := rx_bt g1
  have g2 := rx_bt g2
  have g3 := rx_bt g3
  have k : W p l e R s m args below meth c H locs cc ss Q (F0 m (pc + 1) ls (.long (lN (x / y)) :: S'.map (rx_d X))) := k
  rw [rl_div g1 g2 g3] at k
  exact lv_ldiv C.1 C.2.1 hd (rl_ne0 g2 g3) k
theorem rx_q_lrem (C : rx_Cx p s m args c X D G own bc nL) (hd : decode bc pc = .ok (.lrem, 1)) (hS : rx_hS (rx_W p l e R s m args below meth c Q X D G nL) K rest r (pc + 1)) (h : rx_l2 (fun x y => Nat.blt x 9223372036854775808 && (Nat.blt y 9223372036854775808 && Nat.blt 0 y)) (fun x y => x % y) K rest L S w cc ss = some r) : rx_W p l e R s m args below meth c Q X D G nL pc L S w cc ss := by
  obtain ⟨x, y, S', rfl, hg, h⟩ := rx_l2_ok h
  intro H locs ls hI hl
  have k := hS _ _ _ _ _ h H locs ls hI hl
  obtain ⟨g1, hg⟩ := rx_an hg
  obtain ⟨g2, g3⟩ := rx_an hg
  have g1 := rx_bt g1
  have g2 := rx_bt g2
  have g3 := rx_bt g3
  have k : W p l e R s m args below meth c H locs cc ss Q (F0 m (pc + 1) ls (.long (lN (x % y)) :: S'.map (rx_d X))) := k
  rw [rl_rem g1 g2 g3] at k
  exact lv_lrem C.1 C.2.1 hd (rl_ne0 g2 g3) k
theorem rx_q_iand (C : rx_Cx p s m args c X D G own bc nL) (hd : decode bc pc = .ok (.iand, 1)) (hS : rx_hS (rx_W p l e R s m args below meth c Q X D G nL) K rest r (pc + 1)) (h : rx_o2u G.1 0 (fun _ _ => true) (fun x y => Nat.land x y) K rest L S w cc ss = some r) : rx_W p l e R s m args below meth c Q X D G nL pc L S w cc ss := by
  unfold rx_o2u at h
  split at h
  · rename_i y x S'
    obtain ⟨hg, h⟩ := rx_c h
    rw [rx_fN_eq] at h
    intro H locs ls hI hl
    have k := hS _ _ _ _ _ h H locs ls hI hl
    have k : W p l e R s m args below meth c H locs cc ss Q (F0 m (pc + 1) ls (.int (nI (Nat.land x y)) :: S'.map (rx_d X))) := k
    rw [rx_and] at k
    exact lv_iand C.1 C.2.1 hd k
  · rename_i y u S'
    intro H locs ls hI hl
    have k := hS _ _ _ _ _ h H locs ls hI hl
    have k : W p l e R s m args below meth c H locs cc ss Q (F0 m (pc + 1) ls (.int (rx_N X (rx_nm G.1 (u.1, (0, y) :: u.2))) :: S'.map (rx_d X))) := k
    rw [rx_nm_ok C.2.2.2.2.2.2] at k
    exact lv_iand C.1 C.2.1 hd k
  · cases h
theorem rx_q_ishr (C : rx_Cx p s m args c X D G own bc nL) (hd : decode bc pc = .ok (.ishr, 1)) (hS : rx_hS (rx_W p l e R s m args below meth c Q X D G nL) K rest r (pc + 1)) (h : rx_o2u G.1 1 (fun x _ => Nat.blt x 2147483648) (fun x y => x / 2 ^ (y % 32)) K rest L S w cc ss = some r) : rx_W p l e R s m args below meth c Q X D G nL pc L S w cc ss := by
  unfold rx_o2u at h
  split at h
  · rename_i y x S'
    obtain ⟨hg, h⟩ := rx_c h
    rw [rx_fN_eq] at h
    intro H locs ls hI hl
    have k := hS _ _ _ _ _ h H locs ls hI hl
    have k : W p l e R s m args below meth c H locs cc ss Q (F0 m (pc + 1) ls (.int (nI (x / 2 ^ (y % 32))) :: S'.map (rx_d X))) := k
    rw [rx_shr y (rx_bt hg)] at k
    exact lv_ishr C.1 C.2.1 hd k
  · rename_i y u S'
    intro H locs ls hI hl
    have k := hS _ _ _ _ _ h H locs ls hI hl
    have k : W p l e R s m args below meth c H locs cc ss Q (F0 m (pc + 1) ls (.int (rx_N X (rx_nm G.1 (u.1, (1, y) :: u.2))) :: S'.map (rx_d X))) := k
    rw [rx_nm_ok C.2.2.2.2.2.2] at k
    exact lv_ishr C.1 C.2.1 hd k
  · cases h
theorem rx_q_i2c (C : rx_Cx p s m args c X D G own bc nL) (hd : decode bc pc = .ok (.i2c, 1)) (hS : rx_hS (rx_W p l e R s m args below meth c Q X D G nL) K rest r (pc + 1)) (h : rx_o1 (fun x => x % 65536) K rest L S w cc ss = some r) : rx_W p l e R s m args below meth c Q X D G nL pc L S w cc ss := by
  unfold rx_o1 at h
  split at h
  · rename_i x S'
    rw [rx_fN_eq] at h
    intro H locs ls hI hl
    exact lv_i2c (v := nI (x % 65536)) C.1 C.2.1 hd (by rw [pk_char, show rx_N X (.inl x) = nI x from rfl, rx_tn]; exact congrArg nI (by omega)) (hS _ _ _ _ _ h H locs ls hI hl)
  · cases h
theorem rx_q_i2b (C : rx_Cx p s m args c X D G own bc nL) (hd : decode bc pc = .ok (.i2b, 1)) (hS : rx_hS (rx_W p l e R s m args below meth c Q X D G nL) K rest r (pc + 1)) (h : rx_i2bS G.1 K rest L S w cc ss = some r) : rx_W p l e R s m args below meth c Q X D G nL pc L S w cc ss := by
  unfold rx_i2bS at h
  split at h
  · rename_i x S'
    rw [rx_fN_eq] at h
    intro H locs ls hI hl
    exact lv_i2b C.1 C.2.1 hd (rx_i2b x).symm (hS _ _ _ _ _ h H locs ls hI hl)
  · rename_i u S'
    intro H locs ls hI hl
    have k := hS _ _ _ _ _ h H locs ls hI hl
    have k : W p l e R s m args below meth c H locs cc ss Q (F0 m (pc + 1) ls (.int (rx_N X (rx_nm G.1 (u.1, (2, 0) :: u.2))) :: S'.map (rx_d X))) := k
    rw [rx_nm_ok C.2.2.2.2.2.2] at k
    exact lv_i2b (v := rx_U X u.1 ((2, 0) :: u.2)) C.1 C.2.1 hd rfl k
  · cases h
theorem rx_q_i2l (C : rx_Cx p s m args c X D G own bc nL) (hd : decode bc pc = .ok (.i2l, 1)) (hS : rx_hS (rx_W p l e R s m args below meth c Q X D G nL) K rest r (pc + 1)) (h : rx_i2l K rest L S w cc ss = some r) : rx_W p l e R s m args below meth c Q X D G nL pc L S w cc ss := by
  unfold rx_i2l at h
  split at h
  · rename_i x S'
    obtain ⟨hg, h⟩ := rx_c h
    intro H locs ls hI hl
    exact lv_i2l (v := lN x) C.1 C.2.1 hd (nI_l (rx_bt hg)) (hS _ _ _ _ _ h H locs ls hI hl)
  · rename_i k S'
    intro H locs ls hI hl
    exact lv_i2l (v := (X.1 k).toInt64) C.1 C.2.1 hd rfl (hS _ _ _ _ _ h H locs ls hI hl)
  · cases h
theorem rx_q_l2i (C : rx_Cx p s m args c X D G own bc nL) (hd : decode bc pc = .ok (.l2i, 1)) (hS : rx_hS (rx_W p l e R s m args below meth c Q X D G nL) K rest r (pc + 1)) (h : rx_l2i K rest L S w cc ss = some r) : rx_W p l e R s m args below meth c Q X D G nL pc L S w cc ss := by
  unfold rx_l2i at h
  split at h
  · rename_i x S'
    rw [rx_fN_eq] at h
    intro H locs ls hI hl
    exact lv_l2i (v := nI (x % 4294967296)) C.1 C.2.1 hd (by rw [rx_nI_mod]; exact lN_i x) (hS _ _ _ _ _ h H locs ls hI hl)
  · cases h
theorem rx_q_lcmp (C : rx_Cx p s m args c X D G own bc nL) (hd : decode bc pc = .ok (.lcmp, 1)) (hS : rx_hS (rx_W p l e R s m args below meth c Q X D G nL) K rest r (pc + 1)) (h : rx_lcmp K rest L S w cc ss = some r) : rx_W p l e R s m args below meth c Q X D G nL pc L S w cc ss := by
  unfold rx_lcmp at h
  split at h
  · rename_i y x S'
    intro H locs ls hI hl
    have k := hS _ _ _ _ _ h H locs ls hI hl
    rw [List.map_cons] at k
    have e0 : ∀ n, rx_d X (.inl (.inl n)) = .int (nI n) := fun _ => rfl
    rw [e0, rl_cmp] at k
    exact W.lcmp C.1 C.2.1 hd k
  · cases h
theorem rx_q_dup (C : rx_Cx p s m args c X D G own bc nL) (hd : decode bc pc = .ok (.dup, 1)) (hS : rx_hS (rx_W p l e R s m args below meth c Q X D G nL) K rest r (pc + 1)) (h : rx_dup K rest L S w cc ss = some r) : rx_W p l e R s m args below meth c Q X D G nL pc L S w cc ss := by
  cases S with
  | nil => cases h
  | cons v S' =>
    obtain ⟨hg, h⟩ := rx_c h
    intro H locs ls hI hl
    exact lv_dup C.1 C.2.1 hd (by rw [rx_cat_d]; exact rx_bq hg) (hS _ _ _ _ _ h H locs ls hI hl)
theorem rx_q_pop (C : rx_Cx p s m args c X D G own bc nL) (hd : decode bc pc = .ok (.pop, 1)) (hS : rx_hS (rx_W p l e R s m args below meth c Q X D G nL) K rest r (pc + 1)) (h : rx_pop K rest L S w cc ss = some r) : rx_W p l e R s m args below meth c Q X D G nL pc L S w cc ss := by
  cases S with
  | nil => cases h
  | cons v S' =>
    obtain ⟨hg, h⟩ := rx_c h
    intro H locs ls hI hl
    exact lv_pop C.1 C.2.1 hd (by rw [rx_cat_d]; exact rx_bq hg) (hS _ _ _ _ _ h H locs ls hI hl)
theorem rx_q_dup2 (C : rx_Cx p s m args c X D G own bc nL) (hd : decode bc pc = .ok (.dup2, 1)) (hS : rx_hS (rx_W p l e R s m args below meth c Q X D G nL) K rest r (pc + 1)) (h : rx_dup2 K rest L S w cc ss = some r) : rx_W p l e R s m args below meth c Q X D G nL pc L S w cc ss := by
  cases S with
  | nil => cases h
  | cons v S' =>
    cases S' with
    | nil => cases h
    | cons u S' =>
      obtain ⟨hg, h⟩ := rx_c h
      obtain ⟨g1, g2⟩ := rx_an hg
      intro H locs ls hI hl
      exact lv_dup2_11 C.1 C.2.1 hd (by rw [rx_cat_d]; exact rx_bq g1) (by rw [rx_cat_d]; exact rx_bq g2) (hS _ _ _ _ _ h H locs ls hI hl)
theorem rx_q_icmp (C : rx_Cx p s m args c X D G own bc nL) {cn : Jvm.ClassFile.Cond} {off : Int} {a : Nat} (ht : (pc : Int) + off = (a : Int)) (hd : decode bc pc = .ok (.if_icmp cn off, 3)) (hS : rx_hS (rx_W p l e R s m args below meth c Q X D G nL) K rest r (pc + 3)) (hJ : ∀ t : Nat, rx_hS (rx_W p l e R s m args below meth c Q X D G nL) K (rx_find cd t) r t) (h : rx_ic G.1 cn cd K rest a L S w cc ss = some r) : rx_W p l e R s m args below meth c Q X D G nL pc L S w cc ss := by
  cases S with
  | nil => cases h
  | cons v S' =>
    rcases v with y | v
    · cases S' with
      | nil => cases h
      | cons v S' =>
        rcases v with x | v
        · intro H locs ls hI hl
          have h := rx_cmp_ok C.2.2.2.2.2.2 h
          cases cn
          · rcases h with ⟨q, h⟩ | ⟨q, h⟩
            · exact lv_icmp_eq C.1 C.2.1 hd ht (fun _ => hJ a _ _ _ _ _ h H locs ls hI hl) (fun z => absurd q z)
            · exact lv_icmp_eq C.1 C.2.1 hd ht (fun z => absurd z q) (fun _ => hS _ _ _ _ _ h H locs ls hI hl)
          · rcases h with ⟨q, h⟩ | ⟨q, h⟩
            · exact lv_icmp_ne C.1 C.2.1 hd ht (fun _ => hJ a _ _ _ _ _ h H locs ls hI hl) (fun z => absurd z q)
            · exact lv_icmp_ne C.1 C.2.1 hd ht (fun z => absurd q z) (fun _ => hS _ _ _ _ _ h H locs ls hI hl)
          · rcases h with ⟨q, h⟩ | ⟨q, h⟩
            · exact lv_icmp_lt C.1 C.2.1 hd ht (fun _ => hJ a _ _ _ _ _ h H locs ls hI hl) (fun z => absurd q z)
            · exact lv_icmp_lt C.1 C.2.1 hd ht (fun z => absurd z q) (fun _ => hS _ _ _ _ _ h H locs ls hI hl)
          · rcases h with ⟨q, h⟩ | ⟨q, h⟩
            · exact lv_icmp_ge C.1 C.2.1 hd ht (fun _ => hJ a _ _ _ _ _ h H locs ls hI hl) (fun z => absurd q z)
            · exact lv_icmp_ge C.1 C.2.1 hd ht (fun z => absurd z q) (fun _ => hS _ _ _ _ _ h H locs ls hI hl)
          · rcases h with ⟨q, h⟩ | ⟨q, h⟩
            · exact lv_icmp_gt C.1 C.2.1 hd ht (fun _ => hJ a _ _ _ _ _ h H locs ls hI hl) (fun z => absurd q z)
            · exact lv_icmp_gt C.1 C.2.1 hd ht (fun z => absurd z q) (fun _ => hS _ _ _ _ _ h H locs ls hI hl)
          · rcases h with ⟨q, h⟩ | ⟨q, h⟩
            · exact lv_icmp_le C.1 C.2.1 hd ht (fun _ => hJ a _ _ _ _ _ h H locs ls hI hl) (fun z => absurd q z)
            · exact lv_icmp_le C.1 C.2.1 hd ht (fun z => absurd z q) (fun _ => hS _ _ _ _ _ h H locs ls hI hl)
        · cases h
    · cases h
theorem rx_q_if (C : rx_Cx p s m args c X D G own bc nL) {cn : Jvm.ClassFile.Cond} {off : Int} {a : Nat} (ht : (pc : Int) + off = (a : Int)) (hd : decode bc pc = .ok (.ifCond cn off, 3)) (hS : rx_hS (rx_W p l e R s m args below meth c Q X D G nL) K rest r (pc + 3)) (hJ : ∀ t : Nat, rx_hS (rx_W p l e R s m args below meth c Q X D G nL) K (rx_find cd t) r t) (h : rx_if G.1 cn cd K rest a L S w cc ss = some r) : rx_W p l e R s m args below meth c Q X D G nL pc L S w cc ss := by
  cases S with
  | nil => cases h
  | cons v S' =>
    rcases v with x | v
    · intro H locs ls hI hl
      have h := rx_cmp_ok C.2.2.2.2.2.2 h
      have z0 : rx_N X (.inl 0) = 0 := rfl
      cases cn <;> simp only [z0] at h
      · rcases h with ⟨q, h⟩ | ⟨q, h⟩
        · exact lv_if_eq C.1 C.2.1 hd ht (fun _ => hJ a _ _ _ _ _ h H locs ls hI hl) (fun z => absurd q z)
        · exact lv_if_eq C.1 C.2.1 hd ht (fun z => absurd z q) (fun _ => hS _ _ _ _ _ h H locs ls hI hl)
      · rcases h with ⟨q, h⟩ | ⟨q, h⟩
        · exact lv_if_ne C.1 C.2.1 hd ht (fun _ => hJ a _ _ _ _ _ h H locs ls hI hl) (fun z => absurd z q)
        · exact lv_if_ne C.1 C.2.1 hd ht (fun z => absurd q z) (fun _ => hS _ _ _ _ _ h H locs ls hI hl)
      · rcases h with ⟨q, h⟩ | ⟨q, h⟩
        · exact lv_if_lt C.1 C.2.1 hd ht (fun _ => hJ a _ _ _ _ _ h H locs ls hI hl) (fun z => absurd q z)
        · exact lv_if_lt C.1 C.2.1 hd ht (fun z => absurd z q) (fun _ => hS _ _ _ _ _ h H locs ls hI hl)
      · rcases h with ⟨q, h⟩ | ⟨q, h⟩
        · exact lv_if_ge C.1 C.2.1 hd ht (fun _ => hJ a _ _ _ _ _ h H locs ls hI hl) (fun z => absurd q z)
        · exact lv_if_ge C.1 C.2.1 hd ht (fun z => absurd z q) (fun _ => hS _ _ _ _ _ h H locs ls hI hl)
      · rcases h with ⟨q, h⟩ | ⟨q, h⟩
        · exact lv_if_gt C.1 C.2.1 hd ht (fun _ => hJ a _ _ _ _ _ h H locs ls hI hl) (fun z => absurd q z)
        · exact lv_if_gt C.1 C.2.1 hd ht (fun z => absurd z q) (fun _ => hS _ _ _ _ _ h H locs ls hI hl)
      · rcases h with ⟨q, h⟩ | ⟨q, h⟩
        · exact lv_if_le C.1 C.2.1 hd ht (fun _ => hJ a _ _ _ _ _ h H locs ls hI hl) (fun z => absurd q z)
        · exact lv_if_le C.1 C.2.1 hd ht (fun z => absurd z q) (fun _ => hS _ _ _ _ _ h H locs ls hI hl)
    · cases h
theorem rx_q_goto (C : rx_Cx p s m args c X D G own bc nL) {off : Int} {a : Nat} (ht : (pc : Int) + off = (a : Int)) (hd : decode bc pc = .ok (.goto off, 3)) (hJ : ∀ t : Nat, rx_hS (rx_W p l e R s m args below meth c Q X D G nL) K (rx_find cd t) r t) (h : K (rx_find cd a) L S w cc ss = some r) : rx_W p l e R s m args below meth c Q X D G nL pc L S w cc ss := by
  intro H locs ls hI hl
  exact lv_goto C.1 C.2.1 hd ht (hJ a _ _ _ _ _ h H locs ls hI hl)
end RXI
