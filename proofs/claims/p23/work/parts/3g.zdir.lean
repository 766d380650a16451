/-! rows that the first layer has for small numbers alone; calls, ends; the closure -/
section ZDI
variable {l : Launch} {d : Nat} {X : rx_X} {D : va_G} {G : rx_G} {Sh : List zC} {mi : List rx_Y} {Y : rx_Y} {cd rest : List rx_E} {nL q : Nat} {L : zL} {S : List zV} {st : zS} {en : rx_E} {Rt : zQ} {call : zCall}
theorem zd_ishr (B : zB G Sh mi Y cd nL en rest L S st) (hd : decode Y.2.1 en.1 = .ok (.ishr, 1)) (hlen : en.2.2.1 = 1) (h : z2 (fun x y => x / zpw (y % 32).toNat) (zGd l d X D G Sh Y cd Rt) rest L S st) : zgoal l d X D G Sh Y Rt en.1 L S st := by
  unfold z2 at h
  split at h
  · rename_i y x S'
    obtain ⟨-, -, -, b4, ⟨pre, b5⟩, hst, hL, hS⟩ := id B
    have hx : zsI x := hS (.inl x) (List.mem_cons_of_mem _ List.mem_cons_self)
    have hy : zsI y := hS (.inl y) List.mem_cons_self
    refine zgoR b4 b5 h hst hL (zcons (P := zok) (v := .inl (x / zpw (y % 32).toNat)) (zdiv_rng (zpw_pos _) (by decide) (by decide) hx.1 hx.2) (fun v hv => hS v (List.mem_cons_of_mem _ (List.mem_cons_of_mem _ hv)))) ?_
    intro w hw
    refine ⟨w, hw, fun p e s m args below meth c Q C hnm hW => ?_⟩
    intro H locs ls hI hl
    have k := hW H locs ls hI hl
    rw [hlen] at k
    have k : W p l e _ s m args below meth c H locs 0 0 Q (F0 m (en.1 + 1) ls (.int (nI (zi (x / zpw (y % 32).toNat))) :: (zSm S').map (rx_d X))) := k
    rw [← zI_shr hx y] at k
    exact lv_ishr C.1 C.2.1 hd k
  · exact absurd h id
theorem zd_idiv (B : zB G Sh mi Y cd nL en rest L S st) (hd : decode Y.2.1 en.1 = .ok (.idiv, 1)) (hlen : en.2.2.1 = 1) (h : z2n (fun x y => zw (Int.tdiv x y)) (zGd l d X D G Sh Y cd Rt) rest L S st) : zgoal l d X D G Sh Y Rt en.1 L S st := by
  unfold z2n at h
  split at h
  · rename_i y x S'
    obtain ⟨-, -, -, b4, ⟨pre, b5⟩, hst, hL, hS⟩ := id B
    obtain ⟨h0, h⟩ := h
    have hx : zsI x := hS (.inl x) (List.mem_cons_of_mem _ List.mem_cons_self)
    have hy : zsI y := hS (.inl y) List.mem_cons_self
    refine zgoR b4 b5 h hst hL (zcons (P := zok) (v := .inl (zw (Int.tdiv x y))) (zw_ok _) (fun v hv => hS v (List.mem_cons_of_mem _ (List.mem_cons_of_mem _ hv)))) ?_
    intro w hw
    refine ⟨w, hw, fun p e s m args below meth c Q C hnm hW => ?_⟩
    intro H locs ls hI hl
    have k := hW H locs ls hI hl
    rw [hlen] at k
    have k : W p l e _ s m args below meth c H locs 0 0 Q (F0 m (en.1 + 1) ls (.int (nI (zi (zw (Int.tdiv x y)))) :: (zSm S').map (rx_d X))) := k
    rw [← zI_div hx hy] at k
    exact lv_idiv C.1 C.2.1 hd (zi_ne0 hy h0) k
  · exact absurd h id
theorem zd_irem (B : zB G Sh mi Y cd nL en rest L S st) (hd : decode Y.2.1 en.1 = .ok (.irem, 1)) (hlen : en.2.2.1 = 1) (h : z2n (fun x y => zw (Int.tmod x y)) (zGd l d X D G Sh Y cd Rt) rest L S st) : zgoal l d X D G Sh Y Rt en.1 L S st := by
  unfold z2n at h
  split at h
  · rename_i y x S'
    obtain ⟨-, -, -, b4, ⟨pre, b5⟩, hst, hL, hS⟩ := id B
    obtain ⟨h0, h⟩ := h
    have hx : zsI x := hS (.inl x) (List.mem_cons_of_mem _ List.mem_cons_self)
    have hy : zsI y := hS (.inl y) List.mem_cons_self
    refine zgoR b4 b5 h hst hL (zcons (P := zok) (v := .inl (zw (Int.tmod x y))) (zw_ok _) (fun v hv => hS v (List.mem_cons_of_mem _ (List.mem_cons_of_mem _ hv)))) ?_
    intro w hw
    refine ⟨w, hw, fun p e s m args below meth c Q C hnm hW => ?_⟩
    intro H locs ls hI hl
    have k := hW H locs ls hI hl
    rw [hlen] at k
    have k : W p l e _ s m args below meth c H locs 0 0 Q (F0 m (en.1 + 1) ls (.int (nI (zi (zw (Int.tmod x y)))) :: (zSm S').map (rx_d X))) := k
    rw [← zI_rem hx hy] at k
    exact lv_irem C.1 C.2.1 hd (zi_ne0 hy h0) k
  · exact absurd h id
theorem zd_ldiv (B : zB G Sh mi Y cd nL en rest L S st) (hd : decode Y.2.1 en.1 = .ok (.ldiv, 1)) (hlen : en.2.2.1 = 1) (h : z2m (fun x y => zx (Int.tdiv x y)) (zGd l d X D G Sh Y cd Rt) rest L S st) : zgoal l d X D G Sh Y Rt en.1 L S st := by
  unfold z2m at h
  split at h
  · rename_i y x S'
    obtain ⟨-, -, -, b4, ⟨pre, b5⟩, hst, hL, hS⟩ := id B
    obtain ⟨h0, h⟩ := h
    have hx : zsL x := hS (.inr (.inl x)) (List.mem_cons_of_mem _ List.mem_cons_self)
    have hy : zsL y := hS (.inr (.inl y)) List.mem_cons_self
    refine zgoR b4 b5 h hst hL (zcons (P := zok) (v := .inr (.inl (zx (Int.tdiv x y)))) (zx_ok _) (fun v hv => hS v (List.mem_cons_of_mem _ (List.mem_cons_of_mem _ hv)))) ?_
    intro w hw
    refine ⟨w, hw, fun p e s m args below meth c Q C hnm hW => ?_⟩
    intro H locs ls hI hl
    have k := hW H locs ls hI hl
    rw [hlen] at k
    have k : W p l e _ s m args below meth c H locs 0 0 Q (F0 m (en.1 + 1) ls (.long (lN (zl (zx (Int.tdiv x y)))) :: (zSm S').map (rx_d X))) := k
    rw [← zL_div hx hy] at k
    exact lv_ldiv C.1 C.2.1 hd (zl_ne0 hy h0) k
  · exact absurd h id
theorem zd_lrem (B : zB G Sh mi Y cd nL en rest L S st) (hd : decode Y.2.1 en.1 = .ok (.lrem, 1)) (hlen : en.2.2.1 = 1) (h : z2m (fun x y => zx (Int.tmod x y)) (zGd l d X D G Sh Y cd Rt) rest L S st) : zgoal l d X D G Sh Y Rt en.1 L S st := by
  unfold z2m at h
  split at h
  · rename_i y x S'
    obtain ⟨-, -, -, b4, ⟨pre, b5⟩, hst, hL, hS⟩ := id B
    obtain ⟨h0, h⟩ := h
    have hx : zsL x := hS (.inr (.inl x)) (List.mem_cons_of_mem _ List.mem_cons_self)
    have hy : zsL y := hS (.inr (.inl y)) List.mem_cons_self
    refine zgoR b4 b5 h hst hL (zcons (P := zok) (v := .inr (.inl (zx (Int.tmod x y)))) (zx_ok _) (fun v hv => hS v (List.mem_cons_of_mem _ (List.mem_cons_of_mem _ hv)))) ?_
    intro w hw
    refine ⟨w, hw, fun p e s m args below meth c Q C hnm hW => ?_⟩
    intro H locs ls hI hl
    have k := hW H locs ls hI hl
    rw [hlen] at k
    have k : W p l e _ s m args below meth c H locs 0 0 Q (F0 m (en.1 + 1) ls (.long (lN (zl (zx (Int.tmod x y)))) :: (zSm S').map (rx_d X))) := k
    rw [← zL_rem hx hy] at k
    exact lv_lrem C.1 C.2.1 hd (zl_ne0 hy h0) k
  · exact absurd h id
theorem zd_lshl (B : zB G Sh mi Y cd nL en rest L S st) (hd : decode Y.2.1 en.1 = .ok (.lshl, 1)) (hlen : en.2.2.1 = 1) (h : z2s (fun x y => ze ((zl x * 2 ^ (zi y % 64)) % 18446744073709551616)) (zGd l d X D G Sh Y cd Rt) rest L S st) : zgoal l d X D G Sh Y Rt en.1 L S st := by
  unfold z2s at h
  split at h
  · rename_i y x S'
    obtain ⟨-, -, -, b4, ⟨pre, b5⟩, hst, hL, hS⟩ := id B
    have hx : zsL x := hS (.inr (.inl x)) (List.mem_cons_of_mem _ List.mem_cons_self)
    have hy : zsI y := hS (.inl y) List.mem_cons_self
    refine zgoR b4 b5 h hst hL (zcons (P := zok) (v := .inr (.inl (ze ((zl x * 2 ^ (zi y % 64)) % 18446744073709551616)))) (ze_ok (Nat.mod_lt _ (by decide))) (fun v hv => hS v (List.mem_cons_of_mem _ (List.mem_cons_of_mem _ hv)))) ?_
    intro w hw
    refine ⟨w, hw, fun p e s m args below meth c Q C hnm hW => ?_⟩
    intro H locs ls hI hl
    have k := hW H locs ls hI hl
    rw [hlen] at k
    have k : W p l e _ s m args below meth c H locs 0 0 Q (F0 m (en.1 + 1) ls (.long (lN (zl (ze ((zl x * 2 ^ (zi y % 64)) % 18446744073709551616)))) :: (zSm S').map (rx_d X))) := k
    skip
    exact lv_lshl C.1 C.2.1 hd (zL_shl x y) k
  · exact absurd h id
theorem zd_lshr (B : zB G Sh mi Y cd nL en rest L S st) (hd : decode Y.2.1 en.1 = .ok (.lshr, 1)) (hlen : en.2.2.1 = 1) (h : z2s (fun x y => x / zpw (y % 64).toNat) (zGd l d X D G Sh Y cd Rt) rest L S st) : zgoal l d X D G Sh Y Rt en.1 L S st := by
  unfold z2s at h
  split at h
  · rename_i y x S'
    obtain ⟨-, -, -, b4, ⟨pre, b5⟩, hst, hL, hS⟩ := id B
    have hx : zsL x := hS (.inr (.inl x)) (List.mem_cons_of_mem _ List.mem_cons_self)
    have hy : zsI y := hS (.inl y) List.mem_cons_self
    refine zgoR b4 b5 h hst hL (zcons (P := zok) (v := .inr (.inl (x / zpw (y % 64).toNat))) (zdiv_rng (zpw_pos _) (by decide) (by decide) hx.1 hx.2) (fun v hv => hS v (List.mem_cons_of_mem _ (List.mem_cons_of_mem _ hv)))) ?_
    intro w hw
    refine ⟨w, hw, fun p e s m args below meth c Q C hnm hW => ?_⟩
    intro H locs ls hI hl
    have k := hW H locs ls hI hl
    rw [hlen] at k
    have k : W p l e _ s m args below meth c H locs 0 0 Q (F0 m (en.1 + 1) ls (.long (lN (zl (x / zpw (y % 64).toNat))) :: (zSm S').map (rx_d X))) := k
    skip
    exact lv_lshr C.1 C.2.1 hd (zL_shr hx y) k
  · exact absurd h id
theorem zd_i2l (B : zB G Sh mi Y cd nL en rest L S st) (hd : decode Y.2.1 en.1 = .ok (.i2l, 1)) (hlen : en.2.2.1 = 1) (h : zi2l (zGd l d X D G Sh Y cd Rt) rest L S st) : zgoal l d X D G Sh Y Rt en.1 L S st := by
  unfold zi2l at h
  split at h
  · rename_i x S'
    obtain ⟨-, -, -, b4, ⟨pre, b5⟩, hst, hL, hS⟩ := id B
    have hx : zsI x := hS (.inl x) List.mem_cons_self
    skip
    refine zgoR b4 b5 h hst hL (zcons (P := zok) (v := .inr (.inl x)) (by show zsL x; unfold zsI at hx; unfold zsL; omega) (fun v hv => hS v (List.mem_cons_of_mem _ hv))) ?_
    intro w hw
    refine ⟨w, hw, fun p e s m args below meth c Q C hnm hW => ?_⟩
    intro H locs ls hI hl
    have k := hW H locs ls hI hl
    rw [hlen] at k
    have k : W p l e _ s m args below meth c H locs 0 0 Q (F0 m (en.1 + 1) ls (.long (lN (zl x)) :: (zSm S').map (rx_d X))) := k
    skip
    exact lv_i2l C.1 C.2.1 hd (zI_l hx) k
  · exact absurd h id
theorem ztake_ok : ∀ {n : Nat} {S acc : List zV} {k : List zV → List zV → Prop}, ztake n S acc k → ∃ as S', k as S' ∧ (∀ (β : Type) (f : List rx_V → List rx_V → Option β), rx_take n (zSm S) (zSm acc) f = f (zSm as) (zSm S')) ∧ (∀ v ∈ as, v ∈ S ∨ v ∈ acc) ∧ (∀ v ∈ S', v ∈ S) := by
  intro n
  induction n with
  | zero => intro S acc k h; exact ⟨acc, S, h, fun β f => rfl, fun v hv => Or.inr hv, fun v hv => hv⟩
  | succ n ih =>
    intro S acc k h
    cases S with
    | nil => exact absurd h id
    | cons v t =>
      obtain ⟨as, S', h1, h2, h3, h4⟩ := ih (S := t) (acc := v :: acc) h
      refine ⟨as, S', h1, fun β f => h2 β f, fun u hu => ?_, fun u hu => List.mem_cons_of_mem _ (h4 u hu)⟩
      rcases h3 u hu with e | e
      · exact Or.inl (List.mem_cons_of_mem _ e)
      · rcases List.mem_cons.mp e with e | e
        · rw [e]; exact Or.inl List.mem_cons_self
        · exact Or.inr e
/-- a method's outcome -/
def zM (l : Launch) (d : Nat) (X : rx_X) (D : va_G) (G : rx_G) (Sh : List zC) (mi : List rx_Y) (nu : Nat) (as : List zV) (st : zS) (r : Option zV) (st' : zS) : Prop := ((∀ v, r = some v → zok v) ∧ zsk Sh st') ∧ ∃ Y, mi[nu]? = some Y ∧ Cond.code Y.1 Y.2.1 Y.2.2.1 Y.2.2.2 ∈ rx_words ∧ ∀ w, zR Sh st w → ∃ w', zR Sh st' w' ∧ rx_Met l d 0 0 Y X D G (zSm as) w (r.map zv) w'
def zOk (l : Launch) (d : Nat) (X : rx_X) (D : va_G) (G : rx_G) (Sh : List zC) (mi : List rx_Y) : zCall := fun nu as st Q => (∀ v ∈ as, zok v) → zsk Sh st → ∃ r st', Q r st' ∧ zM l d X D G Sh mi nu as st r st'
noncomputable def zexM (nu : Nat) (as : List rx_V) (w : List rx_C) (r : Option rx_V) (w1 : List rx_C) : Nat → List rx_V → List rx_C → Option (Option rx_V × List rx_C) := fun nu' as' w' => @ite _ (nu' = nu ∧ as' = as ∧ w' = w) (Classical.propDecidable _) (some (r, w1)) none
theorem zexM_eq (nu : Nat) (as : List rx_V) (w : List rx_C) (r : Option rx_V) (w1 : List rx_C) : zexM nu as w r w1 nu as w = some (r, w1) := by
  unfold zexM
  rw [if_pos ⟨rfl, rfl, rfl⟩]
theorem zc_call (B : zB G Sh mi Y cd nL en rest L S st) {nu : Nat} {as S' : List zV} (has : ∀ v ∈ as, zok v) (hS' : ∀ v ∈ S', zok v) (h : zOk l d X D G Sh mi nu as st (fun r st' => zGd l d X D G Sh Y cd Rt rest L (zpush r S') st'))
    (he : ∀ (K : rx_K) (w : List rx_C) (r : Option zV) (w1 : List rx_C) (ex : Nat → List rx_V → List rx_C → Option (Option rx_V × List rx_C)), zR Sh st w → ex nu (zSm as) w = some (r.map zv, w1) → rx_step G cd nL 0 0 (fun _ => (0, 0)) ex K en rest (zLm L) (zSm S) w 0 0 = K rest (zLm L) (zSm (zpush r S')) w1 0 0) : zgoal l d X D G Sh Y Rt en.1 L S st := by
  obtain ⟨b1, b2, b3, b4, ⟨pre, b5⟩, hst, hL, hS⟩ := id B
  obtain ⟨r, st', ⟨hne, hK⟩, ⟨hr, hst'⟩, Z, hZ, hcode, hM⟩ := h has hst
  have hk : zgoal l d X D G Sh Y Rt (zpc rest) L (zpush r S') st' := hK ⟨pre ++ [en], by rw [b5, List.append_assoc]; rfl⟩ hst' hL (by
    cases r with
    | none => exact hS'
    | some v => exact zcons (P := zok) (hr v rfl) hS')
  refine zgo_tr (pc1 := zpc rest) (fun w hw => ?_) hk
  obtain ⟨w', hw', hm⟩ := hM w hw
  refine ⟨w', hw', fun p e s m args below meth c Q C hnm hW => ?_⟩
  refine zW_eq (mi := mi) (cap := fun _ => (0, 0)) (ex := zexM nu (zSm as) w (r.map zv) w') (T := rest) (cd := cd) (rest := rest) b1 b2 b3 (fun _ => zrest_pc b4 b5 hne) (fun t e => zfind_pc hne e) ?_ (fun K => he K w r w' _ hw (zexM_eq _ _ _ _ _)) C hnm hW
  intro nu' as' w0 r0 w9 hq
  unfold zexM at hq
  split at hq
  · rename_i q
    obtain ⟨rfl, rfl, rfl⟩ := q
    cases hq
    exact ⟨Z, hZ, hcode, hm⟩
  · cases hq
end ZDI
