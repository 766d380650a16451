/-! the machine behind the law's second layer, and the start of the store -/
noncomputable def lKz (T : List rx_E) (L : rx_L) (S : List rx_V) (w : List rx_C) : rx_K := fun cs L' S' w' cc ss => @ite _ (cs = T ∧ L' = L ∧ S' = S ∧ w' = w ∧ cc = 221 ∧ ss = 26609) (Classical.propDecidable _) (some ([], [], [], [], 0, 0)) none
theorem lKz_ok {T cs : List rx_E} {L L' : rx_L} {S S' : List rx_V} {w w' : List rx_C} {cc ss : Nat} {r : rx_R} (h : lKz T L S w cs L' S' w' cc ss = some r) : cs = T ∧ L' = L ∧ S' = S ∧ w' = w ∧ cc = 221 ∧ ss = 26609 := by
  unfold lKz at h
  split at h
  · rename_i q; exact q
  · cases h
theorem lKz_eq (T : List rx_E) (L : rx_L) (S : List rx_V) (w : List rx_C) : lKz T L S w T L S w 221 26609 = some ([], [], [], [], 0, 0) := by
  unfold lKz
  rw [if_pos ⟨rfl, rfl, rfl, rfl, rfl, rfl⟩]
section LWM
variable {p : Program} {l : Launch} {e : Env} {s : State} {m : MethodId} {below : List Frame} {meth : Method} {c : Code} {b N : Nat} {xs : Nat → Int32} {X : rx_X} {D : va_G}
abbrev lWm (p : Program) (l : Launch) (e : Env) (s : State) (m : MethodId) (below : List Frame) (meth : Method) (c : Code) (b : Nat) (X : rx_X) (D : va_G) : lWt := fun pc Lc S w => rx_LW p l e s m below meth c b X D pc Lc S w 221 26609
theorem l_st (C0 : rx_lawC p s m meth c b N xs X D) : lst l 200 X D N (lWm p l e s m below meth c b X D) := by
  intro en rest T L L1 S S1 w w1 ex hok h1 h2 hex h hW
  obtain ⟨⟨hx, hb, hr, hml, hown, hts, hX, hbl, hlocks, hgv⟩, e1, e2, hnm, hU⟩ := C0
  have C : rx_Cx p s m #[Value.ref b] c X D (lG N) "GreyRouteLaw" code 4 := ⟨hx, hb, hml, hown, fun w h => hts w (List.mem_filter.mp h).1, hU [] (N + 1) (Or.inr rfl), rx_fok_n⟩
  have h3 := h (lKz T L1 S1 w1)
  rw [lKz_eq] at h3
  have hW : rx_W p l e room_1 s m #[Value.ref b] below meth c (lw_Z below #[Value.ref b] s) X D (lG N) 4 (zpc T) L1 S1 w1 221 26609 := hW
  show rx_W p l e room_1 s m #[Value.ref b] below meth c (lw_Z below #[Value.ref b] s) X D (lG N) 4 en.1 L S w 221 26609
  refine rx_step_ok (mi := rx_mis) (d := 200) (mc := 600000) (ms := 7302250) (cap := fun _ => (0, 0)) (ex := ex) (K := lKz T L1 S1 w1) C (rx_Gok0 [] (N + 1)) hnm (Nat.le_refl _) (Nat.le_refl _) (by decide) (by decide) hex hok ?_ ?_ ?_ h3
  · intro L' S' w' cc ss hk
    obtain ⟨e1, rfl, rfl, rfl, rfl, rfl⟩ := lKz_ok hk
    rw [← h1 e1]
    exact hW
  · intro t L' S' w' cc ss hk
    obtain ⟨e1, rfl, rfl, rfl, rfl, rfl⟩ := lKz_ok hk
    rw [← h2 t e1]
    exact hW
  · intro hr
    cases hr
theorem l_wo : lwo X (lWm p l e s m below meth c b X D) := by
  intro pc L S S' w hm h H locs ls hI hl
  rw [hm]
  exact h H locs ls hI hl
theorem l_nd (C0 : rx_lawC p s m meth c b N xs X D) : lnd (lWm p l e s m below meth c b X D) := by
  intro en L w hok hi
  obtain ⟨⟨hx, hb, hret, hml, hown, hts, hX, hbl, hlocks, hgv⟩, -, e2, -, -⟩ := C0
  obtain ⟨pc, i, t⟩ := en
  have hi : i = .ireturn := hi
  subst hi
  obtain ⟨hd, -⟩ := rx_d1_ok hok
  intro H locs ls hI hl
  refine va_forget (fun q hq => by have := hI.2.2.2.2 q hq; unfold rx_A at this; rw [e2] at this; exact this) ?_
  refine W.widen (k := 600000) (n := 7302250) (by decide) (by decide) ?_
  exact lw_ret hx hb hret hlocks hd
theorem zSh_lt : zSh.all (fun q => match q with | .inl _ => true | .inr p => Nat.blt p.2 2147483648) = true := by decide +kernel
theorem zSh_len : ∀ (c t n : Nat), zSh[c]? = some (.inr (t, n)) → n < 2147483648 := by
  intro c t n h
  have := List.all_eq_true.mp zSh_lt _ (List.mem_of_getElem? h)
  exact rx_bt this
/-- every method, by its own text -/
theorem l_tb : aTb zSh rx_tb (fun d => zOk l d X D (lG N) zSh rx_mis) := by
  intro d nu x hx as st Q hc h
  obtain ⟨Y, hY, hT⟩ := rx_T_ok nu x hx
  exact z_enter (rx_Gok0 [] (N + 1)) rx_fok_n zSh_len hY hT hc (fun _ _ K h1 h2 h3 => h K h1 h2 h3)
end LWM
/-- the store behind the two constructors -/
def zval (v : rx_V) : Int := match v with
  | .inl (.inl n) => zd n
  | .inr (.inl (.inl n)) => ze n
  | .inr (.inr (.inl (some k))) => (k : Int)
  | _ => 0
noncomputable def zc0 (x : rx_C) (i : Nat) : Int := match x with
  | .inl o => zval (o.2.getD i (.inl (.inl 0)))
  | .inr a => zval (rx_lk a.2.2 (cond (Nat.blt i a.2.1) i 0) (rx_df a.1))
noncomputable def z0 : zS := fun c i => zc0 (rx_w0.getD c (.inl (0, []))) i
def zvb (k : Nat) (v : rx_V) : Bool := @decide (v = zv (zK k (zval v))) (rx_dV _ _)
def zinb (k : Nat) (z : Int) : Bool := cond (Nat.ble 10 k) true (cond (Nat.beq k 4) (decide (0 ≤ z)) (cond (Nat.beq k 3) (decide (-9223372036854775808 ≤ z ∧ z ≤ 9223372036854775807)) (cond (Nat.beq k 2) (decide (z = 0 ∨ z = 1)) (cond (Nat.beq k 1) (decide (-128 ≤ z ∧ z ≤ 127)) (decide (-2147483648 ≤ z ∧ z ≤ 2147483647))))))
theorem zinb_ok {k : Nat} {z : Int} (h : zinb k z = true) : zin k z := by
  unfold zinb at h
  unfold zin
  cases h1 : Nat.ble 10 k with
  | true => trivial
  | false =>
    rw [h1] at h
    cases h2 : Nat.beq k 4 with
    | true => rw [h2] at h; exact (of_decide_eq_true (p := 0 ≤ z) h)
    | false =>
      rw [h2] at h
      cases h3 : Nat.beq k 3 with
      | true => rw [h3] at h; exact (of_decide_eq_true (p := -9223372036854775808 ≤ z ∧ z ≤ 9223372036854775807) h)
      | false =>
        rw [h3] at h
        cases h4 : Nat.beq k 2 with
        | true => rw [h4] at h; exact (of_decide_eq_true (p := z = 0 ∨ z = 1) h)
        | false =>
          rw [h4] at h
          cases h5 : Nat.beq k 1 with
          | true => rw [h5] at h; exact (of_decide_eq_true (p := -128 ≤ z ∧ z ≤ 127) h)
          | false => rw [h5] at h; exact (of_decide_eq_true (p := -2147483648 ≤ z ∧ z ≤ 2147483647) h)
noncomputable def zcb (s : zC) (x : rx_C) : Bool := match s, x with
  | .inl q, .inl o => Nat.beq q.1 o.1 && (Nat.beq q.2.length o.2.length && (List.range q.2.length).all (fun f => zvb (q.2.getD f 0) (o.2.getD f (.inl (.inl 0))) && zinb (q.2.getD f 0) (zval (o.2.getD f (.inl (.inl 0))))))
  | .inr p, .inr a => Nat.beq p.1 a.1 && (Nat.beq p.2 a.2.1 && ((Nat.blt p.2 2147483648 && Nat.blt p.1 5) && (cond (Nat.beq p.1 4) ((List.range p.2).all (fun j => zvb p.1 (rx_lk a.2.2 j (rx_df a.1)))) (zvb p.1 (rx_df a.1) && a.2.2.all (fun q => zvb p.1 q.2)) && (zinb p.1 (zval (rx_df a.1)) && a.2.2.all (fun q => zinb p.1 (zval q.2))))))
  | _, _ => false
noncomputable def gcb (g : List (List aB) ⊕ aB) (x : rx_C) : Bool := match g, x with
  | .inl l, x => (List.range l.length).all (fun i => (l.getD i []).any (fun b => decide (b.1 ≤ zc0 x i ∧ zc0 x i ≤ b.2)))
  | .inr b, .inr a => (decide (b.1 ≤ zval (rx_df a.1) ∧ zval (rx_df a.1) ≤ b.2) && a.2.2.all (fun q => decide (b.1 ≤ zval q.2 ∧ zval q.2 ≤ b.2))) || (Nat.blt 0 a.2.1 && (List.range a.2.1).all (fun j => decide (b.1 ≤ zval (rx_lk a.2.2 j (rx_df a.1)) ∧ zval (rx_lk a.2.2 j (rx_df a.1)) ≤ b.2)))
  | _, _ => false
theorem lk_P {P : rx_V → Prop} {d : rx_V} (hd : P d) : ∀ {u : List (Nat × rx_V)}, (∀ q ∈ u, P q.2) → ∀ j, P (rx_lk u j d) := by
  intro u
  induction u with
  | nil => intro _ j; exact hd
  | cons q t ih =>
    intro h j
    obtain ⟨a, v⟩ := q
    rw [zlk_cons]
    split
    · exact h (a, v) List.mem_cons_self
    · exact ih (fun q hq => h q (List.mem_cons_of_mem _ hq)) j
theorem z0_len : rx_w0.length = 221 ∧ zSh.length = 221 ∧ zgt.length = 221 := by decide +kernel
set_option maxRecDepth 100000 in
theorem z0_chk : (List.range 221).all (fun c => zcb (zSh.getD c (.inl (0, []))) (rx_w0.getD c (.inl (0, [])))) = true := by decide +kernel
set_option maxRecDepth 100000 in
theorem z0_gck : (List.range 221).all (fun c => gcb (zgt.getD c (.inl [])) (rx_w0.getD c (.inl (0, [])))) = true := by decide +kernel
theorem z0_at {c : Nat} {s : zC} (h : zSh[c]? = some s) : rx_w0[c]? = some (rx_w0.getD c (.inl (0, []))) ∧ zcb s (rx_w0.getD c (.inl (0, []))) = true := by
  have hc : c < 221 := by
    have := zlt_of h
    rw [z0_len.2.1] at this
    exact this
  have h1 := List.all_eq_true.mp z0_chk c (List.mem_range.mpr hc)
  rw [show zSh.getD c (.inl (0, [])) = s by rw [List.getD_eq_getElem?_getD, h]; rfl] at h1
  refine ⟨?_, h1⟩
  rw [List.getD_eq_getElem?_getD, List.getElem?_eq_getElem (by rw [z0_len.1]; exact hc)]
  rfl
theorem zvb_ok {k : Nat} {v : rx_V} (h : zvb k v = true) : v = zv (zK k (zval v)) := @of_decide_eq_true _ (rx_dV _ _) h
theorem z0_R : zR zSh z0 rx_w0 := by
  refine ⟨by rw [z0_len.1, z0_len.2.1], fun c a ks hc => ?_, fun c t n hc => ?_⟩
  · obtain ⟨h1, h2⟩ := z0_at hc
    have hz : ∀ i, z0 c i = zc0 (rx_w0.getD c (.inl (0, []))) i := fun _ => rfl
    revert h1 h2 hz
    cases rx_w0.getD c (.inl (0, [])) with
    | inr x => intro h1 h2; cases h2
    | inl o =>
      intro h1 h2 hz
      obtain ⟨g1, g2⟩ := rx_an h2
      obtain ⟨g2, g3⟩ := rx_an g2
      have g1 : a = o.1 := rx_bq g1
      have g2 : ks.length = o.2.length := rx_bq g2
      refine ⟨o.2, by rw [h1, g1], g2.symm, fun f k hk => ?_⟩
      have hf : f < ks.length := zlt_of hk
      obtain ⟨k1, -⟩ := rx_an (List.all_eq_true.mp g3 f (List.mem_range.mpr hf))
      have k1 := zvb_ok k1
      rw [show ks.getD f 0 = k by rw [List.getD_eq_getElem?_getD, hk]; rfl] at k1
      rw [hz]
      show o.2[f]? = some (zv (zK k (zval (o.2.getD f (.inl (.inl 0))))))
      rw [← k1, List.getD_eq_getElem?_getD, List.getElem?_eq_getElem (by omega)]
      rfl
  · obtain ⟨h1, h2⟩ := z0_at hc
    have hz : ∀ i, z0 c i = zc0 (rx_w0.getD c (.inl (0, []))) i := fun _ => rfl
    revert h1 h2 hz
    cases rx_w0.getD c (.inl (0, [])) with
    | inl x => intro h1 h2; cases h2
    | inr a =>
      intro h1 h2 hz
      obtain ⟨g1, g2⟩ := rx_an h2
      obtain ⟨g2, g3⟩ := rx_an g2
      obtain ⟨g3, g4⟩ := rx_an g3
      obtain ⟨g5, g6⟩ := rx_an g3
      obtain ⟨g4, -⟩ := rx_an g4
      have g1 : t = a.1 := rx_bq g1
      have g2 : n = a.2.1 := rx_bq g2
      refine ⟨a.2.2, by rw [h1, g1, g2], ⟨rx_bt g5, rx_bt g6⟩, fun j hj => ?_⟩
      have hj2 : Nat.blt j a.2.1 = true := by rw [zblt]; exact decide_eq_true (by omega)
      rw [hz, g1]
      show _ = zv (zK a.1 (zval (rx_lk a.2.2 (cond (Nat.blt j a.2.1) j 0) (rx_df a.1))))
      rw [hj2]
      show _ = zv (zK a.1 (zval (rx_lk a.2.2 j (rx_df a.1))))
      rw [g1] at g4
      cases h4 : Nat.beq a.1 4 with
      | true =>
        have g4 : cond (Nat.beq a.1 4) ((List.range n).all (fun j => zvb a.1 (rx_lk a.2.2 j (rx_df a.1)))) (zvb a.1 (rx_df a.1) && a.2.2.all (fun q => zvb a.1 q.2)) = true := g4
        rw [h4] at g4
        exact zvb_ok (List.all_eq_true.mp g4 j (List.mem_range.mpr hj))
      | false =>
        have g4 : cond (Nat.beq a.1 4) ((List.range n).all (fun j => zvb a.1 (rx_lk a.2.2 j (rx_df a.1)))) (zvb a.1 (rx_df a.1) && a.2.2.all (fun q => zvb a.1 q.2)) = true := g4
        rw [h4] at g4
        obtain ⟨k1, k2⟩ := rx_an g4
        exact lk_P (P := fun v => v = zv (zK a.1 (zval v))) (zvb_ok k1) (fun q hq => zvb_ok (List.all_eq_true.mp k2 q hq)) j
theorem z0_sk : zsk zSh z0 := by
  refine ⟨fun c a ks hc f k hk => ?_, fun c t n hc j hj => ?_⟩
  · obtain ⟨h1, h2⟩ := z0_at hc
    show zin k (zc0 (rx_w0.getD c (.inl (0, []))) f)
    revert h1 h2
    cases rx_w0.getD c (.inl (0, [])) with
    | inr x => intro h1 h2; cases h2
    | inl o =>
      intro h1 h2
      obtain ⟨g1, g2⟩ := rx_an h2
      obtain ⟨g2, g3⟩ := rx_an g2
      obtain ⟨-, k1⟩ := rx_an (List.all_eq_true.mp g3 f (List.mem_range.mpr (zlt_of hk)))
      have k1 := zinb_ok k1
      rw [show ks.getD f 0 = k by rw [List.getD_eq_getElem?_getD, hk]; rfl] at k1
      exact k1
  · obtain ⟨h1, h2⟩ := z0_at hc
    show zin t (zc0 (rx_w0.getD c (.inl (0, []))) j)
    revert h1 h2
    cases rx_w0.getD c (.inl (0, [])) with
    | inl x => intro h1 h2; cases h2
    | inr a =>
      intro h1 h2
      obtain ⟨g1, g2⟩ := rx_an h2
      obtain ⟨g2, g3⟩ := rx_an g2
      obtain ⟨g3, g4⟩ := rx_an g3
      obtain ⟨-, g4⟩ := rx_an g4
      obtain ⟨k1, k2⟩ := rx_an g4
      exact lk_P (P := fun v => zin t (zval v)) (zinb_ok k1) (fun q hq => zinb_ok (List.all_eq_true.mp k2 q hq)) _
theorem z0_G : gInv zgt z0 := by
  intro c i
  unfold gok
  cases h : zgt[c]? with
  | none => trivial
  | some g =>
    have hc : c < 221 := by
      have := zlt_of h
      rw [z0_len.2.2] at this
      exact this
    have h1 := List.all_eq_true.mp z0_gck c (List.mem_range.mpr hc)
    rw [show zgt.getD c (.inl []) = g by rw [List.getD_eq_getElem?_getD, h]; rfl] at h1
    have hz : z0 c i = zc0 (rx_w0.getD c (.inl (0, []))) i := rfl
    rw [hz]
    generalize rx_w0.getD c (.inl (0, [])) = x at h1
    cases g with
    | inl l =>
      have h1 : (List.range l.length).all (fun i => (l.getD i []).any (fun b => decide (b.1 ≤ zc0 x i ∧ zc0 x i ≤ b.2))) = true := by
        cases x <;> exact h1
      show match l[i]? with
        | some bs => ∃ b ∈ bs, b.1 ≤ zc0 x i ∧ zc0 x i ≤ b.2
        | none => True
      cases hl : l[i]? with
      | none => trivial
      | some bs =>
        have h2 := List.all_eq_true.mp h1 i (List.mem_range.mpr (zlt_of hl))
        rw [show l.getD i [] = bs by rw [List.getD_eq_getElem?_getD, hl]; rfl] at h2
        obtain ⟨b, hb, h3⟩ := List.any_eq_true.mp h2
        exact ⟨b, hb, of_decide_eq_true h3⟩
    | inr b =>
      cases x with
      | inl o => cases h1
      | inr a =>
        have h1 : ((decide (b.1 ≤ zval (rx_df a.1) ∧ zval (rx_df a.1) ≤ b.2) && a.2.2.all (fun q => decide (b.1 ≤ zval q.2 ∧ zval q.2 ≤ b.2))) || (Nat.blt 0 a.2.1 && (List.range a.2.1).all (fun j => decide (b.1 ≤ zval (rx_lk a.2.2 j (rx_df a.1)) ∧ zval (rx_lk a.2.2 j (rx_df a.1)) ≤ b.2)))) = true := h1
        show b.1 ≤ zval (rx_lk a.2.2 (cond (Nat.blt i a.2.1) i 0) (rx_df a.1)) ∧ zval (rx_lk a.2.2 (cond (Nat.blt i a.2.1) i 0) (rx_df a.1)) ≤ b.2
        cases c1 : (decide (b.1 ≤ zval (rx_df a.1) ∧ zval (rx_df a.1) ≤ b.2) && a.2.2.all (fun q => decide (b.1 ≤ zval q.2 ∧ zval q.2 ≤ b.2))) with
        | true =>
          obtain ⟨k1, k2⟩ := rx_an c1
          exact lk_P (P := fun v => b.1 ≤ zval v ∧ zval v ≤ b.2) (of_decide_eq_true k1) (fun q hq => of_decide_eq_true (List.all_eq_true.mp k2 q hq)) _
        | false =>
          rw [c1] at h1
          obtain ⟨k1, k2⟩ := rx_an h1
          have k1 := rx_bt k1
          have hj : cond (Nat.blt i a.2.1) i 0 < a.2.1 := by
            cases c2 : Nat.blt i a.2.1 with
            | true => exact rx_bt c2
            | false => exact k1
          exact of_decide_eq_true (List.all_eq_true.mp k2 _ (List.mem_range.mpr hj))
theorem z0_J : zJ z0 := by
  refine ⟨fun x y _ _ _ _ h => absurd (show 0 < z0 177 _ from h) (by show ¬ (0 : Int) < 0; decide), ⟨fun k h1 h2 => ?_, fun k h1 h2 => ?_⟩, fun w h1 h2 h3 => ?_⟩
  · have h2 : k < 0 := h2
    omega
  · have h2 : k < 0 := h2
    omega
  · rcases (show w = 0 ∨ w = 1 by omega) with rfl | rfl
    · exact absurd (show z0 186 (2 * z0 170 13 + 0).toNat = -1 by decide +kernel) h3
    · exact absurd (show z0 186 (2 * z0 170 13 + 1).toNat = -1 by decide +kernel) h3
theorem z0_I : zI z0 := ⟨z0_G, z0_J⟩
