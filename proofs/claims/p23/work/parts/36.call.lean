/-! calls -/
theorem rx_W_sizeR {p : Program} {l : Launch} {e : Env} {R : Room} {s : State} {m : MethodId} {args : Array Value} {below : List Frame} {meth : Method} {c : Code} {H : Heap} {locs : List Loc} {cells slots mc ms : Nat} {g : JFrame} {rest : List Value} {Qa : State → Outcome → State → Prop} {free : Addr → Prop} (k : H.size ≤ s.heap.size + cells → va_Run p l e R s m args below meth c H locs cells slots mc ms g rest Qa free) : va_Run p l e R s m args below meth c H locs cells slots mc ms g rest Qa free := by
  intro T hT Y
  have h := Y.heapSize
  rw [hT] at h
  exact k h T hT Y
def rx_ps (r : Option rx_V) (S : List rx_V) : List rx_V := match r with
  | some v => v :: S
  | none => S
section RXC
variable {p : Program} {l : Launch} {e : Env} {R : Room} {s : State} {m : MethodId} {args : Array Value} {below : List Frame} {meth : Method} {c : Code} {Q : State → Prop} {X : rx_X} {D : va_G} {G : rx_G} {own : String} {bc : ByteArray} {nL pc : Nat} {K : rx_K} {rest cd : List rx_E} {L : rx_L} {S : List rx_V} {w : List rx_C} {cc ss : Nat} {r : rx_R}
theorem rx_inv_ok {al : Bool} {mc ms nu n q a : Nat} {cap : Nat → Nat × Nat} {ex : Nat → List rx_V → List rx_C → Option (Option rx_V × List rx_C)} (h : rx_inv al mc ms cap ex K rest nu n q a L S w cc ss = some r) : ∃ (as S' : List rx_V) (r' : Option rx_V) (w' : List rx_C), S = as.reverse ++ S' ∧ as.length = n ∧ rx_cats S' ≤ 8 ∧ cc + (cap nu).1 ≤ mc ∧ ss + (cap nu).2 ≤ ms ∧ ex nu as w = some (r', w') ∧ (q = 0 ∨ (q = 1 ∧ ∃ (k : Nat) (as' fs : List rx_V), as = .inr (.inr (.inl (some k))) :: as' ∧ w[k]? = some (.inl (a, fs))) ∨ (q = 2 ∧ ∃ as' : List rx_V, as = .inr (.inr (.inr 1)) :: as')) ∧ K rest L (rx_ps r' S') w' (cc + (cap nu).1) (ss + (cap nu).2) = some r := by
  unfold rx_inv at h
  obtain ⟨as, S', h1, h2, h3⟩ := rx_take_ok h
  rw [List.append_nil] at h3
  obtain ⟨g, h4⟩ := rx_c h3
  obtain ⟨g1, g⟩ := rx_an g
  obtain ⟨g2, g3⟩ := rx_an g
  cases hx : ex nu as w with
  | none => rw [hx] at h4; cases h4
  | some z =>
    obtain ⟨r', w'⟩ := z
    rw [hx] at h4
    refine ⟨as, S', r', w', h1, h2, rx_bl g1, rx_bl g2, rx_bl g3, hx, ?_⟩
    dsimp only at h4
    split at h4
    · exact ⟨Or.inl rfl, h4⟩
    · rename_i k as'
      obtain ⟨x, y1, h5⟩ := rx_at_ok h4
      rcases x with ⟨o1, o2⟩ | o
      · obtain ⟨y2, h6⟩ := rx_c h5
        have y2 : o1 = a := rx_bq y2
        rw [y2] at y1
        exact ⟨Or.inr (Or.inl ⟨rfl, k, as', o2, rfl, y1⟩), h6⟩
      · cases h5
    · rename_i k as'
      obtain ⟨y2, h6⟩ := rx_c h4
      have y2 := rx_bq y2
      exact ⟨Or.inr (Or.inr ⟨rfl, as', by rw [y2]⟩), h6⟩
    · cases h4
theorem rx_callW {H : Heap} {locs : List Loc} {ls : Array Slot} {st0 S' : List rx_V} {c1 s1 : Nat} {r' : Option rx_V} {w' : List rx_C} {av : Array Value} (hr : va_Run p l e R s m args below meth c H locs cc ss c1 s1 (F0 m pc ls (st0.map (rx_d X))) (S'.map (rx_d X)) (rx_Qc X D G c1 r' w' av) (rx_A X)) (hI : rx_Iv X D G s w cc H locs) (h00 : X.2.1 ≤ s.heap.size) (hl : lv_has ls nL (rx_Lm X L)) (kk : rx_W p l e R s m args below meth c Q X D G nL (pc + 3) L (rx_ps r' S') w' (cc + c1) (ss + s1)) : W p l e R s m args below meth c H locs cc ss Q (F0 m pc ls (st0.map (rx_d X))) := by
  intro T hT Y
  obtain ⟨v, st₀, t, T', L1, e0, Y', hL, e1, e2, ⟨hv, hP, hz, hz2, hk⟩, st⟩ := hr T hT Y
  have hlow := rx_low hI h00
  obtain ⟨hP0, hc0, hV⟩ := hI
  have hv : v = r'.map (rx_d X) := by cases hv; rfl
  rw [e0] at hz hz2 hk
  have hIv : rx_Iv X D G s w' (cc + c1) T'.heap (locs ++ L1) := by
    refine ⟨by rw [e1]; exact hP, fun q => ?_, Nat.le_trans hV.1 (by rw [e1]; exact hz2), fun q h1 h2 => ?_, fun q hq => ?_⟩
    · have y1 := hz q
      have y2 := hc0 q
      omega
    · rw [e1, hk q (Nat.lt_of_lt_of_le h1 hV.1) h2]
      exact hV.2.1 q h1 h2
    · rcases List.mem_append.mp hq with z | z
      · exact hV.2.2 q z
      · exact hL q z
  obtain ⟨t2, a1, b1⟩ := kk T'.heap (locs ++ L1) ls hIv hl T' rfl Y'
  refine ⟨t2, st t2 ?_, b1⟩
  rw [hv]
  cases r' with
  | none => exact a1
  | some x => exact a1
theorem rx_preS {H : Heap} {locs : List Loc} {as : List rx_V} (C : rx_Cx p s m args c X D G own bc nL) (hI : rx_Iv X D G s w cc H locs) (hsz : H.size ≤ s.heap.size + cc) : PreS s H (rx_Pc X D G as w) (as.map (rx_d X)) := by
  obtain ⟨-, -, -, -, -, hU, -⟩ := C
  refine ⟨rx_Pc_blind X D G as w, fun U hU2 hW => ⟨rfl, by rw [hU2]; exact hI.1, fun q => ?_, ?_⟩⟩
  · have := hI.2.1 q
    rw [hU2]
    omega
  · refine rx_U0.to hW ?_ (fun q h1 h2 => ?_) hU
    · rw [hU2]; exact hI.2.2.1
    · rw [hU2]; exact hI.2.2.2.1 q h1 h2
theorem rx_goodc {Y : rx_Y} (h : Cond.code Y.1 Y.2.1 Y.2.2.1 Y.2.2.2 ∈ rx_words) : GoodIn rx_words (Cond.code Y.1 Y.2.1 Y.2.2.1 Y.2.2.2 :: rx_words) := by
  intro w hw
  rcases List.mem_cons.mp hw with rfl | hw
  · exact rx_words_good _ h
  · exact rx_words_good _ hw
/-- a call without a receiver -/
theorem rx_q_stat (C : rx_Cx p s m args c X D G own bc nL) {Y : rx_Y} {d idx mc ms nu n : Nat} {cap : Nat → Nat × Nat} {ex : Nat → List rx_V → List rx_C → Option (Option rx_V × List rx_C)} (hd : decode bc pc = .ok (.invokestatic idx, 3)) (hmc : mc ≤ R.cells) (hms : ms ≤ R.slots) (hfr : d + 1 ≤ R.frames) (hlo : 64 * d + 64 ≤ R.locals) (hmx : Y.2.2.1 ≤ 45)
    (hM : ∀ (as : List rx_V) (w : List rx_C) (r' : Option rx_V) (w' : List rx_C), ex nu as w = some (r', w') → rx_Met l d (cap nu).1 (cap nu).2 Y X D G as w r' w')
    (hc : Cond.code Y.1 Y.2.1 Y.2.2.1 Y.2.2.2 ∈ rx_words) (hi : Cond.initialized Y.1.cls ∈ rx_words) (hst : Cond.static Y.1 ∈ rx_words) (hlk : Cond.methodLink own idx Y.1 ∈ rx_words ∨ ∃ host, Cond.methodLinkNest own idx Y.1 host ∈ rx_NW) (hy : Y.1.cls ≠ "java/lang/invoke/MethodHandle" ∧ Y.1.cls ≠ "java/lang/invoke/VarHandle" ∧ (parseMethodDescriptor Y.1.desc).map (fun d => d.parameters.length) = some n)
    (hS : rx_hS (rx_W p l e R s m args below meth c Q X D G nL) K rest r (pc + 3)) (h : rx_inv G.2.1 mc ms cap ex K rest nu n 0 0 L S w cc ss = some r) : rx_W p l e R s m args below meth c Q X D G nL pc L S w cc ss := by
  obtain ⟨hx, hb, hml, hown, hts, ⟨-, hNW, -, -, -, -, -, h00⟩, -⟩ := id C
  obtain ⟨as, S', r', w', rfl, h2, h3, h4, h5, h6, -, h7⟩ := rx_inv_ok h
  intro H locs ls hI hl
  refine rx_callW (av := #[]) (S' := S') (r' := r') (w' := w') ?_ hI h00 hl (hS _ _ _ _ _ h7)
  refine rx_W_sizeR (fun hsz => ?_)
  have hR : (rx_rm d (cap nu).1 (cap nu).2).frames + 1 ≤ R.frames ∧ 8 + (Y.2.2.1 + 11) + (rx_rm d (cap nu).1 (cap nu).2).locals ≤ R.locals := ⟨hfr, by show 8 + (Y.2.2.1 + 11) + 64 * d ≤ R.locals; omega⟩
  have hrm : ((S'.map (rx_d X)).map (fun v => v.category)).sum ≤ 8 := by rw [rx_cats_eq]; exact h3
  have hstk : (as.reverse ++ S').map (rx_d X) = (as.map (rx_d X)).reverse ++ S'.map (rx_d X) := by rw [List.map_append, List.map_reverse]
  rcases hlk with hlk | ⟨host, hlk⟩
  · exact va_runS (As := as.map (rx_d X)) ⟨hx, hb, hml, hown, hts⟩ (hM as w r' w' h6) ⟨callB_of n hts (rx_goodc hc) rfl rfl rfl (hts _ hi) (hts _ hlk) hy hR, hts _ hst⟩ (rx_preS C hI hsz) rfl (by rw [List.length_map]; exact h2) hl.1 hstk (lv_room hrm) hd ⟨Nat.le_trans h4 hmc, Nat.le_trans h5 hms⟩
  · exact va_runSN (As := as.map (rx_d X)) ⟨hx, hb, hml, hown, hts⟩ (hM as w r' w' h6) ⟨va_cnB n hts (rx_goodc hc) rfl rfl rfl (hNW _ hlk) (hts _ hi) hy hR, hts _ hst, trivial⟩ (rx_preS C hI hsz) rfl (by rw [List.length_map]; exact h2) hl.1 hstk (lv_room hrm) hd ⟨Nat.le_trans h4 hmc, Nat.le_trans h5 hms⟩
/-- a constructor -/
theorem rx_q_spec (C : rx_Cx p s m args c X D G own bc nL) {Y : rx_Y} {d idx mc ms nu n a : Nat} {cap : Nat → Nat × Nat} {ex : Nat → List rx_V → List rx_C → Option (Option rx_V × List rx_C)} (hd : decode bc pc = .ok (.invokespecial idx, 3)) (hmc : mc ≤ R.cells) (hms : ms ≤ R.slots) (hfr : d + 1 ≤ R.frames) (hlo : 64 * d + 64 ≤ R.locals) (hmx : Y.2.2.1 ≤ 45)
    (hM : ∀ (as : List rx_V) (w : List rx_C) (r' : Option rx_V) (w' : List rx_C), ex nu as w = some (r', w') → rx_Met l d (cap nu).1 (cap nu).2 Y X D G as w r' w')
    (hc : Cond.code Y.1 Y.2.1 Y.2.2.1 Y.2.2.2 ∈ rx_words) (hi : Cond.initialized Y.1.cls ∈ rx_words) (hst : Cond.instanceMethod Y.1 ∈ rx_words) (hlk : Cond.methodLink own idx Y.1 ∈ rx_words ∨ ∃ host, Cond.methodLinkNest own idx Y.1 host ∈ rx_NW) (hnm : Y.1.name = "<init>") (hrt : Y.2.2.2 = none) (hy : Y.1.cls ≠ "java/lang/invoke/MethodHandle" ∧ Y.1.cls ≠ "java/lang/invoke/VarHandle" ∧ (parseMethodDescriptor Y.1.desc).map (fun d => d.parameters.length) = some n)
    (hS : rx_hS (rx_W p l e R s m args below meth c Q X D G nL) K rest r (pc + 3)) (h : rx_inv G.2.1 mc ms cap ex K rest nu (n + 1) 1 a L S w cc ss = some r) : rx_W p l e R s m args below meth c Q X D G nL pc L S w cc ss := by
  obtain ⟨hx, hb, hml, hown, hts, ⟨-, hNW, -, -, -, -, -, h00⟩, -⟩ := id C
  obtain ⟨as, S', r', w', rfl, h2, h3, h4, h5, h6, hq, h7⟩ := rx_inv_ok h
  rcases hq with q | ⟨-, k, as', fs, rfl, y1⟩ | ⟨q, -⟩
  · cases q
  · intro H locs ls hI hl
    refine rx_callW (av := #[]) (S' := S') (r' := r') (w' := w') ?_ hI h00 hl (hS _ _ _ _ _ h7)
    refine rx_W_sizeR (fun hsz => ?_)
    have hR : (rx_rm d (cap nu).1 (cap nu).2).frames + 1 ≤ R.frames ∧ 8 + (Y.2.2.1 + 11) + (rx_rm d (cap nu).1 (cap nu).2).locals ≤ R.locals := ⟨hfr, by show 8 + (Y.2.2.1 + 11) + 64 * d ≤ R.locals; omega⟩
    have hrm : ((S'.map (rx_d X)).map (fun v => v.category)).sum ≤ 8 := by rw [rx_cats_eq]; exact h3
    have hstk : ((.inr (.inr (.inl (some k))) :: as' : List rx_V).reverse ++ S').map (rx_d X) = (as'.map (rx_d X)).reverse ++ .ref (X.2.1 + k) :: S'.map (rx_d X) := by
      rw [List.map_append, List.map_reverse, List.map_cons, List.reverse_cons, List.append_assoc]; rfl
    have hlen : (as'.map (rx_d X)).length = n := by rw [List.length_map]; simpa using h2
    have hM' := hM _ w r' w' h6
    unfold rx_Met at hM'
    rw [hrt] at hM' hc
    have hg : GoodIn rx_words (Cond.code Y.1 Y.2.1 Y.2.2.1 none :: rx_words) := rx_goodc (Y := (Y.1, Y.2.1, Y.2.2.1, none)) hc
    rcases hlk with hlk | ⟨host, hlk⟩
    · exact va_runI (As := as'.map (rx_d X)) (b := X.2.1 + k) ⟨hx, hb, hml, hown, hts⟩ hM' ⟨callB_of n hts hg rfl rfl rfl (hts _ hi) (hts _ hlk) hy hR, hnm, hts _ hst⟩ (rx_preS C hI hsz) rfl hlen hl.1 hstk (lv_room hrm) hd ⟨Nat.le_trans h4 hmc, Nat.le_trans h5 hms⟩
    · exact va_runIN (As := as'.map (rx_d X)) (b := X.2.1 + k) ⟨hx, hb, hml, hown, hts⟩ hM' ⟨va_cnB n hts hg rfl rfl rfl (hNW _ hlk) (hts _ hi) hy hR, hnm, hts _ hst⟩ (rx_preS C hI hsz) rfl hlen hl.1 hstk (lv_room hrm) hd ⟨Nat.le_trans h4 hmc, Nat.le_trans h5 hms⟩
  · cases q
/-- a call of an object's method -/
theorem rx_q_virt (C : rx_Cx p s m args c X D G own bc nL) {Y : rx_Y} {d idx mc ms nu n a q : Nat} {cap : Nat → Nat × Nat} {ex : Nat → List rx_V → List rx_C → Option (Option rx_V × List rx_C)} (hd : decode bc pc = .ok (.invokevirtual idx, 3)) (hmc : mc ≤ R.cells) (hms : ms ≤ R.slots) (hfr : d + 1 ≤ R.frames) (hlo : 64 * d + 64 ≤ R.locals) (hmx : Y.2.2.1 ≤ 45)
    (hM : ∀ (as : List rx_V) (w : List rx_C) (r' : Option rx_V) (w' : List rx_C), ex nu as w = some (r', w') → rx_Met l d (cap nu).1 (cap nu).2 Y X D G as w r' w')
    (hc : Cond.code Y.1 Y.2.1 Y.2.2.1 Y.2.2.2 ∈ rx_words) (hi : Cond.initialized Y.1.cls ∈ rx_words) (hst : Cond.instanceMethod Y.1 ∈ rx_words) (hse : Cond.selects Y.1.cls Y.1 Y.1 ∈ rx_words) (hlk : Cond.methodLink own idx Y.1 ∈ rx_words ∨ ∃ host, Cond.methodLinkNest own idx Y.1 host ∈ rx_NW) (hq : (q = 1 ∧ ∃ T N, vwCl[a]? = some (Y.1.cls, T, N)) ∨ (q = 2 ∧ Y.1.cls = "java/lang/String")) (hy : Y.1.cls ≠ "java/lang/invoke/MethodHandle" ∧ Y.1.cls ≠ "java/lang/invoke/VarHandle" ∧ (parseMethodDescriptor Y.1.desc).map (fun d => d.parameters.length) = some n)
    (hS : rx_hS (rx_W p l e R s m args below meth c Q X D G nL) K rest r (pc + 3)) (h : rx_inv G.2.1 mc ms cap ex K rest nu (n + 1) q a L S w cc ss = some r) : rx_W p l e R s m args below meth c Q X D G nL pc L S w cc ss := by
  obtain ⟨hx, hb, hml, hown, hts, ⟨hK, hNW, -, -, ⟨q1, q2, tx, c1, c2, c3, c4, -⟩, -, -, h00⟩, -⟩ := id C
  obtain ⟨as, S', r', w', rfl, h2, h3, h4, h5, h6, hq2, h7⟩ := rx_inv_ok h
  intro H locs ls hI hl
  have hR : (rx_rm d (cap nu).1 (cap nu).2).frames + 1 ≤ R.frames ∧ 8 + (Y.2.2.1 + 11) + (rx_rm d (cap nu).1 (cap nu).2).locals ≤ R.locals := ⟨hfr, by show 8 + (Y.2.2.1 + 11) + 64 * d ≤ R.locals; omega⟩
  have hrm : ((S'.map (rx_d X)).map (fun v => v.category)).sum ≤ 8 := by rw [rx_cats_eq]; exact h3
  refine rx_callW (av := #[]) (S' := S') (r' := r') (w' := w') ?_ hI h00 hl (hS _ _ _ _ _ h7)
  refine rx_W_sizeR (fun hsz => ?_)
  have hpre := rx_preS (as := as) C hI hsz
  have hM' := hM as w r' w' h6
  -- the receiver: its address, and that it is there
  have hrec : ∃ (b : Nat) (As : List Value), as.map (rx_d X) = .ref b :: As ∧ As.length = n ∧ ∃ cell : Cell, H[b]? = some cell ∧ cell.vm.isStatics = false ∧ s.vm.findClass Y.1.cls = some cell.cls := by
    rcases hq with ⟨rfl, T, N, hcl⟩ | ⟨rfl, hstr⟩
    · rcases hq2 with z | ⟨-, k, as', fs, rfl, y1⟩ | ⟨z, -⟩
      · cases z
      · exact ⟨X.2.1 + k, as'.map (rx_d X), rfl, by rw [List.length_map]; simpa using h2, va_recv hK hI.1 hcl (rx_w_get (X := X) y1)⟩
      · cases z
    · rcases hq2 with z | ⟨z, -⟩ | ⟨-, as', rfl⟩
      · cases z
      · cases z
      · have e1 : rx_d X (.inr (.inr (.inr 1))) = .ref q1 := by show va_rf _ = _; rw [c1]; rfl
        obtain ⟨cell, y1, y2, y3, -⟩ := c4.kept hI.2.2.2.1
        exact ⟨q1, as'.map (rx_d X), by rw [List.map_cons, e1], by rw [List.length_map]; simpa using h2, cell, y1, y2, by rw [hstr]; exact y3⟩
  obtain ⟨b, As, hAs, hlen, hcell⟩ := hrec
  have hstk : (as.reverse ++ S').map (rx_d X) = As.reverse ++ .ref b :: S'.map (rx_d X) := by
    rw [List.map_append, List.map_reverse, hAs, List.reverse_cons, List.append_assoc]; rfl
  rw [hAs] at hpre
  have hpv : PreV s H Y.1.cls b (rx_Pc X D G as w) As := ⟨hpre.1, hcell, hpre.2⟩
  rcases hlk with hlk | ⟨host, hlk⟩
  · exact va_runV (As := As) (b := b) ⟨hx, hb, hml, hown, hts⟩ hM' ⟨callB_of n hts (rx_goodc hc) rfl rfl rfl (hts _ hi) (hts _ hlk) hy hR, hts _ hst, hts _ hse⟩ hpv rfl hlen hl.1 hstk (lv_room hrm) hd ⟨Nat.le_trans h4 hmc, Nat.le_trans h5 hms⟩
  · exact va_runVN (As := As) (b := b) ⟨hx, hb, hml, hown, hts⟩ hM' ⟨va_cnB n hts (rx_goodc hc) rfl rfl rfl (hNW _ hlk) (hts _ hi) hy hR, hts _ hst, hts _ hse⟩ hpv rfl hlen hl.1 hstk (lv_room hrm) hd ⟨Nat.le_trans h4 hmc, Nat.le_trans h5 hms⟩
end RXC
