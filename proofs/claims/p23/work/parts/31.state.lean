/-! what a state must be: the tables' words, the classes, the constants -/
def rx_words : List Cond := lw_tbl.filter goodWord
theorem rx_words_good : GoodIn rx_words rx_words := fun w h => ⟨h, good_of_word (List.mem_filter.mp h).2⟩
def rx_isN (w : Cond) : Bool := match w with
  | .fieldLinkNest _ _ _ _ _ _ => true
  | .methodLinkNest _ _ _ _ => true
  | _ => false
def rx_NW : List Cond := lw_tbl.filter rx_isN
theorem rx_NW_warm {s U : State} (hW : s.WarmedH U.vm) (h : ∀ w ∈ rx_NW, va_Nw w s) : ∀ w ∈ rx_NW, va_Nw w U := by
  intro w hw
  have h1 := h w hw
  have h2 := (List.mem_filter.mp hw).2
  cases w <;> first | (exact va_Nw.warmF hW h1) | (exact va_Nw.warmM hW h1) | (cases h2)
def rx_tys (X : rx_X) : List (ClassId × FieldType) := [(X.2.2.2 0, .int), (X.2.2.2 1, .byte), (X.2.2.2 2, .boolean), (X.2.2.2 3, .long), (X.2.2.2 4, .object "GreyRoute$State")]
def rx_A (X : rx_X) : Nat → Prop := fun q => X.2.1 ≤ q
def rx_U0 (X : rx_X) (D : va_G) (G : rx_G) (U : State) : Prop :=
  va_K D vwCl (rx_tys X) U ∧ (∀ w ∈ rx_NW, va_Nw w U) ∧ va_AO "GreyRoute$State" U ∧
  (∃ b, X.2.2.1 0 = some b ∧ (0 < G.2.2.1 → va_X b (G.2.2.1 - 1) X.1 U U.heap) ∧ b < X.2.1) ∧
  (∃ (q1 q2 : Nat) (tx : String), X.2.2.1 1 = some q1 ∧ X.2.2.1 2 = some q2 ∧ vk_R "GreyRoute$Words" 38 tx q1 U ∧ va_O "java/lang/String" q1 (rx_A X) U U.heap ∧ va_OF "java/lang/String" "coder" "B" (.int 0) q1 (rx_A X) U U.heap ∧ va_OF "java/lang/String" "value" "[B" (.ref q2) q1 (rx_A X) U U.heap ∧ va_T .byte q2 G.2.2.2.2.1 (fun j => .int (nI (G.2.2.2.1.getD j 0))) (rx_A X) U U.heap) ∧
  va_Z "java/lang/String" "COMPACT_STRINGS" "Z" (.int 1) (rx_A X) U U.heap ∧
  va_Z "jdk/internal/util/Preconditions" "SIOOBE_FORMATTER" "Ljava/util/function/BiFunction;" (va_rf (X.2.2.1 3)) (rx_A X) U U.heap ∧ X.2.1 ≤ U.heap.size
theorem rx_U0.to {X : rx_X} {D : va_G} {G : rx_G} {s U : State} (hW : s.WarmedH U.vm) (hz : s.heap.size ≤ U.heap.size) (hk : ∀ q : Nat, q < s.heap.size → ¬ rx_A X q → U.heap[q]? = s.heap[q]?) (h : rx_U0 X D G s) : rx_U0 X D G U := by
  obtain ⟨h1, h2, h3, ⟨b, b1, b2, b3⟩, ⟨q1, q2, tx, c1, c2, c3, c4, c5, c6, c7⟩, h5, h6, h7⟩ := h
  have hal := hW.alike
  refine ⟨va_K.moved hal h1, rx_NW_warm hW h2, h3.moved hal, ⟨b, b1, ?_, b3⟩, ⟨q1, q2, tx, c1, c2, c3.warm hW, ?_, ?_, ?_, ?_⟩, ?_, ?_, Nat.le_trans h7 hz⟩
  · exact fun h9 => va_X.moved hal ((b2 h9).kept (hk b (Nat.lt_of_lt_of_le b3 h7) (Nat.not_le.mpr b3)))
  · exact va_O.moved hal (c4.kept hk)
  · exact va_OF.moved hal (c5.kept hk)
  · exact va_OF.moved hal (c6.kept hk)
  · exact va_T.moved hal (c7.kept hk)
  · exact va_Z.moved hal (h5.kept hk)
  · exact va_Z.moved hal (h6.kept hk)
/-- a method's start and end -/
def rx_Pc (X : rx_X) (D : va_G) (G : rx_G) (as : List rx_V) (w : List rx_C) : Array Value → State → Prop := fun v U =>
  v = (as.map (rx_d X)).toArray ∧ va_P D vwCl (rx_w X 0 w) U.heap ∧ (G.2.1 = true → U.heap.size ≤ X.2.1 + w.length) ∧ rx_U0 X D G U
def rx_Qc (X : rx_X) (D : va_G) (G : rx_G) (mc : Nat) (r : Option rx_V) (w : List rx_C) : Array Value → State → Outcome → State → Prop := fun _ st oc t =>
  oc = .returned (r.map (rx_d X)) ∧ va_P D vwCl (rx_w X 0 w) t.heap ∧ (G.2.1 = true → st.heap.size + mc ≤ X.2.1 + w.length) ∧ st.heap.size ≤ t.heap.size ∧ ∀ q : Nat, q < st.heap.size → ¬ rx_A X q → t.heap[q]? = st.heap[q]?
theorem rx_Pc_blind (X : rx_X) (D : va_G) (G : rx_G) (as : List rx_V) (w : List rx_C) : FrameBlind (rx_Pc X D G as w) := by
  intro a U g mk h
  obtain ⟨h1, h2, h3, h4⟩ := h
  exact ⟨h1, h2, h3, rx_U0.to (s := U) (U := U.calling g mk a) (State.WarmedH.refl U) (Nat.le_refl _) (fun _ _ _ => rfl) h4⟩
/-- a method: its name, bytes, locals, answer -/
abbrev rx_Y : Type := MethodName × ByteArray × Nat × Option FieldType
def rx_rm (d mc ms : Nat) : Room := { frames := d, cells := mc, slots := ms, locals := 64 * d }
def rx_Met (l : Launch) (d mc ms : Nat) (Y : rx_Y) (X : rx_X) (D : va_G) (G : rx_G) (as : List rx_V) (w : List rx_C) (r : Option rx_V) (w' : List rx_C) : Prop :=
  Met l Y.1 (Cond.code Y.1 Y.2.1 Y.2.2.1 Y.2.2.2 :: rx_words) (rx_rm d mc ms) (rx_Pc X D G as w) (rx_Qc X D G mc r w') mc ms (rx_A X)
/-- within a method's body -/
def rx_Cx (p : Program) (s : State) (m : MethodId) (args : Array Value) (c : Code) (X : rx_X) (D : va_G) (G : rx_G) (own : String) (cc : ByteArray) (nL : Nat) : Prop :=
  p.tables.exec = Jvm.exec ∧ c.code = cc ∧ c.maxLocals = nL ∧ s.vm.findClass own = some m.cls ∧ (∀ w ∈ rx_words, w.before args s = true) ∧ rx_U0 X D G s ∧ rx_fok X G.1
def rx_Iv (X : rx_X) (D : va_G) (G : rx_G) (s : State) (w : List rx_C) (cc : Nat) (H : Heap) (locs : List Loc) : Prop :=
  va_P D vwCl (rx_w X 0 w) H ∧ (G.2.1 = true → s.heap.size + cc ≤ X.2.1 + w.length) ∧ va_S (rx_A X) s.heap H locs
def rx_Lm (X : rx_X) (L : rx_L) : List (Nat × Value) := L.map (fun q => (q.1, rx_d X q.2))
def rx_W (p : Program) (l : Launch) (e : Env) (R : Room) (s : State) (m : MethodId) (args : Array Value) (below : List Frame) (meth : Method) (c : Code) (Q : State → Prop) (X : rx_X) (D : va_G) (G : rx_G) (nL pc : Nat) (L : rx_L) (S : List rx_V) (w : List rx_C) (cc ss : Nat) : Prop :=
  ∀ (H : Heap) (locs : List Loc) (ls : Array Slot), rx_Iv X D G s w cc H locs → lv_has ls nL (rx_Lm X L) → W p l e R s m args below meth c H locs cc ss Q (F0 m pc ls (S.map (rx_d X)))
theorem rx_Lm_mem {X : rx_X} {L : rx_L} {ls : Array Slot} {nL i : Nat} {v : rx_V} (hl : lv_has ls nL (rx_Lm X L)) (h : (i, v) ∈ L) : ls[i]? = some (.val (rx_d X v)) := hl.2.2 (i, rx_d X v) (List.mem_map.mpr ⟨(i, v), h, rfl⟩)
theorem rx_lv_mono {ls : Array Slot} {nL : Nat} {l l' : List (Nat × Value)} (h : lv_has ls nL l) (hs : ∀ q ∈ l', q ∈ l) : lv_has ls nL l' := ⟨h.1, h.2.1, fun q hq => h.2.2 q (hs q hq)⟩
theorem rx_bnf (a b : Nat) : Nat.beq a b = false ↔ ¬ a = b := by
  constructor
  · intro h e
    subst e
    have h2 : Nat.beq a a = true := Nat.beq_refl a
    rw [h2] at h
    cases h
  · intro h
    cases c : Nat.beq a b with
    | true => exact absurd (rx_bq c) h
    | false => rfl
theorem rx_lv1 {X : rx_X} {L : rx_L} {ls : Array Slot} {nL a : Nat} {v : rx_V} (h : lv_has ls nL ((a, rx_d X v) :: (rx_Lm X L).filter (fun q => !(q.1 == a) && !(q.1 + 1 == a && q.2.category == 2)))) : lv_has ls nL (rx_Lm X ((a, v) :: L.filter (fun q => !rx_P1 a q.1 q.2))) := by
  refine rx_lv_mono h (fun q hq => ?_)
  obtain ⟨z, hz, rfl⟩ := List.mem_map.mp hq
  rcases List.mem_cons.mp hz with rfl | hz
  · exact List.mem_cons_self
  · obtain ⟨h1, h2⟩ := List.mem_filter.mp hz
    refine List.mem_cons_of_mem _ (List.mem_filter.mpr ⟨List.mem_map.mpr ⟨z, h1, rfl⟩, ?_⟩)
    show (!(z.1 == a) && !(z.1 + 1 == a && (rx_d X z.2).category == 2)) = true
    rw [rx_cat_d]
    unfold rx_P1 at h2
    simpa [Bool.not_or, rx_bnf] using h2
theorem rx_lv2 {X : rx_X} {L : rx_L} {ls : Array Slot} {nL a : Nat} {v : rx_V} (h : lv_has ls nL ((a, rx_d X v) :: (rx_Lm X L).filter (fun q => !(q.1 == a) && (!(q.1 == a + 1) && !(q.1 + 1 == a && q.2.category == 2))))) : lv_has ls nL (rx_Lm X ((a, v) :: L.filter (fun q => !rx_P2 a q.1 q.2))) := by
  refine rx_lv_mono h (fun q hq => ?_)
  obtain ⟨z, hz, rfl⟩ := List.mem_map.mp hq
  rcases List.mem_cons.mp hz with rfl | hz
  · exact List.mem_cons_self
  · obtain ⟨h1, h2⟩ := List.mem_filter.mp hz
    refine List.mem_cons_of_mem _ (List.mem_filter.mpr ⟨List.mem_map.mpr ⟨z, h1, rfl⟩, ?_⟩)
    show (!(z.1 == a) && (!(z.1 == a + 1) && !(z.1 + 1 == a && (rx_d X z.2).category == 2))) = true
    rw [rx_cat_d]
    unfold rx_P2 at h2
    simpa [Bool.not_or, rx_bnf] using h2
theorem rx_W_size {p : Program} {l : Launch} {e : Env} {R : Room} {s : State} {m : MethodId} {args : Array Value} {below : List Frame} {meth : Method} {c : Code} {H : Heap} {locs : List Loc} {cells slots : Nat} {Q : State → Prop} {g : JFrame} (k : H.size ≤ s.heap.size + cells → W p l e R s m args below meth c H locs cells slots Q g) : W p l e R s m args below meth c H locs cells slots Q g := by
  intro T hT Y
  have h := Y.heapSize
  rw [hT] at h
  exact k h T hT Y
theorem rx_low {X : rx_X} {D : va_G} {G : rx_G} {s : State} {w : List rx_C} {cc : Nat} {H : Heap} {locs : List Loc} (hI : rx_Iv X D G s w cc H locs) (h0 : X.2.1 ≤ s.heap.size) : X.2.1 + w.length ≤ H.size := by
  rcases Nat.eq_zero_or_pos w.length with hz | hz
  · have := hI.2.2.1
    omega
  · have h1 : w[w.length - 1]? = some (w[w.length - 1]'(by omega)) := List.getElem?_eq_getElem (by omega)
    have h2 := (hI.1 _ _ (rx_w_get (X := X) h1)).lt
    simp only at h2
    omega
