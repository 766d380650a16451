/-! what a table must be: decided by the kernel, row by row -/
def rx_ch : List (List Cond) := [k2_sels lw_privs, tables_1_1, tables_1_2, tables_1_3, tables_1_4, tables_1_5, tables_1_6, tables_1_7, tables_1_8, tables_1_9]
theorem rx_ch_ok : ∀ c ∈ rx_ch, ∀ w ∈ c, w ∈ lw_tbl := by
  intro c hc w hw
  simp only [rx_ch, List.mem_cons, List.not_mem_nil, or_false] at hc
  unfold lw_tbl tables_1
  simp only [List.mem_append]
  rcases hc with rfl | rfl | rfl | rfl | rfl | rfl | rfl | rfl | rfl | rfl <;> simp [hw]
/-- a word of the tables: its list, its place there -/
def rx_wq (p : Nat) : Option Cond := (rx_ch.getD (p / 256) [])[p % 256]?
theorem rx_wq_ok {p : Nat} {w : Cond} (h : rx_wq p = some w) : w ∈ lw_tbl := by
  unfold rx_wq at h
  rw [List.getD_eq_getElem?_getD] at h
  cases hc : rx_ch[p / 256]? with
  | none => rw [hc] at h; simp at h
  | some c => rw [hc] at h; exact rx_ch_ok c (List.mem_of_getElem? hc) w (List.mem_of_getElem? h)
def rx_wd (p : Nat) (w : Cond) : Bool := decide (rx_wq p = some w) && goodWord w
def rx_nd (p : Nat) (w : Cond) : Bool := decide (rx_wq p = some w) && rx_isN w
theorem rx_wd_ok {p : Nat} {w : Cond} (h : rx_wd p w = true) : w ∈ rx_words := by
  obtain ⟨h1, h2⟩ := rx_an h
  exact List.mem_filter.mpr ⟨rx_wq_ok (of_decide_eq_true h1), h2⟩
theorem rx_nd_ok {p : Nat} {w : Cond} (h : rx_nd p w = true) : w ∈ rx_NW := by
  obtain ⟨h1, h2⟩ := rx_an h
  exact List.mem_filter.mpr ⟨rx_wq_ok (of_decide_eq_true h1), h2⟩
def rx_ty (T : u_T) (k : Nat) : FieldType := (parseFieldDescriptor (T k).2.2.1).getD .int
/-- a class's words, its fields' types and names -/
def rx_clOk (q : vw_C) : Prop := (∀ w ∈ u_ws q.1 q.2.1 q.2.2, w ∈ rx_words) ∧ (∀ k, k < q.2.2 → parseFieldDescriptor (q.2.1 k).2.2.1 = some (rx_ty q.2.1 k)) ∧ (∀ a, a < q.2.2 → ∀ b, b < q.2.2 → a ≠ b → (q.2.1 a).2.1 ≠ (q.2.1 b).2.1)
def rx_nth (t : List Nat) (k : Nat) : Nat := t.getD k 0
/-- the instruction stands there, of this length -/
def rx_d1 (cc : ByteArray) (e : rx_E) (n : Nat) : Bool := decide (decode cc e.1 = .ok (e.2.1, n)) && Nat.beq e.2.2.1 n
def rx_lkb (own : String) (idx : Nat) (y : MethodName) (t : List Nat) : Bool := cond (Nat.beq (rx_nth t 1) 0) (rx_wd (rx_nth t 2) (.methodLink own idx y)) (rx_nd (rx_nth t 2) (.methodLinkNest own idx y "GreyRoute"))
theorem rx_lkb_ok {own : String} {idx : Nat} {y : MethodName} {t : List Nat} (h : rx_lkb own idx y t = true) : Cond.methodLink own idx y ∈ rx_words ∨ ∃ host, Cond.methodLinkNest own idx y host ∈ rx_NW := by
  unfold rx_lkb at h
  cases c : Nat.beq (rx_nth t 1) 0 with
  | true => rw [c] at h; exact Or.inl (rx_wd_ok h)
  | false => rw [c] at h; exact Or.inr ⟨_, rx_nd_ok h⟩
/-- a called method: its code is among the words, its frame is small, it takes so many -/
def rx_yb (Y : rx_Y) (t : List Nat) (n : Nat) : Bool := Nat.ble Y.2.2.1 45 && (rx_wd (rx_nth t 4) (.initialized Y.1.cls) && (decide (Y.1.cls ≠ "java/lang/invoke/MethodHandle" ∧ Y.1.cls ≠ "java/lang/invoke/VarHandle") && decide ((parseMethodDescriptor Y.1.desc).map (fun d => d.parameters.length) = some n)))
def rx_okb (mi : List rx_Y) (own nm : String) (cc : ByteArray) (e : rx_E) : Bool :=
  match e.2.1 with
  | .iconst z => rx_d1 cc e 1 && decide (Int32.ofInt z = nI e.2.2.2.1)
  | .bipush z => rx_d1 cc e 2 && decide ((Int8.ofInt z).toInt32 = nI e.2.2.2.1)
  | .sipush z => rx_d1 cc e 3 && decide ((Int16.ofInt z).toInt32 = nI e.2.2.2.1)
  | .ldc k => rx_d1 cc e 2 && cond (Nat.beq e.2.2.2.2.1 0) (rx_wd (rx_nth e.2.2.2.2.2.2 0) (.constant own k (nI e.2.2.2.1))) (decide (own = "GreyRoute$Words" ∧ k = 38))
  | .ldc_w k => rx_d1 cc e 3 && rx_wd (rx_nth e.2.2.2.2.2.2 0) (.constant own k (nI e.2.2.2.1))
  | .lconst n => rx_d1 cc e 1 && decide (Int64.ofNat (n : Nat) = lN e.2.2.2.1)
  | .ldc2_w k => rx_d1 cc e 3 && rx_wd (rx_nth e.2.2.2.2.2.2 0) (.constantLong own k (lN e.2.2.2.1))
  | .iload i => rx_d1 cc e 2 && Nat.beq i e.2.2.2.1
  | .lload i => rx_d1 cc e 2 && Nat.beq i e.2.2.2.1
  | .aload i => rx_d1 cc e 2 && Nat.beq i e.2.2.2.1
  | .istore i => rx_d1 cc e 2 && Nat.beq i e.2.2.2.1
  | .lstore i => rx_d1 cc e 2 && Nat.beq i e.2.2.2.1
  | .astore i => rx_d1 cc e 2 && Nat.beq i e.2.2.2.1
  | .iload_n i => rx_d1 cc e 1 && Nat.beq i.val e.2.2.2.1
  | .lload_n i => rx_d1 cc e 1 && Nat.beq i.val e.2.2.2.1
  | .aload_n i => rx_d1 cc e 1 && Nat.beq i.val e.2.2.2.1
  | .istore_n i => rx_d1 cc e 1 && Nat.beq i.val e.2.2.2.1
  | .lstore_n i => rx_d1 cc e 1 && Nat.beq i.val e.2.2.2.1
  | .astore_n i => rx_d1 cc e 1 && Nat.beq i.val e.2.2.2.1
  | .iinc i z => rx_d1 cc e 3 && (Nat.beq i e.2.2.2.1 && decide (Int32.ofInt z = nI e.2.2.2.2.1))
  | .iadd => rx_d1 cc e 1 | .isub => rx_d1 cc e 1 | .imul => rx_d1 cc e 1 | .ior => rx_d1 cc e 1 | .ixor => rx_d1 cc e 1 | .ishl => rx_d1 cc e 1 | .iushr => rx_d1 cc e 1 | .idiv => rx_d1 cc e 1 | .irem => rx_d1 cc e 1 | .iand => rx_d1 cc e 1 | .ishr => rx_d1 cc e 1
  | .i2c => rx_d1 cc e 1 | .i2b => rx_d1 cc e 1 | .i2l => rx_d1 cc e 1 | .l2i => rx_d1 cc e 1
  | .ladd => rx_d1 cc e 1 | .lsub => rx_d1 cc e 1 | .lmul => rx_d1 cc e 1 | .land => rx_d1 cc e 1 | .lor => rx_d1 cc e 1 | .ldiv => rx_d1 cc e 1 | .lrem => rx_d1 cc e 1 | .lcmp => rx_d1 cc e 1 | .lshl => rx_d1 cc e 1 | .lshr => rx_d1 cc e 1
  | .dup => rx_d1 cc e 1 | .dup2 => rx_d1 cc e 1 | .pop => rx_d1 cc e 1
  | .if_icmp _ off => rx_d1 cc e 3 && decide ((e.1 : Int) + off = (e.2.2.2.1 : Int))
  | .ifCond _ off => rx_d1 cc e 3 && decide ((e.1 : Int) + off = (e.2.2.2.1 : Int))
  | .goto off => rx_d1 cc e 3 && decide ((e.1 : Int) + off = (e.2.2.2.1 : Int))
  | .tableswitch d lo hi offs => decide (decode cc e.1 = .ok (e.2.1, e.2.2.1)) && (decide ((e.1 : Int) + d = (e.2.2.2.1 : Int) ∧ (e.2.2.2.2.1 : Int) = lo + 2147483648 ∧ (e.2.2.2.2.2.1 : Int) = hi + 2147483648) && (List.range e.2.2.2.2.2.2.length).all (fun j => decide (offs[j]? = some ((e.2.2.2.2.2.2.getD j 0 : Nat) - (e.1 : Int)))))
  | .getfield k => rx_d1 cc e 3 && cond (Nat.ble e.2.2.2.2.2.1 1) (match vwCl[e.2.2.2.1]? with
      | some (_, T, N) => Nat.blt e.2.2.2.2.1 N && cond (Nat.beq e.2.2.2.2.2.1 0) (rx_wd (rx_nth e.2.2.2.2.2.2 0) (.fieldLink own k (T e.2.2.2.2.1).1 (T e.2.2.2.2.1).2.1 (T e.2.2.2.2.1).2.2.1)) (rx_nd (rx_nth e.2.2.2.2.2.2 0) (.fieldLinkNest own k (T e.2.2.2.2.1).1 (T e.2.2.2.2.1).2.1 (T e.2.2.2.2.1).2.2.1 "GreyRoute"))
      | none => false) (cond (Nat.beq e.2.2.2.2.2.1 2) (rx_wd (rx_nth e.2.2.2.2.2.2 0) (.fieldLink own k "java/lang/String" "value" "[B")) (rx_wd (rx_nth e.2.2.2.2.2.2 0) (.fieldLink own k "java/lang/String" "coder" "B")))
  | .putfield k => rx_d1 cc e 3 && (match vwCl[e.2.2.2.1]? with
      | some (_, T, N) => Nat.blt e.2.2.2.2.1 N && (rx_wd (rx_nth e.2.2.2.2.2.2 0) (.fieldLink own k (T e.2.2.2.2.1).1 (T e.2.2.2.2.1).2.1 (T e.2.2.2.2.1).2.2.1) && (rx_kd e.2.2.2.2.2.1 (rx_ty T e.2.2.2.2.1) && cond (T e.2.2.2.2.1).2.2.2 (decide ((T e.2.2.2.2.1).1 = own ∧ nm = "<init>")) true))
      | none => false)
  | .getstatic k => rx_d1 cc e 3 && cond (Nat.beq e.2.2.2.1 0) (rx_wd (rx_nth e.2.2.2.2.2.2 0) (.fieldLink own k "java/lang/String" "COMPACT_STRINGS" "Z")) (cond (Nat.beq e.2.2.2.1 1) (rx_wd (rx_nth e.2.2.2.2.2.2 0) (.fieldLink own k "jdk/internal/util/Preconditions" "SIOOBE_FORMATTER" "Ljava/util/function/BiFunction;")) false)
  | .iaload => rx_d1 cc e 1 | .baload => rx_d1 cc e 1 | .laload => rx_d1 cc e 1 | .aaload => rx_d1 cc e 1
  | .iastore => rx_d1 cc e 1 | .bastore => rx_d1 cc e 1 | .lastore => rx_d1 cc e 1
  | .aastore => rx_d1 cc e 1 && (match vwCl[e.2.2.2.1]? with
      | some (C, _, _) => decide (C = "GreyRoute$State")
      | none => false)
  | .arraylength => rx_d1 cc e 1
  | .newarray at' => rx_d1 cc e 2 && (rx_wd (rx_nth e.2.2.2.2.2.2 0) (.arrayClass (newarray.typeOf at')) && (match at' with
      | .int => Nat.beq e.2.2.2.1 0
      | .byte => Nat.beq e.2.2.2.1 1
      | .boolean => Nat.beq e.2.2.2.1 2
      | .long => Nat.beq e.2.2.2.1 3
      | _ => false))
  | .anewarray k => rx_d1 cc e 3 && (Nat.beq e.2.2.2.1 4 && rx_wd (rx_nth e.2.2.2.2.2.2 0) (.classLink own k "GreyRoute$State"))
  | .new k => rx_d1 cc e 3 && (match vwCl[e.2.2.2.1]? with
      | some (C, _, N) => Nat.beq e.2.2.2.2.1 N && (rx_wd (rx_nth e.2.2.2.2.2.2 0) (.classLink own k C) && (rx_wd (rx_nth e.2.2.2.2.2.2 1) (.instantiable C N) && rx_wd (rx_nth e.2.2.2.2.2.2 2) (.initialized C)))
      | none => false)
  | .invokevirtual k => rx_d1 cc e 3 && (match mi[e.2.2.2.1]? with
      | some Y => rx_yb Y e.2.2.2.2.2.2 (e.2.2.2.2.1 - 1) && (Nat.blt 0 e.2.2.2.2.1 && (rx_lkb own k Y.1 e.2.2.2.2.2.2 && (rx_wd (rx_nth e.2.2.2.2.2.2 3) (.instanceMethod Y.1) && (rx_wd (rx_nth e.2.2.2.2.2.2 5) (.selects Y.1.cls Y.1 Y.1) && cond (Nat.beq e.2.2.2.2.2.1 1) (match vwCl[rx_nth e.2.2.2.2.2.2 0]? with
          | some (C, _, _) => decide (C = Y.1.cls)
          | none => false) (Nat.beq e.2.2.2.2.2.1 2 && decide (Y.1.cls = "java/lang/String"))))))
      | none => true)
  | .invokespecial k => rx_d1 cc e 3 && cond (Nat.beq e.2.2.2.2.2.1 3) (rx_wd (rx_nth e.2.2.2.2.2.2 2) (.methodLink own k objectInit) && (rx_wd (rx_nth e.2.2.2.2.2.2 3) (.instanceMethod objectInit) && rx_wd (rx_nth e.2.2.2.2.2.2 4) (.code objectInit ⟨#[0xb1]⟩ 1 none))) (match mi[e.2.2.2.1]? with
      | some Y => rx_yb Y e.2.2.2.2.2.2 (e.2.2.2.2.1 - 1) && (Nat.blt 0 e.2.2.2.2.1 && (rx_lkb own k Y.1 e.2.2.2.2.2.2 && (rx_wd (rx_nth e.2.2.2.2.2.2 3) (.instanceMethod Y.1) && decide (Y.1.name = "<init>" ∧ Y.2.2.2 = none))))
      | none => true)
  | .invokestatic k => rx_d1 cc e 3 && cond (Nat.beq e.2.2.2.2.2.1 4) (rx_wd (rx_nth e.2.2.2.2.2.2 2) (.methodLink own k arraycopyName) && (rx_wd (rx_nth e.2.2.2.2.2.2 3) (.native arraycopyName) && (rx_wd (rx_nth e.2.2.2.2.2.2 4) (.static arraycopyName) && rx_wd (rx_nth e.2.2.2.2.2.2 5) (.initialized "java/lang/System")))) (match mi[e.2.2.2.1]? with
      | some Y => rx_yb Y e.2.2.2.2.2.2 e.2.2.2.2.1 && (rx_lkb own k Y.1 e.2.2.2.2.2.2 && rx_wd (rx_nth e.2.2.2.2.2.2 3) (.static Y.1))
      | none => true)
  | .return_ => rx_d1 cc e 1 | .ireturn => rx_d1 cc e 1 | .lreturn => rx_d1 cc e 1
  | _ => true
theorem rx_d1_ok {cc : ByteArray} {e : rx_E} {n : Nat} (h : rx_d1 cc e n = true) : decode cc e.1 = .ok (e.2.1, n) ∧ e.2.2.1 = n := by
  obtain ⟨h1, h2⟩ := rx_an h
  exact ⟨of_decide_eq_true h1, rx_bq h2⟩
