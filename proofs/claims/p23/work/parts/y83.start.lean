/-! the law's start: the classes, the arrays' classes, the constants -/
def rx_dV : DecidableEq rx_V := inferInstance
def rx_dP : DecidableEq (Nat × rx_V) := letI := rx_dV; inferInstance
def rx_dL : DecidableEq (List (Nat × rx_V)) := letI := rx_dP; inferInstance
def rx_dS : DecidableEq (List rx_V) := letI := rx_dV; inferInstance
def rx_dO : DecidableEq (Nat × List rx_V) := letI := rx_dS; inferInstance
def rx_dA : DecidableEq (Nat × Nat × List (Nat × rx_V)) := letI := rx_dL; inferInstance
def rx_dC : DecidableEq rx_C := letI := rx_dO; letI := rx_dA; inferInstance
def rx_dW : DecidableEq (List rx_C) := letI := rx_dC; inferInstance
def rx_text : String := "place street to paces step for thing at pull stands clever heat hot year told been steps time loops if or and not all min max"
noncomputable def rx_G0 (F : rx_F) (sl : Nat) : rx_G := (F, true, sl, rx_txt, 125, rx_dfs)
def rx_clb (q : vw_C) (ps : List Nat) : Bool := (List.range q.2.2).all (fun k => rx_wd (ps.getD k 0) (u_lay q.1 q.2.1 k) && (parseFieldDescriptor (q.2.1 k).2.2.1).isSome) && (List.range q.2.2).all (fun a => (List.range a).all (fun b => decide ((q.2.1 a).2.1 ≠ (q.2.1 b).2.1)))
theorem rx_clb_ok {q : vw_C} {ps : List Nat} (h : rx_clb q ps = true) : rx_clOk q := by
  obtain ⟨h1, h2⟩ := rx_an h
  have h1 := List.all_eq_true.mp h1
  have h2 := List.all_eq_true.mp h2
  refine ⟨fun w hw => ?_, fun k hk => ?_, fun a ha b hb hab => ?_⟩
  · obtain ⟨k, hk, rfl⟩ := List.mem_map.mp hw
    exact rx_wd_ok (rx_an (h1 k hk)).1
  · have h3 := (rx_an (h1 k (List.mem_range.mpr hk))).2
    obtain ⟨t, ht⟩ := Option.isSome_iff_exists.mp h3
    unfold rx_ty
    rw [ht]
    rfl
  · rcases Nat.lt_or_ge b a with z | z
    · exact of_decide_eq_true (List.all_eq_true.mp (h2 a (List.mem_range.mpr ha)) b (List.mem_range.mpr z))
    · have z : a < b := by omega
      exact fun e => of_decide_eq_true (List.all_eq_true.mp (h2 b (List.mem_range.mpr hb)) a (List.mem_range.mpr z)) e.symm
def rx_dfv (ty : FieldType) : rx_V := match ty with
  | .long => .inr (.inl (.inl 0))
  | .object _ => .inr (.inr (.inl none))
  | .array _ => .inr (.inr (.inl none))
  | _ => .inl (.inl 0)
def rx_okty (ty : FieldType) : Bool := match ty with
  | .float => false
  | .double => false
  | _ => true
theorem rx_dfv_ok (X : rx_X) {ty : FieldType} (h : rx_okty ty = true) : defaultValue ty = rx_d X (rx_dfv ty) := by
  cases ty <;> first | (cases h; done) | rfl
def rx_dfb (q : vw_C) (df : List rx_V) : Bool := (List.range q.2.2).all (fun k => @decide _ (rx_dV (df.getD k (.inl (.inl 7))) (rx_dfv (rx_ty q.2.1 k))) && (rx_okty (rx_ty q.2.1 k) && Nat.blt k df.length))
theorem rx_dfb_ok {q : vw_C} {df : List rx_V} (h : rx_dfb q df = true) (X : rx_X) : ∀ j, j < q.2.2 → defaultValue (rx_ty q.2.1 j) = vp_V (df.map (rx_d X)) j := by
  intro j hj
  obtain ⟨h1, h2⟩ := rx_an (List.all_eq_true.mp h j (List.mem_range.mpr hj))
  obtain ⟨h2, h3⟩ := rx_an h2
  have h3 := rx_bt h3
  have h1 := @of_decide_eq_true _ (rx_dV _ _) h1
  rw [rx_dfv_ok X h2, ← h1]
  unfold vp_V
  rw [List.getD_eq_getElem?_getD, List.getD_eq_getElem?_getD, List.getElem?_map, List.getElem?_eq_getElem h3]
  rfl
theorem rx_cls0 : (List.range 13).all (fun k => rx_clb (vwCl.getD k ("", fun _ => ("", "", "", false), 0)) (rx_lps.getD k [])) = true := by decide +kernel
theorem rx_dfs0 : (List.range 13).all (fun k => rx_dfb (vwCl.getD k ("", fun _ => ("", "", "", false), 0)) (rx_dfs.getD k [])) = true := by decide +kernel
theorem rx_ins0 : (List.range 13).all (fun k => rx_wd (rx_ips.getD k 0) (Cond.instantiable (vwCl.getD k ("", fun _ => ("", "", "", false), 0)).1 (vwCl.getD k ("", fun _ => ("", "", "", false), 0)).2.2)) = true := by decide +kernel
theorem rx_Gok0 (F : rx_F) (sl : Nat) : rx_Gok (rx_G0 F sl) := by
  refine ⟨fun a q hq => ?_, fun X a q df hq hdf => ?_, (by show rx_txt.length = 125; decide +kernel), (by show (125 : Nat) < 2147483648; decide)⟩
  · have hlt : a < 13 := (List.getElem?_eq_some_iff.mp hq).1
    have h := List.all_eq_true.mp rx_cls0 a (List.mem_range.mpr hlt)
    rw [List.getD_eq_getElem?_getD, hq] at h
    exact rx_clb_ok h
  · have hlt : a < 13 := (List.getElem?_eq_some_iff.mp hq).1
    have h := List.all_eq_true.mp rx_dfs0 a (List.mem_range.mpr hlt)
    have hdf : rx_dfs[a]? = some df := hdf
    rw [List.getD_eq_getElem?_getD, hq, List.getD_eq_getElem?_getD, hdf] at h
    exact rx_dfb_ok h X
theorem rx_nest_on {w : Cond} (h : rx_isN w = true) : w.onTables = true := by
  cases w <;> first | rfl | (cases h; done)
theorem rx_txt_map (j : Nat) : (rx_txt.map nI).getD j 0 = nI (rx_txt.getD j 0) := by
  rw [List.getD_eq_getElem?_getD, List.getD_eq_getElem?_getD, List.getElem?_map]
  cases rx_txt[j]? <;> rfl
abbrev rx_str : Term := .string "GreyRoute$Words" 38
abbrev rx_val : Term := .field rx_str "java/lang/String" "value" "[B"
theorem rx_el : (List.range 125).all (fun j => decide (Cond.eq (.elem rx_val (.int (Int32.ofNat j))) (.int ((rx_txt.map nI).getD j 0)) ∈ flatC (Jvm.Cond.and given_1 narrow_1))) = true := by decide +kernel
theorem rx_start {p : Program} {s : State} {m : MethodId} {meth : Method} {c : Code} {b L : Nat} {xs : Nat → Int32} (C0 : lw_At p s m meth c b L xs) : ∃ (X : rx_X) (D : va_G), X.1 = xs ∧ X.2.1 = s.heap.size ∧ X.2.2.1 0 = some b ∧ ∀ (F : rx_F) (sl : Nat), (sl = 0 ∨ sl = L + 1) → rx_U0 X D (rx_G0 F sl) s := by
  obtain ⟨hx, hb, hr, hml, hown, hts, hX, hbl, hlocks, hgv⟩ := C0
  have hf := flat_of_before _ hgv
  have hA : ∀ a : Nat, a < s.heap.size → ¬ (fun q : Nat => s.heap.size ≤ q) a := fun a h => Nat.not_le.mpr h
  have hw : ∀ w ∈ rx_words, w.before #[Value.ref b] s = true := fun w h => hts w (List.mem_filter.mp h).1
  -- the classes
  have h1 : ∀ k : Nat, ∃ z : ClassId × (Nat → Nat), ∀ q : vw_C, vwCl[k]? = some q → u_Kn s q.1 q.2.1 q.2.2 z.1 z.2 := by
    intro k
    cases hk : vwCl[k]? with
    | none => exact ⟨(0, fun _ => 0), fun q h => by cases h⟩
    | some q =>
      have hlt : k < 13 := (List.getElem?_eq_some_iff.mp hk).1
      have hi := List.all_eq_true.mp rx_ins0 k (List.mem_range.mpr hlt)
      have hg : vwCl.getD k ("", fun _ => ("", "", "", false), 0) = q := by rw [List.getD_eq_getElem?_getD, hk]; rfl
      rw [hg] at hi
      have hc := (rx_Gok0 [] L).1 k q hk
      obtain ⟨cC, iS, hKn⟩ := u_known (n := q.2.2) hw hc.1 (hw _ (rx_wd_ok hi))
      exact ⟨(cC, iS), fun q' h => by cases h; exact hKn⟩
  obtain ⟨f, hf1⟩ := Classical.axiomOfChoice h1
  -- the arrays' classes
  have harr : ∀ ty : FieldType, Cond.arrayClass ty ∈ lw_tbl → ∃ cA : ClassId, ArrOfT s cA ty ∧ s.vm.findClass ("[" ++ ty.toString) = some cA := by
    intro ty hm
    obtain ⟨cA, k, comp, g1, g2, g3⟩ := Cond.arrayClass_spec (hts _ hm)
    exact ⟨cA, fun n z => ⟨fun k h => (by cases h), k, g2, comp, g3⟩, g1⟩
  obtain ⟨c0, a0, b0⟩ := harr .int (rx_wq_ok (p := 341) (by decide +kernel))
  obtain ⟨c1, a1, b1⟩ := harr .byte (rx_wq_ok (p := 306) (by decide +kernel))
  obtain ⟨c2, a2, b2⟩ := harr .boolean (rx_wq_ok (p := 1835) (by decide +kernel))
  obtain ⟨c3, a3, b3⟩ := harr .long (rx_wq_ok (p := 431) (by decide +kernel))
  have hover := hts (Cond.arrayOver (.object "GreyRoute$State")) (rx_wq_ok (p := 375) (by decide +kernel))
  obtain ⟨comp, c4, k4, o1, o2, o3, o4, o5⟩ := Cond.arrayOver_spec hover
  -- the text
  obtain ⟨adK, adV, hvk, had⟩ := vk_Sof (args := #[Value.ref b]) (s := s) (N := 1) (tm := fun _ => rx_str) (len := [125]) (byt := [rx_txt.map nI]) (A := fun q : Nat => s.heap.size ≤ q)
    (fun i hi => by rcases (show i = 0 by omega) with rfl; decide)
    (fun i hi => hf _ (by decide +kernel)) (fun i hi => hf _ (by decide +kernel)) (fun i hi => hf _ (by decide +kernel))
    (fun i hi => by rcases (show i = 0 by omega) with rfl; exact hf _ (by decide +kernel))
    (fun i hi j hj => by rcases (show i = 0 by omega) with rfl; exact hf _ (of_decide_eq_true (List.all_eq_true.mp rx_el j (List.mem_range.mpr hj))))
    (fun i j hi hj hij => absurd (show i = j by omega) hij) hA
  obtain ⟨t1, t2, t3, t4⟩ := hvk.1 0 (by decide)
  have hstr := hts (Cond.stringRef "GreyRoute$Words" 38 rx_text) (rx_wq_ok (p := 575) (by decide +kernel))
  -- the statics
  have hz1 := va_Zof (A := fun q : Nat => s.heap.size ≤ q) (hts (Cond.laysStatic "java/lang/String" "COMPACT_STRINGS" "Z") (by decide +kernel)) (hts (Cond.initialized "java/lang/String") (by decide +kernel)) (va_eqi (hf (Cond.eq (.static "java/lang/String" "COMPACT_STRINGS" "Z") (.int 1)) (by decide +kernel))) hA
  have hz2 := va_Zqof (A := fun q : Nat => s.heap.size ≤ q) (hts (Cond.laysStatic "jdk/internal/util/Preconditions" "SIOOBE_FORMATTER" "Ljava/util/function/BiFunction;") (by decide +kernel)) (hts (Cond.initialized "jdk/internal/util/Preconditions") (by decide +kernel)) (hf (Cond.isRef (.static "jdk/internal/util/Preconditions" "SIOOBE_FORMATTER" "Ljava/util/function/BiFunction;")) (by decide +kernel)) hA
  obtain ⟨o, hz2⟩ : ∃ o : Option Nat, va_Z "jdk/internal/util/Preconditions" "SIOOBE_FORMATTER" "Ljava/util/function/BiFunction;" (va_rf o) (fun q : Nat => s.heap.size ≤ q) s s.heap := by
    rcases hz2 with z | ⟨t, z⟩
    · exact ⟨none, z⟩
    · exact ⟨some t, z⟩
  refine ⟨(xs, s.heap.size, fun j => match j with | 0 => some b | 1 => some (adK 0) | 2 => some (adV 0) | _ => o, fun t => match t with | 0 => c0 | 1 => c1 | 2 => c2 | 3 => c3 | _ => c4), (fun k => (f k).1, fun k => (f k).2), rfl, rfl, rfl, fun F sl hsl => ?_⟩
  refine ⟨⟨fun k q hk => hf1 k q hk, fun k q hk => ?_⟩, fun w hw => va_Nw.of (rx_nest_on (List.mem_filter.mp hw).2) (hts w (List.mem_filter.mp hw).1), va_AO.of hover, ⟨b, rfl, fun h9 => by
    have e9 : sl - 1 = L := by
      have h9 : 0 < sl := h9
      omega
    show va_X b (sl - 1) xs s s.heap
    rw [e9]; exact hX, hbl⟩, ⟨adK 0, adV 0, rx_text, rfl, rfl, vk_R.of hstr (had 0 (by decide)), t1, t2, t3, ?_⟩, hz1, hz2, Nat.le_refl _⟩
  · match k, hk with
    | 0, hk => cases hk; exact ⟨a0, b0⟩
    | 1, hk => cases hk; exact ⟨a1, b1⟩
    | 2, hk => cases hk; exact ⟨a2, b2⟩
    | 3, hk => cases hk; exact ⟨a3, b3⟩
    | 4, hk => cases hk; exact ⟨fun n z => ⟨fun k h => (by cases h), k4, o3, comp, o4⟩, k4, comp, o3, o4, o1, o5⟩
    | k + 5, hk => simp [rx_tys] at hk
  · have e : (fun j => Value.int (nI (rx_txt.getD j 0))) = fun j => Value.int (([rx_txt.map nI].getD 0 []).getD j 0) := by
      funext j
      exact congrArg Value.int (rx_txt_map j).symm
    show va_T .byte (adV 0) 125 (fun j => .int (nI (rx_txt.getD j 0))) _ s s.heap
    rw [e]
    exact t4
