/-! THE LAW IN THE SECOND LAYER: from its loop's head on nothing is made; the script's ints are values -/
theorem zsI_toInt (x : Int32) : zsI x.toInt := by
  have h1 := rx_b_int x
  have h2 := rx_b_lt x
  unfold zsI
  omega
abbrev lWt : Type := Nat → rx_L → List rx_V → List rx_C → Prop
noncomputable def lG (N : Nat) : rx_G := rx_G0 [] (N + 1)
def LKg (Wl : lWt) (pc : Nat) (L : zL) (S : List zV) (st : zS) : Prop := ∀ w : List rx_C, zR zSh st w → Wl pc (zLm L) (zSm S) w
def LKd (Wl : lWt) : zG := fun cs L S st => cs ≠ [] ∧ ((∃ pre, rx_mL = pre ++ cs) → zsk zSh st → (∀ q ∈ L, zok q.2) → (∀ v ∈ S, zok v) → LKg Wl (zpc cs) L S st)
/-- a step of the executor is one of the machine's -/
def lst (l : Launch) (d : Nat) (X : rx_X) (D : va_G) (N : Nat) (Wl : lWt) : Prop := ∀ (en : rx_E) (rest T : List rx_E) (L L1 : rx_L) (S S1 : List rx_V) (w w1 : List rx_C) (ex : Nat → List rx_V → List rx_C → Option (Option rx_V × List rx_C)), rx_okb rx_mis "GreyRouteLaw" "law" code en = true → (rest = T → zpc T = en.1 + en.2.2.1) → (∀ t, rx_find rx_mL t = T → zpc T = t) → (∀ (nu : Nat) (as : List rx_V) (w : List rx_C) (r' : Option rx_V) (w' : List rx_C), ex nu as w = some (r', w') → ∃ Y, rx_mis[nu]? = some Y ∧ Cond.code Y.1 Y.2.1 Y.2.2.1 Y.2.2.2 ∈ rx_words ∧ rx_Met l d 0 0 Y X D (lG N) as w r' w') → (∀ K : rx_K, rx_step (lG N) rx_mL 4 600000 7302250 (fun _ => (0, 0)) ex K en rest L S w 221 26609 = K T L1 S1 w1 221 26609) → Wl (zpc T) L1 S1 w1 → Wl en.1 L S w
/-- the same stack in other words -/
def lwo (X : rx_X) (Wl : lWt) : Prop := ∀ (pc : Nat) (L : rx_L) (S S' : List rx_V) (w : List rx_C), S'.map (rx_d X) = S.map (rx_d X) → Wl pc L S w → Wl pc L S' w
/-- the law's end -/
def lnd (Wl : lWt) : Prop := ∀ (en : rx_E) (L : rx_L) (w : List rx_C), rx_okb rx_mis "GreyRouteLaw" "law" code en = true → en.2.1 = .ireturn → Wl en.1 L [.inl (.inl 1)] w
section LWZ
variable {l : Launch} {d : Nat} {X : rx_X} {D : va_G} {N : Nat} {Wl : lWt} {rest : List rx_E} {L : zL} {S : List zV} {st : zS} {en : rx_E} {xs : Nat → Int32}
def lB (en : rx_E) (rest : List rx_E) (L : zL) (S : List zV) (st : zS) : Prop := rx_okb rx_mis "GreyRouteLaw" "law" code en = true ∧ (∃ pre, rx_mL = pre ++ en :: rest) ∧ zsk zSh st ∧ (∀ q ∈ L, zok q.2) ∧ ∀ v ∈ S, zok v
noncomputable abbrev lSt (N : Nat) (K : rx_K) (en : rx_E) (rest : List rx_E) (L : zL) (S : List zV) (w : List rx_C) : Option rx_R := rx_step (lG N) rx_mL 4 600000 7302250 (fun _ => (0, 0)) zex0 K en rest (zLm L) (zSm S) w 221 26609
theorem lgoB (hW : lst l d X D N Wl) (B : lB en rest L S st) {T : List rx_E} {L1 : zL} {S1 : List zV} {st1 : zS} (hT : T = rest ∨ ∃ t, T = rx_find rx_mL t) (hK : LKd Wl T L1 S1 st1) (hst : zsk zSh st1) (hL : ∀ q ∈ L1, zok q.2) (hS : ∀ v ∈ S1, zok v) (h : ∀ w : List rx_C, zR zSh st w → ∃ w1 : List rx_C, zR zSh st1 w1 ∧ ∀ K : rx_K, lSt N K en rest L S w = K T (zLm L1) (zSm S1) w1 221 26609) : LKg Wl en.1 L S st := by
  obtain ⟨b1, ⟨pre, b2⟩, -⟩ := B
  obtain ⟨hne, hK⟩ := hK
  have hpre : ∃ pre, rx_mL = pre ++ T := by
    rcases hT with rfl | ⟨t, rfl⟩
    · exact ⟨pre ++ [en], by rw [b2, List.append_assoc]; rfl⟩
    · rcases rx_find_ok rx_mL t with h3 | ⟨pre2, e2, rest2, h3, h4, h5⟩
      · exact absurd h3 hne
      · exact ⟨pre2, by rw [h4]; exact h3⟩
  have hk := hK hpre hst hL hS
  intro w hw
  obtain ⟨w1, k1, k2⟩ := h w hw
  refine hW en rest T _ _ _ _ w w1 zex0 b1 (fun e1 => ?_) (fun t e => zfind_pc hne e) (fun nu as w r' w' hq => by cases hq) k2 (hk w1 k1)
  subst e1
  exact zrest_pc rx_mL_sq b2 hne
theorem lc_cst (hW : lst l d X D N Wl) (B : lB en rest L S st) {a : Nat} (h : zcst (LKd Wl) rest a L S st) (he : ∀ (K : rx_K) (w : List rx_C), lSt N K en rest L S w = K rest (zLm L) (.inl (.inl a) :: zSm S) w 221 26609) : LKg Wl en.1 L S st := by
  unfold zcst at h
  cases c : Nat.blt a 4294967296 with
  | false => rw [c] at h; exact absurd h id
  | true =>
    rw [c] at h
    have c := rx_bt c
    obtain ⟨-, -, hst, hL, hS⟩ := id B
    refine lgoB hW B (Or.inl rfl) h hst hL (zcons (P := zok) (zd_ok c) hS) (fun w hw => ⟨w, hw, fun K => ?_⟩)
    rw [he]
    show _ = K rest (zLm L) (.inl (.inl (zi (zd a))) :: zSm S) w 221 26609
    rw [zi_zd c]
theorem lc_ldI (hW : lst l d X D N Wl) (B : lB en rest L S st) {a : Nat} (h : zldI (LKd Wl) rest a L S st) (he : ∀ (K : rx_K) (w : List rx_C), lSt N K en rest L S w = rx_ld 0 K rest a (zLm L) (zSm S) w 221 26609) : LKg Wl en.1 L S st := by
  obtain ⟨v, h1, h2, h3⟩ := zget_ok h
  obtain ⟨-, -, hst, hL, hS⟩ := id B
  rcases v with x | (x | x)
  · refine lgoB hW B (Or.inl rfl) h2 hst hL (zcons (P := zok) (hL _ h1) hS) (fun w hw => ⟨w, hw, fun K => ?_⟩)
    rw [he]
    unfold rx_ld
    rw [h3]
    rfl
  · exact absurd h2 id
  · exact absurd h2 id
theorem lc_ldA (hW : lst l d X D N Wl) (B : lB en rest L S st) {a : Nat} (h : zldA (LKd Wl) rest a L S st) (he : ∀ (K : rx_K) (w : List rx_C), lSt N K en rest L S w = rx_ld 2 K rest a (zLm L) (zSm S) w 221 26609) : LKg Wl en.1 L S st := by
  obtain ⟨v, h1, h2, h3⟩ := zget_ok h
  obtain ⟨-, -, hst, hL, hS⟩ := id B
  rcases v with x | (x | (x | x))
  · exact absurd h2 id
  · exact absurd h2 id
  · refine lgoB hW B (Or.inl rfl) h2 hst hL (zcons (P := zok) (hL _ h1) hS) (fun w hw => ⟨w, hw, fun K => ?_⟩)
    rw [he]
    unfold rx_ld
    rw [h3]
    rfl
  · refine lgoB hW B (Or.inl rfl) h2 hst hL (zcons (P := zok) (hL _ h1) hS) (fun w hw => ⟨w, hw, fun K => ?_⟩)
    rw [he]
    unfold rx_ld
    rw [h3]
    rfl
theorem lc_inc (hW : lst l d X D N Wl) (B : lB en rest L S st) {a b : Nat} (h : zinc 4 (LKd Wl) rest a b L S st) (he : ∀ (K : rx_K) (w : List rx_C), lSt N K en rest L S w = rx_ii 4 K rest a b (zLm L) (zSm S) w 221 26609) : LKg Wl en.1 L S st := by
  obtain ⟨v, h1, h2, h3⟩ := zget_ok h
  obtain ⟨-, -, hst, hL, hS⟩ := id B
  rcases v with x | (x | x)
  · cases c : (Nat.blt a 4 && Nat.blt b 4294967296) with
    | false => simp only [c] at h2; exact absurd h2 id
    | true =>
      simp only [c] at h2
      obtain ⟨c1, c2⟩ := rx_an c
      have c2 := rx_bt c2
      refine lgoB hW B (Or.inl rfl) h2 hst (zconsL (zw_ok _) hL) hS (fun w hw => ⟨w, hw, fun K => ?_⟩)
      rw [he]
      unfold rx_ii
      rw [h3]
      show cond (Nat.blt a 4) (rx_fN ((zi x + b) % 4294967296) (fun z => rx_rem (rx_P1 a) (zLm L) (fun L' => K rest ((a, .inl (.inl z)) :: L') (zSm S) w 221 26609))) none = _
      rw [c1, rx_fN_eq]
      show rx_rem (rx_P1 a) (zLm L) _ = _
      rw [rx_rem_eq, zfil1]
      have e : (zi x + b) % 4294967296 = zi (zw (x + zd b)) := by
        rw [← zi_add, zi_zd c2]
      rw [e]
      rfl
  · exact absurd h2 id
  · exact absurd h2 id
theorem lc_2 (hW : lst l d X D N Wl) (B : lB en rest L S st) {f : Int → Int → Int} {g : Nat → Nat → Bool} {fN : Nat → Nat → Nat} (h : z2 f (LKd Wl) rest L S st) (hf : ∀ x y : Int, zsI x → zsI y → g (zi x) (zi y) = true ∧ fN (zi x) (zi y) = zi (f x y) ∧ zsI (f x y)) (he : ∀ (K : rx_K) (w : List rx_C), lSt N K en rest L S w = rx_o2 g fN K rest (zLm L) (zSm S) w 221 26609) : LKg Wl en.1 L S st := by
  unfold z2 at h
  split at h
  · rename_i y x S'
    obtain ⟨-, -, hst, hL, hS⟩ := id B
    obtain ⟨f1, f2, f3⟩ := hf x y (hS (.inl x) (List.mem_cons_of_mem _ List.mem_cons_self)) (hS (.inl y) List.mem_cons_self)
    refine lgoB hW B (Or.inl rfl) h hst hL (zcons (P := zok) f3 (fun v hv => hS v (List.mem_cons_of_mem _ (List.mem_cons_of_mem _ hv)))) (fun w hw => ⟨w, hw, fun K => ?_⟩)
    rw [he]
    show cond (g (zi x) (zi y)) (rx_fN (fN (zi x) (zi y)) (fun z => K rest (zLm L) (.inl (.inl z) :: zSm S') w 221 26609)) none = _
    rw [f1, rx_fN_eq, f2]
    rfl
  · exact absurd h id
theorem lc_2u (hW : lst l d X D N Wl) (B : lB en rest L S st) {f : Int → Int → Int} {o : Nat} {g : Nat → Nat → Bool} {fN : Nat → Nat → Nat} (h : z2 f (LKd Wl) rest L S st) (hf : ∀ x y : Int, zsI x → zsI y → g (zi x) (zi y) = true ∧ fN (zi x) (zi y) = zi (f x y) ∧ zsI (f x y)) (he : ∀ (K : rx_K) (w : List rx_C), lSt N K en rest L S w = rx_o2u (lG N).1 o g fN K rest (zLm L) (zSm S) w 221 26609) : LKg Wl en.1 L S st := by
  unfold z2 at h
  split at h
  · rename_i y x S'
    obtain ⟨-, -, hst, hL, hS⟩ := id B
    obtain ⟨f1, f2, f3⟩ := hf x y (hS (.inl x) (List.mem_cons_of_mem _ List.mem_cons_self)) (hS (.inl y) List.mem_cons_self)
    refine lgoB hW B (Or.inl rfl) h hst hL (zcons (P := zok) f3 (fun v hv => hS v (List.mem_cons_of_mem _ (List.mem_cons_of_mem _ hv)))) (fun w hw => ⟨w, hw, fun K => ?_⟩)
    rw [he]
    show cond (g (zi x) (zi y)) (rx_fN (fN (zi x) (zi y)) (fun z => K rest (zLm L) (.inl (.inl z) :: zSm S') w 221 26609)) none = _
    rw [f1, rx_fN_eq, f2]
    rfl
  · exact absurd h id
theorem lc_pop (hW : lst l d X D N Wl) (B : lB en rest L S st) (h : zpop (LKd Wl) rest L S st) (he : ∀ (K : rx_K) (w : List rx_C), lSt N K en rest L S w = rx_pop K rest (zLm L) (zSm S) w 221 26609) : LKg Wl en.1 L S st := by
  unfold zpop at h
  split at h
  · rename_i v S'
    obtain ⟨-, -, hst, hL, hS⟩ := id B
    cases c : Nat.beq (zcat v) 1 with
    | false => rw [c] at h; exact absurd h id
    | true =>
      rw [c] at h
      refine lgoB hW B (Or.inl rfl) h hst hL (fun u hu => hS u (List.mem_cons_of_mem _ hu)) (fun w hw => ⟨w, hw, fun K => ?_⟩)
      rw [he]
      show cond (Nat.beq (rx_cat (zv v)) 1) (K rest (zLm L) (zSm S') w 221 26609) none = _
      rw [zcat_v, c]
      rfl
  · exact absurd h id
theorem lc_icm (hW : lst l d X D N Wl) (B : lB en rest L S st) {c : Jvm.ClassFile.Cond} {a : Nat} (h : zicm c (LKd Wl) (rx_find rx_mL a) rest L S st) (he : ∀ (K : rx_K) (w : List rx_C), lSt N K en rest L S w = rx_ic (lG N).1 c rx_mL K rest a (zLm L) (zSm S) w 221 26609) : LKg Wl en.1 L S st := by
  unfold zicm at h
  split at h
  · rename_i y x S'
    obtain ⟨-, -, hst, hL, hS⟩ := id B
    have hx : zsI x := hS (.inl x) (List.mem_cons_of_mem _ List.mem_cons_self)
    have hy : zsI y := hS (.inl y) List.mem_cons_self
    have hS' : ∀ v ∈ S', zok v := fun v hv => hS v (List.mem_cons_of_mem _ (List.mem_cons_of_mem _ hv))
    by_cases k : zcmp c x y
    · refine lgoB hW B (Or.inr ⟨a, rfl⟩) (h.1 k) hst hL hS' (fun w hw => ⟨w, hw, fun K => ?_⟩)
      rw [he]
      exact (zcmp_rx (lG N).1 c hx hy (K (rx_find rx_mL a) (zLm L) (zSm S') w 221 26609) (K rest (zLm L) (zSm S') w 221 26609)).1 k
    · refine lgoB hW B (Or.inl rfl) (h.2 k) hst hL hS' (fun w hw => ⟨w, hw, fun K => ?_⟩)
      rw [he]
      exact (zcmp_rx (lG N).1 c hx hy (K (rx_find rx_mL a) (zLm L) (zSm S') w 221 26609) (K rest (zLm L) (zSm S') w 221 26609)).2 k
  · exact absurd h id
theorem lc_ifc (hW : lst l d X D N Wl) (B : lB en rest L S st) {c : Jvm.ClassFile.Cond} {a : Nat} (h : zifc c (LKd Wl) (rx_find rx_mL a) rest L S st) (he : ∀ (K : rx_K) (w : List rx_C), lSt N K en rest L S w = rx_if (lG N).1 c rx_mL K rest a (zLm L) (zSm S) w 221 26609) : LKg Wl en.1 L S st := by
  unfold zifc at h
  split at h
  · rename_i x S'
    obtain ⟨-, -, hst, hL, hS⟩ := id B
    have hx : zsI x := hS (.inl x) List.mem_cons_self
    have hy : zsI 0 := by unfold zsI; omega
    have hS' : ∀ v ∈ S', zok v := fun v hv => hS v (List.mem_cons_of_mem _ hv)
    by_cases k : zcmp c x 0
    · refine lgoB hW B (Or.inr ⟨a, rfl⟩) (h.1 k) hst hL hS' (fun w hw => ⟨w, hw, fun K => ?_⟩)
      rw [he]
      exact (zcmp_rx (lG N).1 c hx hy (K (rx_find rx_mL a) (zLm L) (zSm S') w 221 26609) (K rest (zLm L) (zSm S') w 221 26609)).1 k
    · refine lgoB hW B (Or.inl rfl) (h.2 k) hst hL hS' (fun w hw => ⟨w, hw, fun K => ?_⟩)
      rw [he]
      exact (zcmp_rx (lG N).1 c hx hy (K (rx_find rx_mL a) (zLm L) (zSm S') w 221 26609) (K rest (zLm L) (zSm S') w 221 26609)).2 k
  · exact absurd h id
theorem lc_goto (hW : lst l d X D N Wl) (B : lB en rest L S st) {a : Nat} (h : LKd Wl (rx_find rx_mL a) L S st) (he : ∀ (K : rx_K) (w : List rx_C), lSt N K en rest L S w = K (rx_find rx_mL a) (zLm L) (zSm S) w 221 26609) : LKg Wl en.1 L S st := by
  obtain ⟨-, -, hst, hL, hS⟩ := id B
  exact lgoB hW B (Or.inr ⟨a, rfl⟩) h hst hL hS (fun w hw => ⟨w, hw, fun K => he K w⟩)
theorem lc_sw (hW : lst l d X D N Wl) (B : lB en rest L S st) {a b c : Nat} {t : List Nat} (h : zsw rx_mL (LKd Wl) a b c t L S st) (he : ∀ (K : rx_K) (w : List rx_C), lSt N K en rest L S w = rx_sw (lG N).1 rx_mL K a b c t (zLm L) (zSm S) w 221 26609) : LKg Wl en.1 L S st := by
  unfold zsw at h
  split at h
  · rename_i x S'
    obtain ⟨-, -, hst, hL, hS⟩ := id B
    have hx : zsI x := hS (.inl x) List.mem_cons_self
    have hS' : ∀ v ∈ S', zok v := fun v hv => hS v (List.mem_cons_of_mem _ hv)
    cases k : Nat.beq (b + t.length) (c + 1) with
    | false => rw [k] at h; exact absurd h id
    | true =>
      rw [k] at h
      have k := rx_bq k
      obtain ⟨h1, h2, h3⟩ := h
      have e : ∀ (K : rx_K) (w : List rx_C), lSt N K en rest L (.inl x :: S') w = cond (Nat.blt (x + 2147483648).toNat b || Nat.blt c (x + 2147483648).toNat) (K (rx_find rx_mL a) (zLm L) (zSm S') w 221 26609) (cond (Nat.beq (x + 2147483648).toNat (x + 2147483648).toNat) (rx_at t ((x + 2147483648).toNat - b) (fun g => K (rx_find rx_mL g) (zLm L) (zSm S') w 221 26609)) none) := fun K w => by
        rw [he, ← zi_bias hx]
        rfl
      unfold zsI at hx
      by_cases c1 : x < (b : Int) - 2147483648
      · refine lgoB hW B (Or.inr ⟨a, rfl⟩) (h1 c1) hst hL hS' (fun w hw => ⟨w, hw, fun K => ?_⟩)
        rw [e, zblt, decide_eq_true (show (x + 2147483648).toNat < b by omega)]
        rfl
      · by_cases c2 : (c : Int) - 2147483648 < x
        · refine lgoB hW B (Or.inr ⟨a, rfl⟩) (h2 c2) hst hL hS' (fun w hw => ⟨w, hw, fun K => ?_⟩)
          rw [e, zblt, zblt, decide_eq_false (show ¬ (x + 2147483648).toNat < b by omega), decide_eq_true (show c < (x + 2147483648).toNat by omega)]
          rfl
        · have hj : (x + 2147483648).toNat - b < t.length := by omega
          have hg : t[(x + 2147483648).toNat - b]? = some (t[(x + 2147483648).toNat - b]'hj) := List.getElem?_eq_getElem hj
          refine lgoB hW B (Or.inr ⟨_, rfl⟩) (zsws_at h3 hg (by omega)) hst hL hS' (fun w hw => ⟨w, hw, fun K => ?_⟩)
          rw [e, zblt, zblt, decide_eq_false (show ¬ (x + 2147483648).toNat < b by omega), decide_eq_false (show ¬ c < (x + 2147483648).toNat by omega), zbeq, zat_eq _ hg]
          simp
  · exact absurd h id
theorem lc_call (hW : lst l d X D N Wl) (B : lB en rest L S st) {nu : Nat} {as S' : List zV} (has : ∀ v ∈ as, zok v) (hS' : ∀ v ∈ S', zok v) (h : zOk l d X D (lG N) zSh rx_mis nu as st (fun r st' => LKd Wl rest L (zpush r S') st'))
    (he : ∀ (K : rx_K) (w : List rx_C) (r : Option zV) (w1 : List rx_C) (ex : Nat → List rx_V → List rx_C → Option (Option rx_V × List rx_C)), zR zSh st w → ex nu (zSm as) w = some (r.map zv, w1) → rx_step (lG N) rx_mL 4 600000 7302250 (fun _ => (0, 0)) ex K en rest (zLm L) (zSm S) w 221 26609 = K rest (zLm L) (zSm (zpush r S')) w1 221 26609) : LKg Wl en.1 L S st := by
  obtain ⟨b2, ⟨pre, b5⟩, hst, hL, hS⟩ := id B
  obtain ⟨r, st', ⟨hne, hK⟩, ⟨hr, hst'⟩, Z, hZ, hcode, hM⟩ := h has hst
  have hk : LKg Wl (zpc rest) L (zpush r S') st' := hK ⟨pre ++ [en], by rw [b5, List.append_assoc]; rfl⟩ hst' hL (by
    cases r with
    | none => exact hS'
    | some v => exact zcons (P := zok) (hr v rfl) hS')
  intro w hw
  obtain ⟨w', hw', hm⟩ := hM w hw
  refine hW en rest rest _ _ _ _ w w' (zexM nu (zSm as) w (r.map zv) w') b2 (fun _ => zrest_pc rx_mL_sq b5 hne) (fun t e => zfind_pc hne e) ?_ (fun K => he K w r w' _ hw (zexM_eq _ _ _ _ _)) (hk w' hw')
  intro nu' as' w0 r0 w9 hq
  unfold zexM at hq
  split at hq
  · rename_i q
    obtain ⟨rfl, rfl, rfl⟩ := q
    cases hq
    exact ⟨Z, hZ, hcode, hm⟩
  · cases hq
theorem zinv_ok {Sh : List zC} {call : zCall} {K : zG} {nu n q a : Nat} (h : zinv Sh call K rest nu n q a L S st) : ∃ as S', (∀ (β : Type) (f : List rx_V → List rx_V → Option β), rx_take n (zSm S) [] f = f (zSm as) (zSm S')) ∧ (∀ v ∈ as, v ∈ S) ∧ (∀ v ∈ S', v ∈ S) ∧ Nat.ble (zcats S') 8 = true ∧ call nu as st (fun r st' => K rest L (zpush r S') st') ∧ (q = 0 ∨ (q = 1 ∧ ∃ o as' a' ks, as = .inr (.inr (.inl o)) :: as' ∧ Sh[o]? = some (.inl (a', ks)) ∧ Nat.beq a' a = true)) := by
  obtain ⟨as, S', h1, h2, h3, h4⟩ := ztake_ok h
  have h3 : ∀ v ∈ as, v ∈ S := fun v hv => (h3 v hv).elim id (fun e => by simp at e)
  cases k : Nat.ble (zcats S') 8 with
  | false => simp only [k] at h1; exact absurd h1 id
  | true =>
    simp only [k] at h1
    cases q with
    | zero => exact ⟨as, S', h2, h3, h4, k, h1, Or.inl rfl⟩
    | succ q1 =>
      cases q1 with
      | succ q2 => exact absurd h1 id
      | zero =>
        rcases as with _ | ⟨v, as⟩
        · exact absurd h1 id
        · rcases v with z | (z | (o | j))
          · exact absurd h1 id
          · exact absurd h1 id
          · obtain ⟨s, g1, g2⟩ := zat_ok (show zat Sh o _ from h1)
            rcases s with ⟨a', ks⟩ | p
            · cases k2 : Nat.beq a' a with
              | false => simp only [k2] at g2; exact absurd g2 id
              | true =>
                simp only [k2] at g2
                exact ⟨_, S', h2, h3, h4, k, g2, Or.inr ⟨rfl, o, as, a', ks, rfl, g1, k2⟩⟩
            · exact absurd g2 id
          · exact absurd h1 id
theorem lc_inv1 (hW : lst l d X D N Wl) (B : lB en rest L S st) {nu n q a : Nat} (h : zinv zSh (zOk l d X D (lG N) zSh rx_mis) (LKd Wl) rest nu n q a L S st)
    (he : ∀ (K : rx_K) (w : List rx_C) (ex : Nat → List rx_V → List rx_C → Option (Option rx_V × List rx_C)), rx_step (lG N) rx_mL 4 600000 7302250 (fun _ => (0, 0)) ex K en rest (zLm L) (zSm S) w 221 26609 = rx_inv (lG N).2.1 600000 7302250 (fun _ => (0, 0)) ex K rest nu n q a (zLm L) (zSm S) w 221 26609) : LKg Wl en.1 L S st := by
  obtain ⟨as, S', h2, h3, h4, k, h1, hq⟩ := zinv_ok h
  obtain ⟨-, -, hst, hL, hS⟩ := id B
  refine lc_call hW B (fun v hv => hS v (h3 v hv)) (fun v hv => hS v (h4 v hv)) h1 (fun K w r w1 ex hw hx => ?_)
  rw [he]
  unfold rx_inv
  rcases hq with rfl | ⟨rfl, o, as', a', ks, rfl, g1, k2⟩
  · have h5 := h2 rx_R (fun as S' => cond (Nat.ble (rx_cats S') 8 && (Nat.ble (221 + ((fun _ => (0, 0)) nu : Nat × Nat).1) 600000 && Nat.ble (26609 + ((fun _ => (0, 0)) nu : Nat × Nat).2) 7302250)) (match ex nu as w with
      | some (r, w') => K rest (zLm L) (match r with | some v => v :: S' | none => S') w' (221 + ((fun _ => (0, 0)) nu : Nat × Nat).1) (26609 + ((fun _ => (0, 0)) nu : Nat × Nat).2)
      | none => none) none)
    refine Eq.trans h5 ?_
    rw [zcats_v, k, hx]
    cases r <;> rfl
  · obtain ⟨fs, f1, -, -⟩ := hw.2.1 o a' ks g1
    have h5 := h2 rx_R (fun as S' => cond (Nat.ble (rx_cats S') 8 && (Nat.ble (221 + ((fun _ => (0, 0)) nu : Nat × Nat).1) 600000 && Nat.ble (26609 + ((fun _ => (0, 0)) nu : Nat × Nat).2) 7302250)) (match ex nu as w with
      | some (r, w') => (match 1, as with
        | 0, _ => K rest (zLm L) (match r with | some v => v :: S' | none => S') w' (221 + ((fun _ => (0, 0)) nu : Nat × Nat).1) (26609 + ((fun _ => (0, 0)) nu : Nat × Nat).2)
        | 1, .inr (.inr (.inl (some k))) :: _ => rx_at w k (fun x => match x with
          | .inl o => cond (Nat.beq o.1 a) (K rest (zLm L) (match r with | some v => v :: S' | none => S') w' (221 + ((fun _ => (0, 0)) nu : Nat × Nat).1) (26609 + ((fun _ => (0, 0)) nu : Nat × Nat).2)) none
          | .inr _ => none)
        | 2, .inr (.inr (.inr k)) :: _ => cond (Nat.beq k 1) (K rest (zLm L) (match r with | some v => v :: S' | none => S') w' (221 + ((fun _ => (0, 0)) nu : Nat × Nat).1) (26609 + ((fun _ => (0, 0)) nu : Nat × Nat).2)) none
        | _, _ => none)
      | none => none) none)
    refine Eq.trans h5 ?_
    rw [zcats_v, k, hx]
    show rx_at w o _ = _
    rw [zat_eq _ f1]
    show cond (Nat.beq a' a) _ none = _
    rw [k2]
    cases r <;> rfl
def lal (N : Nat) (xs : Nat → Int32) (K : zG) (rest : List rx_E) (L : zL) (S : List zV) (st : zS) : Prop := match S with
  | .inl i :: .inr (.inr (.inr j)) :: S' => j = 0 ∧ (0 ≤ i ∧ i < (N : Int)) ∧ K rest L (.inl (xs i.toNat).toInt :: S') st
  | _ => False
def lln (N : Nat) (K : zG) (rest : List rx_E) (L : zL) (S : List zV) (st : zS) : Prop := match S with
  | .inr (.inr (.inr j)) :: S' => j = 0 ∧ K rest L (.inl (N : Int) :: S') st
  | _ => False
def lrt (S : List zV) : Prop := match S with
  | [.inl z] => z = 1
  | _ => False
theorem lc_al (hW : lst l d X D N Wl) (hO : lwo X Wl) (hx : X.1 = xs) (hN : N < 2147483647) (B : lB en rest L S st) (h : lal N xs (LKd Wl) rest L S st) (he : ∀ (K : rx_K) (w : List rx_C), lSt N K en rest L S w = rx_al (lG N).1 (lG N).2.2.1 (lG N).2.2.2.1 0 K rest (zLm L) (zSm S) w 221 26609) : LKg Wl en.1 L S st := by
  unfold lal at h
  split at h
  · rename_i i j S'
    obtain ⟨rfl, ⟨h0, h1⟩, hne, hK⟩ := h
    obtain ⟨b1, ⟨pre, b2⟩, hst, hL, hS⟩ := B
    have hk := hK ⟨pre ++ [en], by rw [b2, List.append_assoc]; rfl⟩ hst hL (zcons (P := zok) (v := .inl (xs i.toNat).toInt) (zsI_toInt _) (fun v hv => hS v (List.mem_cons_of_mem _ (List.mem_cons_of_mem _ hv))))
    intro w hw
    have e1 : zi i = i.toNat := zi_nn h0 (by omega)
    refine hW en rest rest _ (zLm L) _ (.inl (.inr (i.toNat, [])) :: zSm S') w w zex0 b1 (fun _ => zrest_pc rx_mL_sq b2 hne) (fun t e => zfind_pc hne e) (fun nu as w r' w' hq => by cases hq) (fun K => ?_) ?_
    · have e2 := he K w
      rw [show lSt N K en rest L (.inl i :: .inr (.inr (.inr 0)) :: S') w = rx_step (lG N) rx_mL 4 600000 7302250 (fun _ => (0, 0)) zex0 K en rest (zLm L) (zSm (.inl i :: .inr (.inr (.inr 0)) :: S')) w 221 26609 from rfl] at e2
      rw [e2]
      show cond (Nat.beq 0 0) (cond (Nat.blt (Nat.succ (zi i)) (N + 1) && (Nat.blt (N + 1) 2147483648 && Nat.beq 0 0)) (K rest (zLm L) (.inl (rx_nm [] (zi i, [])) :: zSm S') w 221 26609) none) (cond (Nat.beq 0 2 && Nat.beq 0 1) (rx_at (lG N).2.2.2.1 (zi i) (fun z => K rest (zLm L) (.inl (.inl z) :: zSm S') w 221 26609)) none) = _
      rw [zblt, zblt, e1, decide_eq_true (show Nat.succ i.toNat < N + 1 by omega), decide_eq_true (show N + 1 < 2147483648 by omega)]
      rfl
    · refine hO _ _ _ _ _ ?_ (hk w hw)
      show Value.int (rx_U X i.toNat []) :: (zSm S').map (rx_d X) = Value.int (nI (zi (xs i.toNat).toInt)) :: (zSm S').map (rx_d X)
      have e3 : rx_U X i.toNat [] = xs i.toNat := by
        show X.1 i.toNat = _
        rw [hx]
      rw [e3, ← zI_eq (zw_id (zsI_toInt (xs i.toNat))).symm]
  · exact absurd h id
theorem lc_ln (hW : lst l d X D N Wl) (hN : N < 2147483647) (B : lB en rest L S st) (h : lln N (LKd Wl) rest L S st) (he : ∀ (K : rx_K) (w : List rx_C), lSt N K en rest L S w = rx_len (lG N).2.2.1 (lG N).2.2.2.2.1 K rest (zLm L) (zSm S) w 221 26609) : LKg Wl en.1 L S st := by
  unfold lln at h
  split at h
  · rename_i j S'
    obtain ⟨rfl, h⟩ := h
    obtain ⟨-, -, hst, hL, hS⟩ := id B
    refine lgoB hW B (Or.inl rfl) h hst hL (zcons (P := zok) (v := .inl (N : Int)) (by show zsI _; unfold zsI; omega) (fun v hv => hS v (List.mem_cons_of_mem _ hv))) (fun w hw => ⟨w, hw, fun K => ?_⟩)
    rw [he]
    show cond (Nat.beq 0 0) (cond (Nat.blt 0 (N + 1)) (K rest (zLm L) (.inl (.inl (N + 1 - 1)) :: zSm S') w 221 26609) none) (cond (Nat.beq 0 2) (K rest (zLm L) (.inl (.inl (lG N).2.2.2.2.1) :: zSm S') w 221 26609) none) = K rest (zLm L) (.inl (.inl (zi (N : Int))) :: zSm S') w 221 26609
    rw [zblt, decide_eq_true (show 0 < N + 1 by omega), zi_nn (by omega) (by omega), show ((N : Int)).toNat = N + 1 - 1 by omega]
    rfl
  · exact absurd h id
noncomputable def lstep (N : Nat) (xs : Nat → Int32) (call : zCall) (K : zG) (e : rx_E) (rest : List rx_E) (L : zL) (S : List zV) (st : zS) : Prop := match e.2.1 with
  | .iaload => lal N xs K rest L S st
  | .arraylength => lln N K rest L S st
  | .ireturn => lrt S
  | .iconst _ => zcst K rest e.2.2.2.1 L S st
  | .bipush _ => zcst K rest e.2.2.2.1 L S st
  | .iload _ => zldI K rest e.2.2.2.1 L S st
  | .iload_n _ => zldI K rest e.2.2.2.1 L S st
  | .aload _ => zldA K rest e.2.2.2.1 L S st
  | .aload_n _ => zldA K rest e.2.2.2.1 L S st
  | .iinc _ _ => yinc 4 K rest e.2.2.2.1 e.2.2.2.2.1 L S st
  | .iadd => y2 (fun x y => x + y) K rest L S st
  | .isub => y2 (fun x y => x - y) K rest L S st
  | .iand => z2 (fun x y => zd (Nat.land (zi x) (zi y))) K rest L S st
  | .pop => zpop K rest L S st
  | .if_icmp c _ => zicm c K (rx_find rx_mL e.2.2.2.1) rest L S st
  | .ifCond c _ => zifc c K (rx_find rx_mL e.2.2.2.1) rest L S st
  | .goto _ => K (rx_find rx_mL e.2.2.2.1) L S st
  | .tableswitch _ _ _ _ => zsw rx_mL K e.2.2.2.1 e.2.2.2.2.1 e.2.2.2.2.2.1 e.2.2.2.2.2.2 L S st
  | .invokevirtual _ => zat e.2.2.2.2.2.2 0 (fun ci => zinv zSh call K rest e.2.2.2.1 e.2.2.2.2.1 e.2.2.2.2.2.1 ci L S st)
  | _ => False
set_option maxHeartbeats 2000000 in
theorem l_close (hW : lst l d X D N Wl) (hO : lwo X Wl) (hE : lnd Wl) (hx : X.1 = xs) (hN : N < 2147483647) (h : lstep N xs (zOk l d X D (lG N) zSh rx_mis) (LKd Wl) en rest L S st) : LKd Wl (en :: rest) L S st := by
  refine ⟨by simp, fun ⟨pre, hcd⟩ hst hL hS => ?_⟩
  have hok : rx_okb rx_mis "GreyRouteLaw" "law" code en = true := List.all_eq_true.mp rx_mL_ok en (by rw [hcd]; exact List.mem_append_right _ List.mem_cons_self)
  have B : lB en rest L S st := ⟨hok, ⟨pre, hcd⟩, hst, hL, hS⟩
  show LKg Wl en.1 L S st
  obtain ⟨pc, i, len, a, b, k, t⟩ := en
  cases i with
  | iaload => exact lc_al hW hO hx hN B h (fun K w => rfl)
  | arraylength => exact lc_ln hW hN B h (fun K w => rfl)
  | ireturn =>
    have h : lrt S := h
    unfold lrt at h
    split at h
    · subst h
      exact fun w hw => hE _ _ w hok rfl
    · exact absurd h id
  | iconst z => exact lc_cst hW B h (fun K w => rfl)
  | bipush z => exact lc_cst hW B h (fun K w => rfl)
  | iload z => exact lc_ldI hW B h (fun K w => rfl)
  | iload_n z => exact lc_ldI hW B h (fun K w => rfl)
  | aload z => exact lc_ldA hW B h (fun K w => rfl)
  | aload_n z => exact lc_ldA hW B h (fun K w => rfl)
  | iinc z z2 => exact lc_inc hW B (yinc_z h) (fun K w => rfl)
  | iadd => exact lc_2 hW B (y2_z h) (fun x y _ _ => ⟨rfl, zi_add x y, zw_ok _⟩) (fun K w => rfl)
  | isub => exact lc_2 hW B (y2_z h) (fun x y _ _ => ⟨rfl, zi_sub x y, zw_ok _⟩) (fun K w => rfl)
  | iand => exact lc_2u hW B h (fun x y _ _ => ⟨rfl, (zi_zd (zland x y)).symm, zd_ok (zland x y)⟩) (fun K w => rfl)
  | pop => exact lc_pop hW B h (fun K w => rfl)
  | if_icmp z z2 => exact lc_icm hW B h (fun K w => rfl)
  | ifCond z z2 => exact lc_ifc hW B h (fun K w => rfl)
  | goto z => exact lc_goto hW B h (fun K w => rfl)
  | tableswitch z z2 z3 z4 => exact lc_sw hW B h (fun K w => rfl)
  | invokevirtual z =>
    obtain ⟨ci, h1, h2⟩ := zat_ok (show zat t 0 _ from h)
    refine lc_inv1 hW B h2 (fun K w ex => ?_)
    show rx_at t 0 _ = _
    rw [zat_eq _ h1]
  | _ => exact absurd h id
end LWZ
