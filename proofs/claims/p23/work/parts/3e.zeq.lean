/-! the instructions one by one -/
theorem zland (x y : Int) : Nat.land (zi x) (zi y) < 4294967296 := Nat.and_lt_two_pow (n := 32) _ (zi_lt y)
theorem zlor (x y : Int) : Nat.lor (zi x) (zi y) < 4294967296 := Nat.or_lt_two_pow (n := 32) (zi_lt x) (zi_lt y)
theorem zlxor (x y : Int) : Nat.xor (zi x) (zi y) < 4294967296 := Nat.xor_lt_two_pow (n := 32) (zi_lt x) (zi_lt y)
theorem zlandl (x y : Int) : Nat.land (zl x) (zl y) < 18446744073709551616 := Nat.and_lt_two_pow (n := 64) _ (zl_lt y)
theorem zlorl (x y : Int) : Nat.lor (zl x) (zl y) < 18446744073709551616 := Nat.or_lt_two_pow (n := 64) (zl_lt x) (zl_lt y)
theorem zush (x y : Int) : zi x % 4294967296 / 2 ^ (zi y % 32) < 4294967296 := Nat.lt_of_le_of_lt (Nat.div_le_self _ _) (Nat.mod_lt _ (by decide))
theorem zget_ok {L : zL} {i : Nat} {k : zV → Prop} (h : zget L i k) : ∃ v, (i, v) ∈ L ∧ k v ∧ ∀ (β : Type) (f : rx_V → Option β), rx_get (zLm L) i f = f (zv v) := by
  induction L with
  | nil => exact absurd h id
  | cons q t ih =>
    change cond (Nat.beq q.1 i) (k q.2) (zget t i k) at h
    cases hq : Nat.beq q.1 i with
    | true =>
      rw [hq] at h
      refine ⟨q.2, by rw [← rx_bq hq]; exact List.mem_cons_self, h, fun β f => ?_⟩
      show cond (Nat.beq q.1 i) (f (zv q.2)) (rx_get (zLm t) i f) = _
      rw [hq]
      rfl
    | false =>
      rw [hq] at h
      obtain ⟨v, h1, h2, h3⟩ := ih h
      refine ⟨v, List.mem_cons_of_mem _ h1, h2, fun β f => ?_⟩
      show cond (Nat.beq q.1 i) (f (zv q.2)) (rx_get (zLm t) i f) = _
      rw [hq]
      exact h3 β f
theorem zfil_mem {P : Nat × zV → Bool} {L : zL} {q : Nat × zV} (h : q ∈ zfil P L) : q ∈ L := by
  induction L with
  | nil => exact h
  | cons a t ih =>
    change q ∈ cond (P a) (a :: zfil P t) (zfil P t) at h
    cases hp : P a with
    | true =>
      rw [hp] at h
      rcases List.mem_cons.mp h with h | h
      · rw [h]; exact List.mem_cons_self
      · exact List.mem_cons_of_mem _ (ih h)
    | false =>
      rw [hp] at h
      exact List.mem_cons_of_mem _ (ih h)
theorem zfil_m {P : Nat × zV → Bool} {P' : Nat → rx_V → Bool} (h : ∀ i v, (!P' i (zv v)) = P (i, v)) (L : zL) : (zLm L).filter (fun q => !P' q.1 q.2) = zLm (zfil P L) := by
  induction L with
  | nil => rfl
  | cons a t ih =>
    show ((a.1, zv a.2) :: zLm t).filter (fun q => !P' q.1 q.2) = zLm (cond (P a) (a :: zfil P t) (zfil P t))
    rw [List.filter_cons]
    have h1 : (!P' a.1 (zv a.2)) = P a := h a.1 a.2
    simp only [h1]
    cases hp : P a with
    | true => simp only [if_true, cond_true]; rw [ih]; rfl
    | false => simp only [cond_false]; exact ih
theorem zfil1 (a : Nat) (L : zL) : (zLm L).filter (fun q => !rx_P1 a q.1 q.2) = zLm (zfil (zP1 a) L) := zfil_m (fun i v => by unfold rx_P1 zP1; rw [zcat_v]) L
theorem zfil2 (a : Nat) (L : zL) : (zLm L).filter (fun q => !rx_P2 a q.1 q.2) = zLm (zfil (zP2 a) L) := zfil_m (fun i v => by unfold rx_P2 zP2; rw [zcat_v]) L
section ZEQ
variable {l : Launch} {d : Nat} {X : rx_X} {D : va_G} {G : rx_G} {Sh : List zC} {mi : List rx_Y} {Y : rx_Y} {cd rest : List rx_E} {nL q : Nat} {L : zL} {S : List zV} {st : zS} {en : rx_E} {Rt : zQ} {call : zCall}
/-- what stands at a step -/
def zB (G : rx_G) (Sh : List zC) (mi : List rx_Y) (Y : rx_Y) (cd : List rx_E) (nL : Nat) (en : rx_E) (rest : List rx_E) (L : zL) (S : List zV) (st : zS) : Prop := rx_Gok G ∧ rx_okb mi Y.1.cls Y.1.name Y.2.1 en = true ∧ Y.2.2.1 = nL ∧ rx_seq cd = true ∧ (∃ pre, cd = pre ++ en :: rest) ∧ zsk Sh st ∧ (∀ q ∈ L, zok q.2) ∧ (∀ v ∈ S, zok v)
noncomputable abbrev zSt (G : rx_G) (cd : List rx_E) (nL : Nat) (K : rx_K) (en : rx_E) (rest : List rx_E) (L : zL) (S : List zV) (w : List rx_C) : Option rx_R := rx_step G cd nL 0 0 (fun _ => (0, 0)) zex0 K en rest (zLm L) (zSm S) w 0 0
theorem zgoB (B : zB G Sh mi Y cd nL en rest L S st) {T : List rx_E} {L1 : zL} {S1 : List zV} {st1 : zS} (hT : T = rest ∨ ∃ t, T = rx_find cd t) (hK : zGd l d X D G Sh Y cd Rt T L1 S1 st1) (hst : zsk Sh st1) (hL : ∀ q ∈ L1, zok q.2) (hS : ∀ v ∈ S1, zok v) (h : ∀ w : List rx_C, zR Sh st w → ∃ w1 : List rx_C, zR Sh st1 w1 ∧ ∀ K : rx_K, zSt G cd nL K en rest L S w = K T (zLm L1) (zSm S1) w1 0 0) : zgoal l d X D G Sh Y Rt en.1 L S st := by
  obtain ⟨b1, b2, b3, b4, ⟨pre, b5⟩, -, -, -⟩ := B
  exact zgo b1 b2 b3 b4 b5 hT hK hst hL hS h
theorem zcons {P : zV → Prop} {v : zV} {S : List zV} (h : P v) (hS : ∀ u ∈ S, P u) : ∀ u ∈ v :: S, P u := by
  intro u hu
  rcases List.mem_cons.mp hu with e | e
  · rw [e]; exact h
  · exact hS u e
theorem zc_cst (B : zB G Sh mi Y cd nL en rest L S st) {a : Nat} (h : zcst (zGd l d X D G Sh Y cd Rt) rest a L S st) (he : ∀ (K : rx_K) (w : List rx_C), zSt G cd nL K en rest L S w = K rest (zLm L) (.inl (.inl a) :: zSm S) w 0 0) : zgoal l d X D G Sh Y Rt en.1 L S st := by
  unfold zcst at h
  cases c : Nat.blt a 4294967296 with
  | false => rw [c] at h; exact absurd h id
  | true =>
    rw [c] at h
    have c := rx_bt c
    obtain ⟨-, -, -, -, -, hst, hL, hS⟩ := id B
    refine zgoB B (Or.inl rfl) h hst hL (zcons (P := zok) (zd_ok c) hS) (fun w hw => ⟨w, hw, fun K => ?_⟩)
    rw [he]
    show _ = K rest (zLm L) (.inl (.inl (zi (zd a))) :: zSm S) w 0 0
    rw [zi_zd c]
theorem zc_lst (B : zB G Sh mi Y cd nL en rest L S st) {a : Nat} (h : zlst (zGd l d X D G Sh Y cd Rt) rest a L S st) (he : ∀ (K : rx_K) (w : List rx_C), zSt G cd nL K en rest L S w = K rest (zLm L) (.inr (.inl (.inl a)) :: zSm S) w 0 0) : zgoal l d X D G Sh Y Rt en.1 L S st := by
  unfold zlst at h
  cases c : Nat.blt a 18446744073709551616 with
  | false => rw [c] at h; exact absurd h id
  | true =>
    rw [c] at h
    have c := rx_bt c
    obtain ⟨-, -, -, -, -, hst, hL, hS⟩ := id B
    refine zgoB B (Or.inl rfl) h hst hL (zcons (P := zok) (ze_ok c) hS) (fun w hw => ⟨w, hw, fun K => ?_⟩)
    rw [he]
    show _ = K rest (zLm L) (.inr (.inl (.inl (zl (ze a)))) :: zSm S) w 0 0
    rw [zl_ze c]
theorem zc_ldI (B : zB G Sh mi Y cd nL en rest L S st) {a : Nat} (h : zldI (zGd l d X D G Sh Y cd Rt) rest a L S st) (he : ∀ (K : rx_K) (w : List rx_C), zSt G cd nL K en rest L S w = rx_ld 0 K rest a (zLm L) (zSm S) w 0 0) : zgoal l d X D G Sh Y Rt en.1 L S st := by
  obtain ⟨v, h1, h2, h3⟩ := zget_ok h
  obtain ⟨-, -, -, -, -, hst, hL, hS⟩ := id B
  rcases v with x | (x | x)
  · refine zgoB B (Or.inl rfl) h2 hst hL (zcons (P := zok) (hL _ h1) hS) (fun w hw => ⟨w, hw, fun K => ?_⟩)
    rw [he]
    unfold rx_ld
    rw [h3]
    rfl
  · exact absurd h2 id
  · exact absurd h2 id
theorem zc_ldL (B : zB G Sh mi Y cd nL en rest L S st) {a : Nat} (h : zldL (zGd l d X D G Sh Y cd Rt) rest a L S st) (he : ∀ (K : rx_K) (w : List rx_C), zSt G cd nL K en rest L S w = rx_ld 1 K rest a (zLm L) (zSm S) w 0 0) : zgoal l d X D G Sh Y Rt en.1 L S st := by
  obtain ⟨v, h1, h2, h3⟩ := zget_ok h
  obtain ⟨-, -, -, -, -, hst, hL, hS⟩ := id B
  rcases v with x | (x | x)
  · exact absurd h2 id
  · refine zgoB B (Or.inl rfl) h2 hst hL (zcons (P := zok) (hL _ h1) hS) (fun w hw => ⟨w, hw, fun K => ?_⟩)
    rw [he]
    unfold rx_ld
    rw [h3]
    rfl
  · exact absurd h2 id
theorem zc_ldA (B : zB G Sh mi Y cd nL en rest L S st) {a : Nat} (h : zldA (zGd l d X D G Sh Y cd Rt) rest a L S st) (he : ∀ (K : rx_K) (w : List rx_C), zSt G cd nL K en rest L S w = rx_ld 2 K rest a (zLm L) (zSm S) w 0 0) : zgoal l d X D G Sh Y Rt en.1 L S st := by
  obtain ⟨v, h1, h2, h3⟩ := zget_ok h
  obtain ⟨-, -, -, -, -, hst, hL, hS⟩ := id B
  rcases v with x | (x | (x | x))
  · exact absurd h2 id
  · exact absurd h2 id
  · refine zgoB B (Or.inl rfl) h2 hst hL (zcons (P := zok) (hL _ h1) hS) (fun w hw => ⟨w, hw, fun K => ?_⟩)
    rw [he]
    unfold rx_ld
    rw [h3]
    rfl
  · refine zgoB B (Or.inl rfl) h2 hst hL (zcons (P := zok) (hL _ h1) hS) (fun w hw => ⟨w, hw, fun K => ?_⟩)
    rw [he]
    unfold rx_ld
    rw [h3]
    rfl
theorem zconsL {v : zV} {a : Nat} {P : Nat × zV → Bool} (h : zok v) (hL : ∀ q ∈ L, zok q.2) : ∀ q ∈ (a, v) :: zfil P L, zok q.2 := by
  intro q hq
  rcases List.mem_cons.mp hq with e | e
  · rw [e]; exact h
  · exact hL q (zfil_mem e)
theorem zc_stI (B : zB G Sh mi Y cd nL en rest L S st) {a : Nat} (h : zstI nL (zGd l d X D G Sh Y cd Rt) rest a L S st) (he : ∀ (K : rx_K) (w : List rx_C), zSt G cd nL K en rest L S w = rx_st 0 nL K rest a (zLm L) (zSm S) w 0 0) : zgoal l d X D G Sh Y Rt en.1 L S st := by
  unfold zstI at h
  split at h
  · rename_i x S'
    cases c : Nat.blt a nL with
    | false => rw [c] at h; exact absurd h id
    | true =>
      rw [c] at h
      obtain ⟨-, -, -, -, -, hst, hL, hS⟩ := id B
      refine zgoB B (Or.inl rfl) h hst (zconsL (hS _ List.mem_cons_self) hL) (fun v hv => hS v (List.mem_cons_of_mem _ hv)) (fun w hw => ⟨w, hw, fun K => ?_⟩)
      rw [he]
      show cond (Nat.beq 0 0 && Nat.blt a nL) (rx_rem (rx_P1 a) (zLm L) (fun L' => K rest ((a, .inl (.inl (zi x))) :: L') (zSm S') w 0 0)) none = _
      rw [c, rx_rem_eq, zfil1]
      rfl
  · exact absurd h id
theorem zc_stL (B : zB G Sh mi Y cd nL en rest L S st) {a : Nat} (h : zstL nL (zGd l d X D G Sh Y cd Rt) rest a L S st) (he : ∀ (K : rx_K) (w : List rx_C), zSt G cd nL K en rest L S w = rx_st 1 nL K rest a (zLm L) (zSm S) w 0 0) : zgoal l d X D G Sh Y Rt en.1 L S st := by
  unfold zstL at h
  split at h
  · rename_i x S'
    cases c : Nat.blt (Nat.succ a) nL with
    | false => rw [c] at h; exact absurd h id
    | true =>
      rw [c] at h
      obtain ⟨-, -, -, -, -, hst, hL, hS⟩ := id B
      refine zgoB B (Or.inl rfl) h hst (zconsL (hS _ List.mem_cons_self) hL) (fun v hv => hS v (List.mem_cons_of_mem _ hv)) (fun w hw => ⟨w, hw, fun K => ?_⟩)
      rw [he]
      show cond (Nat.beq 1 1 && Nat.blt (Nat.succ a) nL) (rx_rem (rx_P2 a) (zLm L) (fun L' => K rest ((a, .inr (.inl (.inl (zl x)))) :: L') (zSm S') w 0 0)) none = _
      rw [c, rx_rem_eq, zfil2]
      rfl
  · exact absurd h id
theorem zc_stA (B : zB G Sh mi Y cd nL en rest L S st) {a : Nat} (h : zstA nL (zGd l d X D G Sh Y cd Rt) rest a L S st) (he : ∀ (K : rx_K) (w : List rx_C), zSt G cd nL K en rest L S w = rx_st 2 nL K rest a (zLm L) (zSm S) w 0 0) : zgoal l d X D G Sh Y Rt en.1 L S st := by
  unfold zstA at h
  split at h
  · rename_i x S'
    cases c : Nat.blt a nL with
    | false => rw [c] at h; exact absurd h id
    | true =>
      rw [c] at h
      obtain ⟨-, -, -, -, -, hst, hL, hS⟩ := id B
      refine zgoB B (Or.inl rfl) h hst (zconsL (hS _ List.mem_cons_self) hL) (fun v hv => hS v (List.mem_cons_of_mem _ hv)) (fun w hw => ⟨w, hw, fun K => ?_⟩)
      rw [he]
      rcases x with x | x
      · show cond (Nat.beq 2 2 && Nat.blt a nL) (rx_rem (rx_P1 a) (zLm L) (fun L' => K rest ((a, .inr (.inr (.inl (some x)))) :: L') (zSm S') w 0 0)) none = _
        rw [c, rx_rem_eq, zfil1]
        rfl
      · show cond (Nat.beq 2 2 && Nat.blt a nL) (rx_rem (rx_P1 a) (zLm L) (fun L' => K rest ((a, .inr (.inr (.inr x))) :: L') (zSm S') w 0 0)) none = _
        rw [c, rx_rem_eq, zfil1]
        rfl
  · exact absurd h id
theorem zc_inc (B : zB G Sh mi Y cd nL en rest L S st) {a b : Nat} (h : zinc nL (zGd l d X D G Sh Y cd Rt) rest a b L S st) (he : ∀ (K : rx_K) (w : List rx_C), zSt G cd nL K en rest L S w = rx_ii nL K rest a b (zLm L) (zSm S) w 0 0) : zgoal l d X D G Sh Y Rt en.1 L S st := by
  obtain ⟨v, h1, h2, h3⟩ := zget_ok h
  obtain ⟨-, -, -, -, -, hst, hL, hS⟩ := id B
  rcases v with x | (x | x)
  · cases c : (Nat.blt a nL && Nat.blt b 4294967296) with
    | false => simp only [c] at h2; exact absurd h2 id
    | true =>
      simp only [c] at h2
      obtain ⟨c1, c2⟩ := rx_an c
      have c2 := rx_bt c2
      refine zgoB B (Or.inl rfl) h2 hst (zconsL (zw_ok _) hL) hS (fun w hw => ⟨w, hw, fun K => ?_⟩)
      rw [he]
      unfold rx_ii
      rw [h3]
      show cond (Nat.blt a nL) (rx_fN ((zi x + b) % 4294967296) (fun z => rx_rem (rx_P1 a) (zLm L) (fun L' => K rest ((a, .inl (.inl z)) :: L') (zSm S) w 0 0))) none = _
      rw [c1, rx_fN_eq]
      show rx_rem (rx_P1 a) (zLm L) _ = _
      rw [rx_rem_eq, zfil1]
      have e : (zi x + b) % 4294967296 = zi (zw (x + zd b)) := by
        rw [← zi_add, zi_zd c2]
      rw [e]
      rfl
  · exact absurd h2 id
  · exact absurd h2 id
theorem zc_2 (B : zB G Sh mi Y cd nL en rest L S st) {f : Int → Int → Int} {g : Nat → Nat → Bool} {fN : Nat → Nat → Nat} (h : z2 f (zGd l d X D G Sh Y cd Rt) rest L S st) (hf : ∀ x y : Int, zsI x → zsI y → g (zi x) (zi y) = true ∧ fN (zi x) (zi y) = zi (f x y) ∧ zsI (f x y)) (he : ∀ (K : rx_K) (w : List rx_C), zSt G cd nL K en rest L S w = rx_o2 g fN K rest (zLm L) (zSm S) w 0 0) : zgoal l d X D G Sh Y Rt en.1 L S st := by
  unfold z2 at h
  split at h
  · rename_i y x S'
    obtain ⟨-, -, -, -, -, hst, hL, hS⟩ := id B
    obtain ⟨f1, f2, f3⟩ := hf x y (hS (.inl x) (List.mem_cons_of_mem _ List.mem_cons_self)) (hS (.inl y) List.mem_cons_self)
    refine zgoB B (Or.inl rfl) h hst hL (zcons (P := zok) f3 (fun v hv => hS v (List.mem_cons_of_mem _ (List.mem_cons_of_mem _ hv)))) (fun w hw => ⟨w, hw, fun K => ?_⟩)
    rw [he]
    show cond (g (zi x) (zi y)) (rx_fN (fN (zi x) (zi y)) (fun z => K rest (zLm L) (.inl (.inl z) :: zSm S') w 0 0)) none = _
    rw [f1, rx_fN_eq, f2]
    rfl
  · exact absurd h id
theorem zc_2u (B : zB G Sh mi Y cd nL en rest L S st) {f : Int → Int → Int} {o : Nat} {g : Nat → Nat → Bool} {fN : Nat → Nat → Nat} (h : z2 f (zGd l d X D G Sh Y cd Rt) rest L S st) (hf : ∀ x y : Int, zsI x → zsI y → g (zi x) (zi y) = true ∧ fN (zi x) (zi y) = zi (f x y) ∧ zsI (f x y)) (he : ∀ (K : rx_K) (w : List rx_C), zSt G cd nL K en rest L S w = rx_o2u G.1 o g fN K rest (zLm L) (zSm S) w 0 0) : zgoal l d X D G Sh Y Rt en.1 L S st := by
  unfold z2 at h
  split at h
  · rename_i y x S'
    obtain ⟨-, -, -, -, -, hst, hL, hS⟩ := id B
    obtain ⟨f1, f2, f3⟩ := hf x y (hS (.inl x) (List.mem_cons_of_mem _ List.mem_cons_self)) (hS (.inl y) List.mem_cons_self)
    refine zgoB B (Or.inl rfl) h hst hL (zcons (P := zok) f3 (fun v hv => hS v (List.mem_cons_of_mem _ (List.mem_cons_of_mem _ hv)))) (fun w hw => ⟨w, hw, fun K => ?_⟩)
    rw [he]
    show cond (g (zi x) (zi y)) (rx_fN (fN (zi x) (zi y)) (fun z => K rest (zLm L) (.inl (.inl z) :: zSm S') w 0 0)) none = _
    rw [f1, rx_fN_eq, f2]
    rfl
  · exact absurd h id
theorem zc_2l (B : zB G Sh mi Y cd nL en rest L S st) {f : Int → Int → Int} {g : Nat → Nat → Bool} {fN : Nat → Nat → Nat} (h : z2l f (zGd l d X D G Sh Y cd Rt) rest L S st) (hf : ∀ x y : Int, zsL x → zsL y → g (zl x) (zl y) = true ∧ fN (zl x) (zl y) = zl (f x y) ∧ zsL (f x y)) (he : ∀ (K : rx_K) (w : List rx_C), zSt G cd nL K en rest L S w = rx_l2 g fN K rest (zLm L) (zSm S) w 0 0) : zgoal l d X D G Sh Y Rt en.1 L S st := by
  unfold z2l at h
  split at h
  · rename_i y x S'
    obtain ⟨-, -, -, -, -, hst, hL, hS⟩ := id B
    obtain ⟨f1, f2, f3⟩ := hf x y (hS (.inr (.inl x)) (List.mem_cons_of_mem _ List.mem_cons_self)) (hS (.inr (.inl y)) List.mem_cons_self)
    refine zgoB B (Or.inl rfl) h hst hL (zcons (P := zok) (v := .inr (.inl (f x y))) f3 (fun v hv => hS v (List.mem_cons_of_mem _ (List.mem_cons_of_mem _ hv)))) (fun w hw => ⟨w, hw, fun K => ?_⟩)
    rw [he]
    show cond (g (zl x) (zl y)) (rx_fN (fN (zl x) (zl y)) (fun z => K rest (zLm L) (.inr (.inl (.inl z)) :: zSm S') w 0 0)) none = _
    rw [f1, rx_fN_eq, f2]
    rfl
  · exact absurd h id
end ZEQ
