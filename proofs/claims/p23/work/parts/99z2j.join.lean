/-! two contracts of one call are one contract: the steps go one way only -/
def FU (L : zL) : Prop := ∀ (i : Nat) (v u : zV), (i, v) ∈ L → (i, u) ∈ L → v = u
def JL (L1 L2 L : zL) : Prop := (∀ x : Nat × zV, x ∈ L1 → x ∈ L) ∧ (∀ x : Nat × zV, x ∈ L2 → x ∈ L) ∧ FU L
theorem zfil_tr {P : Nat × zV → Bool} {L : zL} {x : Nat × zV} (h : x ∈ zfil P L) : x ∈ L ∧ P x = true := by
  induction L with
  | nil => cases h
  | cons y t ih =>
    change x ∈ cond (P y) (y :: zfil P t) (zfil P t) at h
    cases c : P y with
    | true =>
      rw [c] at h
      rcases List.mem_cons.mp (show x ∈ y :: zfil P t from h) with z | z
      · rw [z]; exact ⟨List.mem_cons_self, c⟩
      · exact ⟨List.mem_cons_of_mem _ (ih z).1, (ih z).2⟩
    | false =>
      rw [c] at h
      exact ⟨List.mem_cons_of_mem _ (ih h).1, (ih h).2⟩
theorem zfil_of {P : Nat × zV → Bool} {L : zL} {x : Nat × zV} (h : x ∈ L) (hp : P x = true) : x ∈ zfil P L := by
  induction L with
  | nil => cases h
  | cons y t ih =>
    show x ∈ cond (P y) (y :: zfil P t) (zfil P t)
    cases c : P y with
    | true =>
      rcases List.mem_cons.mp h with z | z
      · rw [z]; exact List.mem_cons_self
      · exact List.mem_cons_of_mem _ (ih z)
    | false =>
      rcases List.mem_cons.mp h with z | z
      · rw [z, c] at hp; cases hp
      · exact ih z
theorem FU_st {P : Nat × zV → Bool} {L : zL} {a : Nat} {v : zV} (hP : ∀ u : zV, P (a, u) = false) (h : FU L) : FU ((a, v) :: zfil P L) := by
  intro i x y hx hy
  rcases List.mem_cons.mp hx with z | z <;> rcases List.mem_cons.mp hy with z2 | z2
  · cases z; cases z2; rfl
  · cases z; exact absurd (zfil_tr z2).2 (by rw [hP]; decide)
  · cases z2; exact absurd (zfil_tr z).2 (by rw [hP]; decide)
  · exact h i x y (zfil_tr z).1 (zfil_tr z2).1
theorem LE_st {P : Nat × zV → Bool} {L1 L : zL} {a : Nat} {v : zV} (h : ∀ x : Nat × zV, x ∈ L1 → x ∈ L) : ∀ x : Nat × zV, x ∈ (a, v) :: zfil P L1 → x ∈ (a, v) :: zfil P L := by
  intro x hx
  rcases List.mem_cons.mp hx with z | z
  · rw [z]; exact List.mem_cons_self
  · exact List.mem_cons_of_mem _ (zfil_of (h x (zfil_tr z).1) (zfil_tr z).2)
theorem JL_st {P : Nat × zV → Bool} {L1 L2 L : zL} {a : Nat} {v : zV} (hP : ∀ u : zV, P (a, u) = false) (h : JL L1 L2 L) : JL ((a, v) :: zfil P L1) ((a, v) :: zfil P L2) ((a, v) :: zfil P L) := ⟨LE_st h.1, LE_st h.2.1, FU_st hP h.2.2⟩
theorem zP1_a (a : Nat) (u : zV) : zP1 a (a, u) = false := by
  unfold zP1
  rw [show Nat.beq a a = true from Nat.beq_refl a]
  rfl
theorem zP2_a (a : Nat) (u : zV) : zP2 a (a, u) = false := by
  unfold zP2
  rw [show Nat.beq a a = true from Nat.beq_refl a]
  rfl
theorem zget_fu {L : zL} {i : Nat} {v : zV} {k : zV → Prop} (hf : ∀ u : zV, (i, u) ∈ L → u = v) (h : (i, v) ∈ L) (hk : k v) : zget L i k := by
  induction L with
  | nil => cases h
  | cons y t ih =>
    show cond (Nat.beq y.1 i) (k y.2) (zget t i k)
    cases c : Nat.beq y.1 i with
    | true =>
      have e : y.1 = i := Nat.eq_of_beq_eq_true c
      have e2 : y.2 = v := hf y.2 (by rw [← e]; exact List.mem_cons_self)
      show k y.2
      rw [e2]; exact hk
    | false =>
      rcases List.mem_cons.mp h with z | z
      · rw [← z] at c
        rw [show Nat.beq i i = true from Nat.beq_refl i] at c
        cases c
      · exact ih (fun u hu => hf u (List.mem_cons_of_mem _ hu)) z
theorem zget_j {L1 L2 L : zL} {i : Nat} {k1 k2 k : zV → Prop} (hJ : JL L1 L2 L) (h1 : zget L1 i k1) (h2 : zget L2 i k2) (hk : ∀ v, k1 v → k2 v → k v) : zget L i k := by
  obtain ⟨v, m1, q1, -⟩ := zget_ok h1
  obtain ⟨u, m2, q2, -⟩ := zget_ok h2
  have e := hJ.2.2 i v u (hJ.1 _ m1) (hJ.2.1 _ m2)
  subst e
  exact zget_fu (fun u hu => hJ.2.2 i u v hu (hJ.1 _ m1)) (hJ.1 _ m1) (hk v q1 q2)
theorem zat_j {α : Type} {l : List α} {n : Nat} {k1 k2 k : α → Prop} (h1 : zat l n k1) (h2 : zat l n k2) (hk : ∀ v, k1 v → k2 v → k v) : zat l n k := by
  obtain ⟨x, a1, q1⟩ := zat_ok h1
  obtain ⟨y, a2, q2⟩ := zat_ok h2
  rw [a1] at a2
  cases a2
  exact zat_of a1 (hk x q1 q2)
theorem zsws_j {P1 P2 P : Nat → Prop} {x : Int} (hP : ∀ g, P1 g → P2 g → P g) : ∀ {t : List Nat} {n : Int}, zsws P1 x t n → zsws P2 x t n → zsws P x t n := by
  intro t
  induction t with
  | nil => intro n h1 h2; trivial
  | cons g t ih =>
    intro n h1 h2
    have h1 : (x = n → P1 g) ∧ zsws P1 x t (n + 1) := h1
    have h2 : (x = n → P2 g) ∧ zsws P2 x t (n + 1) := h2
    exact ⟨fun e => hP g (h1.1 e) (h2.1 e), ih h1.2 h2.2⟩
theorem ztake_j : ∀ {n : Nat} {S acc : List zV} {k1 k2 k : List zV → List zV → Prop}, ztake n S acc k1 → ztake n S acc k2 → (∀ a b, k1 a b → k2 a b → k a b) → ztake n S acc k := by
  intro n
  induction n with
  | zero => intro S acc k1 k2 k h1 h2 hk; exact hk _ _ h1 h2
  | succ n ih =>
    intro S acc k1 k2 k h1 h2 hk
    cases S with
    | nil => exact h1
    | cons v t => exact ih (S := t) (acc := v :: acc) h1 h2 hk
section ZJN
variable {K1 K2 K : zG} {rest cd tgt : List rx_E} {a b k nL p n nu : Nat} {L1 L2 L : zL} {S : List zV} {st : zS} {f : Int → Int → Int} {cn : Jvm.ClassFile.Cond} {t : List Nat} {Sh : List zC} {call1 call2 call : zCall}
theorem j_cst (hJ : JL L1 L2 L) (hK : ∀ cs L1 L2 L S st, JL L1 L2 L → K1 cs L1 S st → K2 cs L2 S st → K cs L S st) (h1 : zcst K1 rest a L1 S st) (h2 : zcst K2 rest a L2 S st) : zcst K rest a L S st := by
  unfold zcst at h1 h2 ⊢
  cases c : Nat.blt a 4294967296 with
  | true => rw [c] at h1 h2; exact hK _ _ _ _ _ _ hJ h1 h2
  | false => rw [c] at h1 h2; exact h1
theorem j_lst (hJ : JL L1 L2 L) (hK : ∀ cs L1 L2 L S st, JL L1 L2 L → K1 cs L1 S st → K2 cs L2 S st → K cs L S st) (h1 : zlst K1 rest a L1 S st) (h2 : zlst K2 rest a L2 S st) : zlst K rest a L S st := by
  unfold zlst at h1 h2 ⊢
  cases c : Nat.blt a 18446744073709551616 with
  | true => rw [c] at h1 h2; exact hK _ _ _ _ _ _ hJ h1 h2
  | false => rw [c] at h1 h2; exact h1
theorem j_ldI (hJ : JL L1 L2 L) (hK : ∀ cs L1 L2 L S st, JL L1 L2 L → K1 cs L1 S st → K2 cs L2 S st → K cs L S st) (h1 : zldI K1 rest a L1 S st) (h2 : zldI K2 rest a L2 S st) : zldI K rest a L S st := by
  refine zget_j hJ h1 h2 (fun v h1 h2 => ?_)
  rcases v with x | (x | x) <;> first | exact hK _ _ _ _ _ _ hJ h1 h2 | exact h1
theorem j_ldL (hJ : JL L1 L2 L) (hK : ∀ cs L1 L2 L S st, JL L1 L2 L → K1 cs L1 S st → K2 cs L2 S st → K cs L S st) (h1 : zldL K1 rest a L1 S st) (h2 : zldL K2 rest a L2 S st) : zldL K rest a L S st := by
  refine zget_j hJ h1 h2 (fun v h1 h2 => ?_)
  rcases v with x | (x | x) <;> first | exact hK _ _ _ _ _ _ hJ h1 h2 | exact h1
theorem j_ldA (hJ : JL L1 L2 L) (hK : ∀ cs L1 L2 L S st, JL L1 L2 L → K1 cs L1 S st → K2 cs L2 S st → K cs L S st) (h1 : zldA K1 rest a L1 S st) (h2 : zldA K2 rest a L2 S st) : zldA K rest a L S st := by
  refine zget_j hJ h1 h2 (fun v h1 h2 => ?_)
  rcases v with x | (x | x) <;> first | exact hK _ _ _ _ _ _ hJ h1 h2 | exact h1
theorem j_stI (hJ : JL L1 L2 L) (hK : ∀ cs L1 L2 L S st, JL L1 L2 L → K1 cs L1 S st → K2 cs L2 S st → K cs L S st) (h1 : zstI nL K1 rest a L1 S st) (h2 : zstI nL K2 rest a L2 S st) : zstI nL K rest a L S st := by
  unfold zstI at h1 h2 ⊢
  split at h1
  · dsimp only at h2
    cases c : Nat.blt a nL with
    | true => rw [c] at h1 h2; exact hK _ _ _ _ _ _ (JL_st (zP1_a a) hJ) h1 h2
    | false => rw [c] at h1 h2; exact h1
  · exact h1.elim
theorem j_stL (hJ : JL L1 L2 L) (hK : ∀ cs L1 L2 L S st, JL L1 L2 L → K1 cs L1 S st → K2 cs L2 S st → K cs L S st) (h1 : zstL nL K1 rest a L1 S st) (h2 : zstL nL K2 rest a L2 S st) : zstL nL K rest a L S st := by
  unfold zstL at h1 h2 ⊢
  split at h1
  · dsimp only at h2
    cases c : Nat.blt (Nat.succ a) nL with
    | true => rw [c] at h1 h2; exact hK _ _ _ _ _ _ (JL_st (zP2_a a) hJ) h1 h2
    | false => rw [c] at h1 h2; exact h1
  · exact h1.elim
theorem j_stA (hJ : JL L1 L2 L) (hK : ∀ cs L1 L2 L S st, JL L1 L2 L → K1 cs L1 S st → K2 cs L2 S st → K cs L S st) (h1 : zstA nL K1 rest a L1 S st) (h2 : zstA nL K2 rest a L2 S st) : zstA nL K rest a L S st := by
  unfold zstA at h1 h2 ⊢
  split at h1
  · dsimp only at h2
    cases c : Nat.blt a nL with
    | true => rw [c] at h1 h2; exact hK _ _ _ _ _ _ (JL_st (zP1_a a) hJ) h1 h2
    | false => rw [c] at h1 h2; exact h1
  · exact h1.elim
theorem j_inc (hJ : JL L1 L2 L) (hK : ∀ cs L1 L2 L S st, JL L1 L2 L → K1 cs L1 S st → K2 cs L2 S st → K cs L S st) (h1 : zinc nL K1 rest a b L1 S st) (h2 : zinc nL K2 rest a b L2 S st) : zinc nL K rest a b L S st := by
  refine zget_j hJ h1 h2 (fun v h1 h2 => ?_)
  rcases v with x | (x | x)
  · change cond (Nat.blt a nL && Nat.blt b 4294967296) _ False at h1
    change cond (Nat.blt a nL && Nat.blt b 4294967296) _ False at h2
    show cond (Nat.blt a nL && Nat.blt b 4294967296) _ False
    cases c : (Nat.blt a nL && Nat.blt b 4294967296) with
    | true => rw [c] at h1 h2; exact hK _ _ _ _ _ _ (JL_st (zP1_a a) hJ) h1 h2
    | false => rw [c] at h1 h2; exact h1
  · exact h1
  · exact h1
theorem j_z2 (hJ : JL L1 L2 L) (hK : ∀ cs L1 L2 L S st, JL L1 L2 L → K1 cs L1 S st → K2 cs L2 S st → K cs L S st) (h1 : z2 f K1 rest L1 S st) (h2 : z2 f K2 rest L2 S st) : z2 f K rest L S st := by
  unfold z2 at h1 h2 ⊢
  split at h1
  · dsimp only at h2
    exact hK _ _ _ _ _ _ hJ h1 h2
  · exact h1.elim
theorem j_z2l (hJ : JL L1 L2 L) (hK : ∀ cs L1 L2 L S st, JL L1 L2 L → K1 cs L1 S st → K2 cs L2 S st → K cs L S st) (h1 : z2l f K1 rest L1 S st) (h2 : z2l f K2 rest L2 S st) : z2l f K rest L S st := by
  unfold z2l at h1 h2 ⊢
  split at h1
  · dsimp only at h2
    exact hK _ _ _ _ _ _ hJ h1 h2
  · exact h1.elim
theorem j_z2s (hJ : JL L1 L2 L) (hK : ∀ cs L1 L2 L S st, JL L1 L2 L → K1 cs L1 S st → K2 cs L2 S st → K cs L S st) (h1 : z2s f K1 rest L1 S st) (h2 : z2s f K2 rest L2 S st) : z2s f K rest L S st := by
  unfold z2s at h1 h2 ⊢
  split at h1
  · dsimp only at h2
    exact hK _ _ _ _ _ _ hJ h1 h2
  · exact h1.elim
theorem j_z2n (hJ : JL L1 L2 L) (hK : ∀ cs L1 L2 L S st, JL L1 L2 L → K1 cs L1 S st → K2 cs L2 S st → K cs L S st) (h1 : z2n f K1 rest L1 S st) (h2 : z2n f K2 rest L2 S st) : z2n f K rest L S st := by
  unfold z2n at h1 h2 ⊢
  split at h1
  · dsimp only at h2
    exact ⟨h1.1, hK _ _ _ _ _ _ hJ h1.2 h2.2⟩
  · exact h1.elim
theorem j_z2m (hJ : JL L1 L2 L) (hK : ∀ cs L1 L2 L S st, JL L1 L2 L → K1 cs L1 S st → K2 cs L2 S st → K cs L S st) (h1 : z2m f K1 rest L1 S st) (h2 : z2m f K2 rest L2 S st) : z2m f K rest L S st := by
  unfold z2m at h1 h2 ⊢
  split at h1
  · dsimp only at h2
    exact ⟨h1.1, hK _ _ _ _ _ _ hJ h1.2 h2.2⟩
  · exact h1.elim
theorem j_zi2l (hJ : JL L1 L2 L) (hK : ∀ cs L1 L2 L S st, JL L1 L2 L → K1 cs L1 S st → K2 cs L2 S st → K cs L S st) (h1 : zi2l K1 rest L1 S st) (h2 : zi2l K2 rest L2 S st) : zi2l K rest L S st := by
  unfold zi2l at h1 h2 ⊢
  split at h1
  · dsimp only at h2
    exact hK _ _ _ _ _ _ hJ h1 h2
  · exact h1.elim
theorem j_zl2i (hJ : JL L1 L2 L) (hK : ∀ cs L1 L2 L S st, JL L1 L2 L → K1 cs L1 S st → K2 cs L2 S st → K cs L S st) (h1 : zl2i K1 rest L1 S st) (h2 : zl2i K2 rest L2 S st) : zl2i K rest L S st := by
  unfold zl2i at h1 h2 ⊢
  split at h1
  · dsimp only at h2
    exact hK _ _ _ _ _ _ hJ h1 h2
  · exact h1.elim
theorem j_zi2b (hJ : JL L1 L2 L) (hK : ∀ cs L1 L2 L S st, JL L1 L2 L → K1 cs L1 S st → K2 cs L2 S st → K cs L S st) (h1 : zi2b K1 rest L1 S st) (h2 : zi2b K2 rest L2 S st) : zi2b K rest L S st := by
  unfold zi2b at h1 h2 ⊢
  split at h1
  · dsimp only at h2
    exact hK _ _ _ _ _ _ hJ h1 h2
  · exact h1.elim
theorem j_zlcm (hJ : JL L1 L2 L) (hK : ∀ cs L1 L2 L S st, JL L1 L2 L → K1 cs L1 S st → K2 cs L2 S st → K cs L S st) (h1 : zlcm K1 rest L1 S st) (h2 : zlcm K2 rest L2 S st) : zlcm K rest L S st := by
  unfold zlcm at h1 h2 ⊢
  split at h1
  · dsimp only at h2
    exact ⟨fun c => hK _ _ _ _ _ _ hJ (h1.1 c) (h2.1 c), fun c => hK _ _ _ _ _ _ hJ (h1.2.1 c) (h2.2.1 c), fun c => hK _ _ _ _ _ _ hJ (h1.2.2 c) (h2.2.2 c)⟩
  · exact h1.elim
theorem j_zdup (hJ : JL L1 L2 L) (hK : ∀ cs L1 L2 L S st, JL L1 L2 L → K1 cs L1 S st → K2 cs L2 S st → K cs L S st) (h1 : zdup K1 rest L1 S st) (h2 : zdup K2 rest L2 S st) : zdup K rest L S st := by
  unfold zdup at h1 h2 ⊢
  split at h1
  · dsimp only at h2
    rename_i v S'
    cases c : Nat.beq (zcat v) 1 with
    | true => rw [c] at h1 h2; exact hK _ _ _ _ _ _ hJ h1 h2
    | false => rw [c] at h1 h2; exact h1
  · exact h1.elim
theorem j_zpop (hJ : JL L1 L2 L) (hK : ∀ cs L1 L2 L S st, JL L1 L2 L → K1 cs L1 S st → K2 cs L2 S st → K cs L S st) (h1 : zpop K1 rest L1 S st) (h2 : zpop K2 rest L2 S st) : zpop K rest L S st := by
  unfold zpop at h1 h2 ⊢
  split at h1
  · dsimp only at h2
    rename_i v S'
    cases c : Nat.beq (zcat v) 1 with
    | true => rw [c] at h1 h2; exact hK _ _ _ _ _ _ hJ h1 h2
    | false => rw [c] at h1 h2; exact h1
  · exact h1.elim
theorem j_zdup2 (hJ : JL L1 L2 L) (hK : ∀ cs L1 L2 L S st, JL L1 L2 L → K1 cs L1 S st → K2 cs L2 S st → K cs L S st) (h1 : zdup2 K1 rest L1 S st) (h2 : zdup2 K2 rest L2 S st) : zdup2 K rest L S st := by
  unfold zdup2 at h1 h2 ⊢
  split at h1
  · dsimp only at h2
    rename_i v u S'
    cases c : (Nat.beq (zcat v) 1 && Nat.beq (zcat u) 1) with
    | true => rw [c] at h1 h2; exact hK _ _ _ _ _ _ hJ h1 h2
    | false => rw [c] at h1 h2; exact h1
  · exact h1.elim
theorem j_zicm (hJ : JL L1 L2 L) (hK : ∀ cs L1 L2 L S st, JL L1 L2 L → K1 cs L1 S st → K2 cs L2 S st → K cs L S st) (h1 : zicm cn K1 tgt rest L1 S st) (h2 : zicm cn K2 tgt rest L2 S st) : zicm cn K tgt rest L S st := by
  unfold zicm at h1 h2 ⊢
  split at h1
  · dsimp only at h2
    exact ⟨fun c => hK _ _ _ _ _ _ hJ (h1.1 c) (h2.1 c), fun c => hK _ _ _ _ _ _ hJ (h1.2 c) (h2.2 c)⟩
  · exact h1.elim
theorem j_zifc (hJ : JL L1 L2 L) (hK : ∀ cs L1 L2 L S st, JL L1 L2 L → K1 cs L1 S st → K2 cs L2 S st → K cs L S st) (h1 : zifc cn K1 tgt rest L1 S st) (h2 : zifc cn K2 tgt rest L2 S st) : zifc cn K tgt rest L S st := by
  unfold zifc at h1 h2 ⊢
  split at h1
  · dsimp only at h2
    exact ⟨fun c => hK _ _ _ _ _ _ hJ (h1.1 c) (h2.1 c), fun c => hK _ _ _ _ _ _ hJ (h1.2 c) (h2.2 c)⟩
  · exact h1.elim
theorem j_zsw (hJ : JL L1 L2 L) (hK : ∀ cs L1 L2 L S st, JL L1 L2 L → K1 cs L1 S st → K2 cs L2 S st → K cs L S st) (h1 : zsw cd K1 a b k t L1 S st) (h2 : zsw cd K2 a b k t L2 S st) : zsw cd K a b k t L S st := by
  unfold zsw at h1 h2 ⊢
  split at h1
  · dsimp only at h2
    cases c : Nat.beq (b + t.length) (k + 1) with
    | true =>
      rw [c] at h1 h2
      exact ⟨fun q => hK _ _ _ _ _ _ hJ (h1.1 q) (h2.1 q), fun q => hK _ _ _ _ _ _ hJ (h1.2.1 q) (h2.2.1 q), zsws_j (fun g hg hg2 => hK _ _ _ _ _ _ hJ hg hg2) h1.2.2 h2.2.2⟩
    | false => rw [c] at h1 h2; exact h1
  · exact h1.elim
theorem j_zgf (hJ : JL L1 L2 L) (hK : ∀ cs L1 L2 L S st, JL L1 L2 L → K1 cs L1 S st → K2 cs L2 S st → K cs L S st) (h1 : zgf Sh K1 rest a b k L1 S st) (h2 : zgf Sh K2 rest a b k L2 S st) : zgf Sh K rest a b k L S st := by
  unfold zgf at h1 h2 ⊢
  split at h1
  · dsimp only at h2
    cases c : Nat.ble k 1 with
    | false => rw [c] at h1 h2; exact h1
    | true =>
      rw [c] at h1 h2
      refine zat_j h1 h2 (fun s h1 h2 => ?_)
      rcases s with ⟨a', ks⟩ | p
      · change cond (Nat.beq a' a) _ False at h1
        change cond (Nat.beq a' a) _ False at h2
        show cond (Nat.beq a' a) _ False
        cases c2 : Nat.beq a' a with
        | false => rw [c2] at h1 h2; exact h1
        | true => rw [c2] at h1 h2; exact zat_j h1 h2 (fun _ h1 h2 => hK _ _ _ _ _ _ hJ h1 h2)
      · exact h1
  · exact h1.elim
theorem j_zpf (hJ : JL L1 L2 L) (hK : ∀ cs L1 L2 L S st, JL L1 L2 L → K1 cs L1 S st → K2 cs L2 S st → K cs L S st) (h1 : zpf Sh K1 rest a b k L1 S st) (h2 : zpf Sh K2 rest a b k L2 S st) : zpf Sh K rest a b k L S st := by
  unfold zpf at h1 h2 ⊢
  split at h1
  · dsimp only at h2
    rename_i v o S'
    refine zat_j h1 h2 (fun s h1 h2 => ?_)
    rcases s with ⟨a', ks⟩ | p
    · change cond (Nat.beq a' a) _ False at h1
      change cond (Nat.beq a' a) _ False at h2
      show cond (Nat.beq a' a) _ False
      cases c2 : Nat.beq a' a with
      | false => rw [c2] at h1 h2; exact h1
      | true =>
        rw [c2] at h1 h2
        refine zat_j h1 h2 (fun kd h1 h2 => ?_)
        change cond (Nat.beq kd k) _ False at h1
        change cond (Nat.beq kd k) _ False at h2
        show cond (Nat.beq kd k) _ False
        cases c3 : Nat.beq kd k with
        | false => rw [c3] at h1 h2; exact h1
        | true =>
          rw [c3] at h1 h2
          rcases v with z | (z | (r | j))
          · change cond (Nat.beq kd 0) _ (cond (Nat.beq kd 2) _ False) at h1
            change cond (Nat.beq kd 0) _ (cond (Nat.beq kd 2) _ False) at h2
            show cond (Nat.beq kd 0) _ (cond (Nat.beq kd 2) _ False)
            cases c4 : Nat.beq kd 0 with
            | true => rw [c4] at h1 h2; exact hK _ _ _ _ _ _ hJ h1 h2
            | false =>
              rw [c4] at h1 h2
              change cond (Nat.beq kd 2) _ False at h1
              change cond (Nat.beq kd 2) _ False at h2
              show cond (Nat.beq kd 2) _ False
              cases c5 : Nat.beq kd 2 with
              | true => rw [c5] at h1 h2; exact ⟨h1.1, hK _ _ _ _ _ _ hJ h1.2 h2.2⟩
              | false => rw [c5] at h1 h2; exact h1
          · change cond (Nat.beq kd 3) _ False at h1
            change cond (Nat.beq kd 3) _ False at h2
            show cond (Nat.beq kd 3) _ False
            cases c4 : Nat.beq kd 3 with
            | true => rw [c4] at h1 h2; exact hK _ _ _ _ _ _ hJ h1 h2
            | false => rw [c4] at h1 h2; exact h1
          · change cond (Nat.beq kd 4) _ False at h1
            change cond (Nat.beq kd 4) _ False at h2
            show cond (Nat.beq kd 4) _ False
            cases c4 : Nat.beq kd 4 with
            | true => rw [c4] at h1 h2; exact hK _ _ _ _ _ _ hJ h1 h2
            | false => rw [c4] at h1 h2; exact h1
          · exact h1
    · exact h1
  · exact h1.elim
theorem j_zal (hJ : JL L1 L2 L) (hK : ∀ cs L1 L2 L S st, JL L1 L2 L → K1 cs L1 S st → K2 cs L2 S st → K cs L S st) (h1 : zal Sh p K1 rest L1 S st) (h2 : zal Sh p K2 rest L2 S st) : zal Sh p K rest L S st := by
  unfold zal at h1 h2 ⊢
  split at h1
  · dsimp only at h2
    refine zat_j h1 h2 (fun s h1 h2 => ?_)
    rcases s with q | q
    · exact h1
    · change cond (Nat.beq q.1 p || (Nat.beq p 1 && Nat.beq q.1 2)) _ False at h1
      change cond (Nat.beq q.1 p || (Nat.beq p 1 && Nat.beq q.1 2)) _ False at h2
      show cond (Nat.beq q.1 p || (Nat.beq p 1 && Nat.beq q.1 2)) _ False
      cases c : (Nat.beq q.1 p || (Nat.beq p 1 && Nat.beq q.1 2)) with
      | true => rw [c] at h1 h2; exact ⟨h1.1, hK _ _ _ _ _ _ hJ h1.2 h2.2⟩
      | false => rw [c] at h1 h2; exact h1
  · exact h1.elim
theorem j_zas (hJ : JL L1 L2 L) (hK : ∀ cs L1 L2 L S st, JL L1 L2 L → K1 cs L1 S st → K2 cs L2 S st → K cs L S st) (h1 : zas Sh p K1 rest L1 S st) (h2 : zas Sh p K2 rest L2 S st) : zas Sh p K rest L S st := by
  unfold zas at h1 h2 ⊢
  split at h1
  · dsimp only at h2
    rename_i v j o S'
    refine zat_j h1 h2 (fun s h1 h2 => ?_)
    rcases s with q | q
    · exact h1
    · change cond (Nat.beq q.1 p || (Nat.beq p 1 && Nat.beq q.1 2)) _ False at h1
      change cond (Nat.beq q.1 p || (Nat.beq p 1 && Nat.beq q.1 2)) _ False at h2
      show cond (Nat.beq q.1 p || (Nat.beq p 1 && Nat.beq q.1 2)) _ False
      cases c : (Nat.beq q.1 p || (Nat.beq p 1 && Nat.beq q.1 2)) with
      | false => rw [c] at h1 h2; exact h1
      | true =>
        rw [c] at h1 h2
        refine ⟨h1.1, ?_⟩
        have h1 := h1.2
        have h2 := h2.2
        rcases v with z | (z | (r | i))
        · change cond (Nat.beq q.1 0) _ (cond (Nat.beq q.1 1) _ (cond (Nat.beq q.1 2) _ False)) at h1
          change cond (Nat.beq q.1 0) _ (cond (Nat.beq q.1 1) _ (cond (Nat.beq q.1 2) _ False)) at h2
          show cond (Nat.beq q.1 0) _ (cond (Nat.beq q.1 1) _ (cond (Nat.beq q.1 2) _ False))
          cases c4 : Nat.beq q.1 0 with
          | true => rw [c4] at h1 h2; exact hK _ _ _ _ _ _ hJ h1 h2
          | false =>
            rw [c4] at h1 h2
            change cond (Nat.beq q.1 1) _ (cond (Nat.beq q.1 2) _ False) at h1
            change cond (Nat.beq q.1 1) _ (cond (Nat.beq q.1 2) _ False) at h2
            show cond (Nat.beq q.1 1) _ (cond (Nat.beq q.1 2) _ False)
            cases c5 : Nat.beq q.1 1 with
            | true => rw [c5] at h1 h2; exact hK _ _ _ _ _ _ hJ h1 h2
            | false =>
              rw [c5] at h1 h2
              change cond (Nat.beq q.1 2) _ False at h1
              change cond (Nat.beq q.1 2) _ False at h2
              show cond (Nat.beq q.1 2) _ False
              cases c6 : Nat.beq q.1 2 with
              | true => rw [c6] at h1 h2; exact ⟨h1.1, hK _ _ _ _ _ _ hJ h1.2 h2.2⟩
              | false => rw [c6] at h1 h2; exact h1
        · change cond (Nat.beq q.1 3) _ False at h1
          change cond (Nat.beq q.1 3) _ False at h2
          show cond (Nat.beq q.1 3) _ False
          cases c4 : Nat.beq q.1 3 with
          | true => rw [c4] at h1 h2; exact hK _ _ _ _ _ _ hJ h1 h2
          | false => rw [c4] at h1 h2; exact h1
        · exact h1
        · exact h1
  · exact h1.elim
theorem j_zlen (hJ : JL L1 L2 L) (hK : ∀ cs L1 L2 L S st, JL L1 L2 L → K1 cs L1 S st → K2 cs L2 S st → K cs L S st) (h1 : zlen Sh K1 rest L1 S st) (h2 : zlen Sh K2 rest L2 S st) : zlen Sh K rest L S st := by
  unfold zlen at h1 h2 ⊢
  split at h1
  · dsimp only at h2
    refine zat_j h1 h2 (fun s h1 h2 => ?_)
    rcases s with q | q
    · exact h1
    · exact hK _ _ _ _ _ _ hJ h1 h2
  · exact h1.elim
theorem j_zcpy (hJ : JL L1 L2 L) (hK : ∀ cs L1 L2 L S st, JL L1 L2 L → K1 cs L1 S st → K2 cs L2 S st → K cs L S st) (h1 : zcpy Sh K1 rest L1 S st) (h2 : zcpy Sh K2 rest L2 S st) : zcpy Sh K rest L S st := by
  unfold zcpy at h1 h2 ⊢
  split at h1
  · dsimp only at h2
    rename_i n dp c1 sp c0 S'
    cases c : Nat.ble (zcats S') 8 with
    | false => rw [c] at h1 h2; exact h1
    | true =>
      rw [c] at h1 h2
      refine zat_j h1 h2 (fun s h1 h2 => ?_)
      rcases s with q | q
      · exact h1
      · refine zat_j h1 h2 (fun s h1 h2 => ?_)
        rcases s with q' | q'
        · exact h1
        · change cond (Nat.beq q.1 0 && Nat.beq q'.1 0) _ False at h1
          change cond (Nat.beq q.1 0 && Nat.beq q'.1 0) _ False at h2
          show cond (Nat.beq q.1 0 && Nat.beq q'.1 0) _ False
          cases c2 : (Nat.beq q.1 0 && Nat.beq q'.1 0) with
          | true => rw [c2] at h1 h2; exact ⟨h1.1, hK _ _ _ _ _ _ hJ h1.2 h2.2⟩
          | false => rw [c2] at h1 h2; exact h1
  · exact h1.elim
theorem j_zinv (hcm : ∀ nu as st Q1 Q2 Q, (∀ r st', Q1 r st' → Q2 r st' → Q r st') → call1 nu as st Q1 → call2 nu as st Q2 → call nu as st Q) (hJ : JL L1 L2 L) (hK : ∀ cs L1 L2 L S st, JL L1 L2 L → K1 cs L1 S st → K2 cs L2 S st → K cs L S st) (h1 : zinv Sh call1 K1 rest nu n p a L1 S st) (h2 : zinv Sh call2 K2 rest nu n p a L2 S st) : zinv Sh call K rest nu n p a L S st := by
  refine ztake_j h1 h2 (fun as S' h1 h2 => ?_)
  change cond (Nat.ble (zcats S') 8) _ False at h1
  change cond (Nat.ble (zcats S') 8) _ False at h2
  show cond (Nat.ble (zcats S') 8) _ False
  cases c : Nat.ble (zcats S') 8 with
  | false => rw [c] at h1 h2; exact h1
  | true =>
    rw [c] at h1 h2
    change cond (Nat.beq p 0) _ _ at h1
    change cond (Nat.beq p 0) _ _ at h2
    show cond (Nat.beq p 0) _ _
    cases c0 : Nat.beq p 0 with
    | true => rw [c0] at h1 h2; exact hcm _ _ _ _ _ _ (fun r st' hq hq2 => hK _ _ _ _ _ _ hJ hq hq2) h1 h2
    | false =>
      rw [c0] at h1 h2
      change cond (Nat.beq p 1) _ False at h1
      change cond (Nat.beq p 1) _ False at h2
      show cond (Nat.beq p 1) _ False
      cases c1 : Nat.beq p 1 with
      | false => rw [c1] at h1 h2; exact h1
      | true =>
        rw [c1] at h1 h2
        rcases as with _ | ⟨v, as⟩
        · exact h1
        · rcases v with z | (z | (o | j))
          · exact h1
          · exact h1
          · refine zat_j h1 h2 (fun s h1 h2 => ?_)
            rcases s with q | q
            · change cond (Nat.beq q.1 a) _ False at h1
              change cond (Nat.beq q.1 a) _ False at h2
              show cond (Nat.beq q.1 a) _ False
              cases c2 : Nat.beq q.1 a with
              | true => rw [c2] at h1 h2; exact hcm _ _ _ _ _ _ (fun r st' hq hq2 => hK _ _ _ _ _ _ hJ hq hq2) h1 h2
              | false => rw [c2] at h1 h2; exact h1
            · exact h1
          · exact h1
end ZJN
set_option maxHeartbeats 2000000 in
theorem zstep_j {Sh : List zC} {cd rest : List rx_E} {nL q : Nat} {call1 call2 call : zCall} {R1 R2 Rt : zQ} {K1 K2 K : zG} {e : rx_E} {L1 L2 L : zL} {S : List zV} {st : zS} (hcm : ∀ nu as st Q1 Q2 Q, (∀ r st', Q1 r st' → Q2 r st' → Q r st') → call1 nu as st Q1 → call2 nu as st Q2 → call nu as st Q) (hR : ∀ r st', R1 r st' → R2 r st' → Rt r st') (hJ : JL L1 L2 L) (hK : ∀ cs L1 L2 L S st, JL L1 L2 L → K1 cs L1 S st → K2 cs L2 S st → K cs L S st) (h1 : zstep Sh cd nL q call1 R1 K1 e rest L1 S st) (h2 : zstep Sh cd nL q call2 R2 K2 e rest L2 S st) : zstep Sh cd nL q call Rt K e rest L S st := by
  obtain ⟨pc, i, len, a, b, k, t⟩ := e
  cases i with
  | iconst z => exact j_cst hJ hK h1 h2
  | bipush z => exact j_cst hJ hK h1 h2
  | sipush z => exact j_cst hJ hK h1 h2
  | ldc_w z => exact j_cst hJ hK h1 h2
  | ldc z =>
    change cond (Nat.beq b 0) _ False at h1
    change cond (Nat.beq b 0) _ False at h2
    show cond (Nat.beq b 0) _ False
    cases c0 : Nat.beq b 0 with
    | true => rw [c0] at h1 h2; exact j_cst hJ hK h1 h2
    | false => rw [c0] at h1 h2; exact h1
  | lconst z => exact j_lst hJ hK h1 h2
  | ldc2_w z => exact j_lst hJ hK h1 h2
  | iload z => exact j_ldI hJ hK h1 h2
  | iload_n z => exact j_ldI hJ hK h1 h2
  | lload z => exact j_ldL hJ hK h1 h2
  | lload_n z => exact j_ldL hJ hK h1 h2
  | aload z => exact j_ldA hJ hK h1 h2
  | aload_n z => exact j_ldA hJ hK h1 h2
  | istore z => exact j_stI hJ hK h1 h2
  | istore_n z => exact j_stI hJ hK h1 h2
  | lstore z => exact j_stL hJ hK h1 h2
  | lstore_n z => exact j_stL hJ hK h1 h2
  | astore z => exact j_stA hJ hK h1 h2
  | astore_n z => exact j_stA hJ hK h1 h2
  | iinc z z2 => exact j_inc hJ hK h1 h2
  | iadd => exact j_z2 hJ hK h1 h2
  | isub => exact j_z2 hJ hK h1 h2
  | imul => exact j_z2 hJ hK h1 h2
  | iand => exact j_z2 hJ hK h1 h2
  | ior => exact j_z2 hJ hK h1 h2
  | ixor => exact j_z2 hJ hK h1 h2
  | ishl => exact j_z2 hJ hK h1 h2
  | iushr => exact j_z2 hJ hK h1 h2
  | ishr => exact j_z2 hJ hK h1 h2
  | idiv => exact j_z2n hJ hK h1 h2
  | irem => exact j_z2n hJ hK h1 h2
  | i2b => exact j_zi2b hJ hK h1 h2
  | i2l => exact j_zi2l hJ hK h1 h2
  | l2i => exact j_zl2i hJ hK h1 h2
  | ladd => exact j_z2l hJ hK h1 h2
  | lsub => exact j_z2l hJ hK h1 h2
  | lmul => exact j_z2l hJ hK h1 h2
  | land => exact j_z2l hJ hK h1 h2
  | lor => exact j_z2l hJ hK h1 h2
  | ldiv => exact j_z2m hJ hK h1 h2
  | lrem => exact j_z2m hJ hK h1 h2
  | lshl => exact j_z2s hJ hK h1 h2
  | lshr => exact j_z2s hJ hK h1 h2
  | lcmp => exact j_zlcm hJ hK h1 h2
  | dup => exact j_zdup hJ hK h1 h2
  | dup2 => exact j_zdup2 hJ hK h1 h2
  | pop => exact j_zpop hJ hK h1 h2
  | if_icmp z z2 => exact j_zicm hJ hK h1 h2
  | ifCond z z2 => exact j_zifc hJ hK h1 h2
  | goto z => exact hK _ _ _ _ _ _ hJ h1 h2
  | tableswitch z z2 z3 z4 => exact j_zsw hJ hK h1 h2
  | getfield z => exact j_zgf hJ hK h1 h2
  | putfield z => exact j_zpf hJ hK h1 h2
  | iaload => exact j_zal hJ hK h1 h2
  | baload => exact j_zal hJ hK h1 h2
  | laload => exact j_zal hJ hK h1 h2
  | aaload => exact j_zal hJ hK h1 h2
  | iastore => exact j_zas hJ hK h1 h2
  | bastore => exact j_zas hJ hK h1 h2
  | lastore => exact j_zas hJ hK h1 h2
  | arraylength => exact j_zlen hJ hK h1 h2
  | invokevirtual z => exact zat_j h1 h2 (fun _ h1 h2 => j_zinv hcm hJ hK h1 h2)
  | invokestatic z =>
    change cond (Nat.beq k 4) _ _ at h1
    change cond (Nat.beq k 4) _ _ at h2
    show cond (Nat.beq k 4) _ _
    cases c0 : Nat.beq k 4 with
    | true => rw [c0] at h1 h2; exact j_zcpy hJ hK h1 h2
    | false => rw [c0] at h1 h2; exact j_zinv hcm hJ hK h1 h2
  | return_ =>
    change zret q R1 S st at h1
    change zret q R2 S st at h2
    show zret q Rt S st
    unfold zret at h1 h2 ⊢
    cases c : Nat.beq q 0 with
    | false => rw [c] at h1; exact h1
    | true =>
      rw [c] at h1 h2
      cases S with
      | nil => exact hR _ _ h1 h2
      | cons v t => exact h1
  | ireturn =>
    change zreti q R1 S st at h1
    change zreti q R2 S st at h2
    show zreti q Rt S st
    unfold zreti at h1 h2 ⊢
    split at h1
    · cases c : Nat.beq q 1 with
      | true => rw [c] at h1 h2; exact hR _ _ h1 h2
      | false =>
        rw [c] at h1 h2
        rename_i z
        change cond (Nat.beq q 2) _ False at h1
        change cond (Nat.beq q 2) _ False at h2
        show cond (Nat.beq q 2) _ False
        cases c2 : Nat.beq q 2 with
        | true => rw [c2] at h1 h2; exact ⟨h1.1, hR _ _ h1.2 h2.2⟩
        | false => rw [c2] at h1; exact h1
    · exact h1.elim
  | lreturn =>
    change zretl q R1 S st at h1
    change zretl q R2 S st at h2
    show zretl q Rt S st
    unfold zretl at h1 h2 ⊢
    split at h1
    · cases c : Nat.beq q 5 with
      | true => rw [c] at h1 h2; exact hR _ _ h1 h2
      | false => rw [c] at h1; exact h1
    · exact h1.elim
  | _ => exact h1

theorem zstep_r {Sh : List zC} {cd rest : List rx_E} {nL q : Nat} {call : zCall} {Rt Rt' : zQ} {K : zG} {e : rx_E} {L : zL} {S : List zV} {st : zS} (hR : ∀ r st', Rt r st' → Rt' r st') (h : zstep Sh cd nL q call Rt K e rest L S st) : zstep Sh cd nL q call Rt' K e rest L S st := by
  obtain ⟨pc, i, len, a, b, k, t⟩ := e
  cases i with
  | return_ =>
    change zret q Rt S st at h
    show zret q Rt' S st
    unfold zret at h ⊢
    cases c : Nat.beq q 0 with
    | false => rw [c] at h; exact h
    | true =>
      rw [c] at h
      cases S with
      | nil => exact hR _ _ h
      | cons v t => exact h
  | ireturn =>
    change zreti q Rt S st at h
    show zreti q Rt' S st
    unfold zreti at h ⊢
    split at h
    · cases c : Nat.beq q 1 with
      | true => rw [c] at h; exact hR _ _ h
      | false =>
        rw [c] at h
        rename_i z
        change cond (Nat.beq q 2) _ False at h
        show cond (Nat.beq q 2) _ False
        cases c2 : Nat.beq q 2 with
        | true => rw [c2] at h; exact ⟨h.1, hR _ _ h.2⟩
        | false => rw [c2] at h; exact h
    · exact h.elim
  | lreturn =>
    change zretl q Rt S st at h
    show zretl q Rt' S st
    unfold zretl at h ⊢
    split at h
    · cases c : Nat.beq q 5 with
      | true => rw [c] at h; exact hR _ _ h
      | false => rw [c] at h; exact h
    · exact h.elim
  | _ => exact h
/-- the least of all that keep what aTb asks -/
noncomputable def clm (Sh : List zC) (tb : rx_T) : Nat → zCall := fun d => Nat.rec (fun _ _ _ _ => False) (fun _ ih nu as st Q => ∃ x : List rx_E × Nat × Nat × Nat × Nat, tb[nu]? = some x ∧ zcats as ≤ x.2.1 ∧ ∀ Kz : zG, zcl Sh x.1 x.2.1 x.2.2.2.2 ih Q Kz → zsf x.1 Kz → zsl Kz → Kz x.1 (zargs as 0) [] st) d
section CLM
variable {Sh : List zC} {tb : rx_T} {cl : Nat → zCall}
theorem clm_tb : aTb Sh tb (clm Sh tb) := fun _ _ x hx _ _ _ hc h => ⟨x, hx, hc, h⟩
theorem clm_le (hTb : aTb Sh tb cl) : ∀ (d nu : Nat) (as : List zV) (st : zS) (Q Q' : zQ), (∀ r st', Q r st' → Q' r st') → clm Sh tb d nu as st Q → cl d nu as st Q' := by
  intro d
  induction d with
  | zero => intro nu as st Q Q' hQ h; exact False.elim h
  | succ d ih =>
    intro nu as st Q Q' hQ h
    obtain ⟨x, hx, hc, h⟩ := h
    refine hTb d nu x hx as st Q' hc (fun Kz hcl hsf hsl => h Kz (fun e rest L S s hz => hcl e rest L S s ?_) hsf hsl)
    exact zstep_r hQ (zstep_m (fun nu as st Q Q' => ih nu as st Q Q') (fun _ _ _ _ z => z) hz)
theorem clm_mo (d nu : Nat) (as : List zV) (st : zS) (Q Q' : zQ) (hQ : ∀ r st', Q r st' → Q' r st') (h : clm Sh tb d nu as st Q) : clm Sh tb d nu as st Q' := clm_le clm_tb d nu as st Q Q' hQ h
def wlp (Sh : List zC) (cd : List rx_E) (nL q : Nat) (call : zCall) (Rt : zQ) : zG := fun cs L S st => ∀ K : zG, zcl Sh cd nL q call Rt K → zsf cd K → zsl K → K cs L S st
theorem wlp_sl {cd : List rx_E} {nL q : Nat} {call : zCall} {Rt : zQ} : zsl (wlp Sh cd nL q call Rt) := fun cs L L' S st hs h K h1 h2 h3 => h3 cs L L' S st hs (h K h1 h2 h3)
theorem wlp_inv {cd : List rx_E} {nL q : Nat} {call : zCall} (hcm : ∀ nu as st (Q Q' : zQ), (∀ r st', Q r st' → Q' r st') → call nu as st Q → call nu as st Q') {Rt : zQ} {e : rx_E} {rest : List rx_E} {L : zL} {S : List zV} {st : zS} (h : wlp Sh cd nL q call Rt (e :: rest) L S st) (hp : ∃ pre, cd = pre ++ (e :: rest)) : ∃ L' : zL, (∀ x : Nat × zV, x ∈ L' → x ∈ L) ∧ zstep Sh cd nL q call Rt (wlp Sh cd nL q call Rt) e rest L' S st := by
  have z := h (fun cs L S st => wlp Sh cd nL q call Rt cs L S st ∧ ∀ (e : rx_E) (rest : List rx_E), cs = e :: rest → (∃ pre, cd = pre ++ cs) → ∃ L' : zL, (∀ x : Nat × zV, x ∈ L' → x ∈ L) ∧ zstep Sh cd nL q call Rt (wlp Sh cd nL q call Rt) e rest L' S st) ?_ ?_ ?_
  · exact z.2 e rest rfl hp
  · intro e rest L S st hz
    refine ⟨fun K h1 h2 h3 => h1 e rest L S st (zstep_m hcm (fun cs L S st q => q.1 K h1 h2 h3) hz), fun e' rest' he _ => ?_⟩
    cases he
    exact ⟨L, fun x hx => hx, zstep_m hcm (fun cs L S st q => q.1) hz⟩
  · intro cs L S st hne hz
    refine ⟨fun K h1 h2 h3 => h2 cs L S st hne (fun hp => (hz hp).1 K h1 h2 h3), fun e rest he hp => (hz hp).2 e rest he hp⟩
  · intro cs L L' S st hs hz
    refine ⟨wlp_sl cs L L' S st hs hz.1, fun e rest he hp => ?_⟩
    obtain ⟨L2, z1, z2⟩ := hz.2 e rest he hp
    exact ⟨L2, fun x hx => hs x (z1 x hx), z2⟩
theorem zargs_ge (as : List zV) : ∀ (i : Nat) (x : Nat × zV), x ∈ zargs as i → i ≤ x.1 := by
  induction as with
  | nil => intro i x hx; cases hx
  | cons v t ih =>
    intro i x hx
    rcases List.mem_cons.mp (show x ∈ (i, v) :: zargs t (i + zcat v) from hx) with z | z
    · rw [z]; exact Nat.le_refl _
    · have := ih _ x z
      omega
theorem zcat_pos (v : zV) : 1 ≤ zcat v := by
  unfold zcat
  split <;> omega
theorem zargs_fu (as : List zV) : ∀ i : Nat, FU (zargs as i) := by
  induction as with
  | nil => intro i j v u hv; cases hv
  | cons w t ih =>
    intro i j v u hv hu
    have hw := zcat_pos w
    rcases List.mem_cons.mp (show (j, v) ∈ (i, w) :: zargs t (i + zcat w) from hv) with z | z <;> rcases List.mem_cons.mp (show (j, u) ∈ (i, w) :: zargs t (i + zcat w) from hu) with z2 | z2
    · cases z; cases z2; rfl
    · cases z
      have q := zargs_ge t _ _ z2
      exact absurd (show i + zcat w ≤ i from q) (by omega)
    · cases z2
      have q := zargs_ge t _ _ z
      exact absurd (show i + zcat w ≤ i from q) (by omega)
    · exact ih _ j v u z z2
def clj (Sh : List zC) (tb : rx_T) : Nat → zCall := fun d nu as st Q => ∀ Q2 Q3 : zQ, (∀ r st', Q r st' → Q2 r st' → Q3 r st') → clm Sh tb d nu as st Q2 → clm Sh tb d nu as st Q3
theorem clj_tb : aTb Sh tb (clj Sh tb) := by
  intro d nu x hx as st Q hc h Q2 Q3 hQ h2
  obtain ⟨y, hy, -, h2⟩ := h2
  rw [hx] at hy
  cases hy
  refine ⟨x, hx, hc, fun Kz hcl hsf hsl => ?_⟩
  refine h (fun cs L S st => ∀ Lb : zL, (∀ x : Nat × zV, x ∈ L → x ∈ Lb) → FU Lb → wlp Sh x.1 x.2.1 x.2.2.2.2 (clm Sh tb d) Q2 cs Lb S st → Kz cs Lb S st) ?_ ?_ ?_ (zargs as 0) (fun _ z => z) (zargs_fu as 0) h2
  · intro e rest L S s hz Lb hs hf hw
    refine hsf (e :: rest) Lb S s (fun z => by cases z) (fun hp => ?_)
    obtain ⟨L2, q1, q2⟩ := wlp_inv (clm_mo d) hw hp
    refine hcl e rest Lb S s (zstep_j (fun nu as st Q1 Q2 Q hq a1 a2 => a1 Q2 Q hq a2) hQ ⟨hs, q1, hf⟩ (fun cs L1 L2 L S st hJ k1 k2 => ?_) hz q2)
    exact k1 L hJ.1 hJ.2.2 (wlp_sl cs L L2 S st hJ.2.1 k2)
  · intro cs L S s hne hz Lb hs hf hw
    exact hsf cs Lb S s hne (fun hp => hz hp Lb hs hf hw)
  · intro cs L L' S s hs hz Lb hs2 hf hw
    exact hz Lb (fun x hx => hs2 x (hs x hx)) hf hw
/-- two contracts in one -/
theorem cl_join {D nu : Nat} {as : List zV} {st : zS} {Q1 Q2 : zQ} (h1 : ∀ cl : Nat → zCall, aTb Sh tb cl → cl D nu as st Q1) (h2 : ∀ cl : Nat → zCall, aTb Sh tb cl → cl D nu as st Q2) (hTb : aTb Sh tb cl) {Q : zQ} (hQ : ∀ r st', Q1 r st' → Q2 r st' → Q r st') : cl D nu as st Q :=
  clm_le hTb D nu as st Q Q (fun _ _ z => z) (h1 (clj Sh tb) clj_tb Q2 Q hQ (h2 (clm Sh tb) clm_tb))
end CLM
