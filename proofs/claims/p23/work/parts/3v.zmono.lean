/-! a step of the second layer is monotone; some steps at once -/
theorem zget_m {L : zL} {i : Nat} {k k' : zV → Prop} (h : zget L i k) (hk : ∀ v, k v → k' v) : zget L i k' := by
  induction L with
  | nil => exact h
  | cons q t ih =>
    change cond (Nat.beq q.1 i) (k q.2) (zget t i k) at h
    show cond (Nat.beq q.1 i) (k' q.2) (zget t i k')
    cases c : Nat.beq q.1 i with
    | true => rw [c] at h; exact hk _ h
    | false => rw [c] at h; exact ih h
theorem zat_m {α : Type} {l : List α} {n : Nat} {k k' : α → Prop} (h : zat l n k) (hk : ∀ v, k v → k' v) : zat l n k' := by
  obtain ⟨x, h1, h2⟩ := zat_ok h
  exact zat_of h1 (hk x h2)
theorem zsws_m {P P' : Nat → Prop} {x : Int} (hP : ∀ g, P g → P' g) : ∀ {t : List Nat} {n : Int}, zsws P x t n → zsws P' x t n := by
  intro t
  induction t with
  | nil => intro n h; trivial
  | cons g t ih =>
    intro n h
    have h : (x = n → P g) ∧ zsws P x t (n + 1) := h
    exact ⟨fun e => hP g (h.1 e), ih h.2⟩
theorem ztake_m : ∀ {n : Nat} {S acc : List zV} {k k' : List zV → List zV → Prop}, ztake n S acc k → (∀ a b, k a b → k' a b) → ztake n S acc k' := by
  intro n
  induction n with
  | zero => intro S acc k k' h hk; exact hk _ _ h
  | succ n ih =>
    intro S acc k k' h hk
    cases S with
    | nil => exact h
    | cons v t => exact ih (S := t) (acc := v :: acc) h hk
section ZMONO
variable {K K' : zG} {rest cd tgt : List rx_E} {a b k nL p n nu : Nat} {L : zL} {S : List zV} {st : zS} {f : Int → Int → Int} {cn : Jvm.ClassFile.Cond} {t : List Nat} {Sh : List zC} {call call' : zCall}
theorem m_cst (hK : ∀ cs L S st, K' cs L S st → K cs L S st) (h : zcst K' rest a L S st) : zcst K rest a L S st := by
  unfold zcst at h ⊢
  cases c : Nat.blt a 4294967296 with
  | true => rw [c] at h; exact hK _ _ _ _ h
  | false => rw [c] at h; exact h
theorem m_lst (hK : ∀ cs L S st, K' cs L S st → K cs L S st) (h : zlst K' rest a L S st) : zlst K rest a L S st := by
  unfold zlst at h ⊢
  cases c : Nat.blt a 18446744073709551616 with
  | true => rw [c] at h; exact hK _ _ _ _ h
  | false => rw [c] at h; exact h
theorem m_ldI (hK : ∀ cs L S st, K' cs L S st → K cs L S st) (h : zldI K' rest a L S st) : zldI K rest a L S st := by
  refine zget_m h (fun v h => ?_)
  rcases v with x | (x | x) <;> first | exact hK _ _ _ _ h | exact h
theorem m_ldL (hK : ∀ cs L S st, K' cs L S st → K cs L S st) (h : zldL K' rest a L S st) : zldL K rest a L S st := by
  refine zget_m h (fun v h => ?_)
  rcases v with x | (x | x) <;> first | exact hK _ _ _ _ h | exact h
theorem m_ldA (hK : ∀ cs L S st, K' cs L S st → K cs L S st) (h : zldA K' rest a L S st) : zldA K rest a L S st := by
  refine zget_m h (fun v h => ?_)
  rcases v with x | (x | x) <;> first | exact hK _ _ _ _ h | exact h
theorem m_stI (hK : ∀ cs L S st, K' cs L S st → K cs L S st) (h : zstI nL K' rest a L S st) : zstI nL K rest a L S st := by
  unfold zstI at h ⊢
  split at h
  · cases c : Nat.blt a nL with
    | true => rw [c] at h; exact hK _ _ _ _ h
    | false => rw [c] at h; exact h
  · exact h.elim
theorem m_stL (hK : ∀ cs L S st, K' cs L S st → K cs L S st) (h : zstL nL K' rest a L S st) : zstL nL K rest a L S st := by
  unfold zstL at h ⊢
  split at h
  · cases c : Nat.blt (Nat.succ a) nL with
    | true => rw [c] at h; exact hK _ _ _ _ h
    | false => rw [c] at h; exact h
  · exact h.elim
theorem m_stA (hK : ∀ cs L S st, K' cs L S st → K cs L S st) (h : zstA nL K' rest a L S st) : zstA nL K rest a L S st := by
  unfold zstA at h ⊢
  split at h
  · cases c : Nat.blt a nL with
    | true => rw [c] at h; exact hK _ _ _ _ h
    | false => rw [c] at h; exact h
  · exact h.elim
theorem m_inc (hK : ∀ cs L S st, K' cs L S st → K cs L S st) (h : zinc nL K' rest a b L S st) : zinc nL K rest a b L S st := by
  refine zget_m h (fun v h => ?_)
  rcases v with x | (x | x)
  · change cond (Nat.blt a nL && Nat.blt b 4294967296) _ False at h
    show cond (Nat.blt a nL && Nat.blt b 4294967296) _ False
    cases c : (Nat.blt a nL && Nat.blt b 4294967296) with
    | true => rw [c] at h; exact hK _ _ _ _ h
    | false => rw [c] at h; exact h
  · exact h
  · exact h
theorem m_z2 (hK : ∀ cs L S st, K' cs L S st → K cs L S st) (h : z2 f K' rest L S st) : z2 f K rest L S st := by
  unfold z2 at h ⊢
  split at h
  · exact hK _ _ _ _ h
  · exact h.elim
theorem m_z2l (hK : ∀ cs L S st, K' cs L S st → K cs L S st) (h : z2l f K' rest L S st) : z2l f K rest L S st := by
  unfold z2l at h ⊢
  split at h
  · exact hK _ _ _ _ h
  · exact h.elim
theorem m_z2s (hK : ∀ cs L S st, K' cs L S st → K cs L S st) (h : z2s f K' rest L S st) : z2s f K rest L S st := by
  unfold z2s at h ⊢
  split at h
  · exact hK _ _ _ _ h
  · exact h.elim
theorem m_z2n (hK : ∀ cs L S st, K' cs L S st → K cs L S st) (h : z2n f K' rest L S st) : z2n f K rest L S st := by
  unfold z2n at h ⊢
  split at h
  · exact ⟨h.1, hK _ _ _ _ h.2⟩
  · exact h.elim
theorem m_z2m (hK : ∀ cs L S st, K' cs L S st → K cs L S st) (h : z2m f K' rest L S st) : z2m f K rest L S st := by
  unfold z2m at h ⊢
  split at h
  · exact ⟨h.1, hK _ _ _ _ h.2⟩
  · exact h.elim
theorem m_zi2l (hK : ∀ cs L S st, K' cs L S st → K cs L S st) (h : zi2l K' rest L S st) : zi2l K rest L S st := by
  unfold zi2l at h ⊢
  split at h
  · exact hK _ _ _ _ h
  · exact h.elim
theorem m_zl2i (hK : ∀ cs L S st, K' cs L S st → K cs L S st) (h : zl2i K' rest L S st) : zl2i K rest L S st := by
  unfold zl2i at h ⊢
  split at h
  · exact hK _ _ _ _ h
  · exact h.elim
theorem m_zi2b (hK : ∀ cs L S st, K' cs L S st → K cs L S st) (h : zi2b K' rest L S st) : zi2b K rest L S st := by
  unfold zi2b at h ⊢
  split at h
  · exact hK _ _ _ _ h
  · exact h.elim
theorem m_zlcm (hK : ∀ cs L S st, K' cs L S st → K cs L S st) (h : zlcm K' rest L S st) : zlcm K rest L S st := by
  unfold zlcm at h ⊢
  split at h
  · exact ⟨fun c => hK _ _ _ _ (h.1 c), fun c => hK _ _ _ _ (h.2.1 c), fun c => hK _ _ _ _ (h.2.2 c)⟩
  · exact h.elim
theorem m_zdup (hK : ∀ cs L S st, K' cs L S st → K cs L S st) (h : zdup K' rest L S st) : zdup K rest L S st := by
  unfold zdup at h ⊢
  split at h
  · rename_i v S'
    cases c : Nat.beq (zcat v) 1 with
    | true => rw [c] at h; exact hK _ _ _ _ h
    | false => rw [c] at h; exact h
  · exact h.elim
theorem m_zpop (hK : ∀ cs L S st, K' cs L S st → K cs L S st) (h : zpop K' rest L S st) : zpop K rest L S st := by
  unfold zpop at h ⊢
  split at h
  · rename_i v S'
    cases c : Nat.beq (zcat v) 1 with
    | true => rw [c] at h; exact hK _ _ _ _ h
    | false => rw [c] at h; exact h
  · exact h.elim
theorem m_zdup2 (hK : ∀ cs L S st, K' cs L S st → K cs L S st) (h : zdup2 K' rest L S st) : zdup2 K rest L S st := by
  unfold zdup2 at h ⊢
  split at h
  · rename_i v u S'
    cases c : (Nat.beq (zcat v) 1 && Nat.beq (zcat u) 1) with
    | true => rw [c] at h; exact hK _ _ _ _ h
    | false => rw [c] at h; exact h
  · exact h.elim
theorem m_zicm (hK : ∀ cs L S st, K' cs L S st → K cs L S st) (h : zicm cn K' tgt rest L S st) : zicm cn K tgt rest L S st := by
  unfold zicm at h ⊢
  split at h
  · exact ⟨fun c => hK _ _ _ _ (h.1 c), fun c => hK _ _ _ _ (h.2 c)⟩
  · exact h.elim
theorem m_zifc (hK : ∀ cs L S st, K' cs L S st → K cs L S st) (h : zifc cn K' tgt rest L S st) : zifc cn K tgt rest L S st := by
  unfold zifc at h ⊢
  split at h
  · exact ⟨fun c => hK _ _ _ _ (h.1 c), fun c => hK _ _ _ _ (h.2 c)⟩
  · exact h.elim
theorem m_zsw (hK : ∀ cs L S st, K' cs L S st → K cs L S st) (h : zsw cd K' a b k t L S st) : zsw cd K a b k t L S st := by
  unfold zsw at h ⊢
  split at h
  · cases c : Nat.beq (b + t.length) (k + 1) with
    | true =>
      rw [c] at h
      exact ⟨fun q => hK _ _ _ _ (h.1 q), fun q => hK _ _ _ _ (h.2.1 q), zsws_m (fun g hg => hK _ _ _ _ hg) h.2.2⟩
    | false => rw [c] at h; exact h
  · exact h.elim
theorem m_zgf (hK : ∀ cs L S st, K' cs L S st → K cs L S st) (h : zgf Sh K' rest a b k L S st) : zgf Sh K rest a b k L S st := by
  unfold zgf at h ⊢
  split at h
  · cases c : Nat.ble k 1 with
    | false => rw [c] at h; exact h
    | true =>
      rw [c] at h
      refine zat_m h (fun s h => ?_)
      rcases s with ⟨a', ks⟩ | p
      · change cond (Nat.beq a' a) _ False at h
        show cond (Nat.beq a' a) _ False
        cases c2 : Nat.beq a' a with
        | false => rw [c2] at h; exact h
        | true => rw [c2] at h; exact zat_m h (fun _ h => hK _ _ _ _ h)
      · exact h
  · exact h.elim
theorem m_zpf (hK : ∀ cs L S st, K' cs L S st → K cs L S st) (h : zpf Sh K' rest a b k L S st) : zpf Sh K rest a b k L S st := by
  unfold zpf at h ⊢
  split at h
  · rename_i v o S'
    refine zat_m h (fun s h => ?_)
    rcases s with ⟨a', ks⟩ | p
    · change cond (Nat.beq a' a) _ False at h
      show cond (Nat.beq a' a) _ False
      cases c2 : Nat.beq a' a with
      | false => rw [c2] at h; exact h
      | true =>
        rw [c2] at h
        refine zat_m h (fun kd h => ?_)
        change cond (Nat.beq kd k) _ False at h
        show cond (Nat.beq kd k) _ False
        cases c3 : Nat.beq kd k with
        | false => rw [c3] at h; exact h
        | true =>
          rw [c3] at h
          rcases v with z | (z | (r | j))
          · change cond (Nat.beq kd 0) _ (cond (Nat.beq kd 2) _ False) at h
            show cond (Nat.beq kd 0) _ (cond (Nat.beq kd 2) _ False)
            cases c4 : Nat.beq kd 0 with
            | true => rw [c4] at h; exact hK _ _ _ _ h
            | false =>
              rw [c4] at h
              change cond (Nat.beq kd 2) _ False at h
              show cond (Nat.beq kd 2) _ False
              cases c5 : Nat.beq kd 2 with
              | true => rw [c5] at h; exact ⟨h.1, hK _ _ _ _ h.2⟩
              | false => rw [c5] at h; exact h
          · change cond (Nat.beq kd 3) _ False at h
            show cond (Nat.beq kd 3) _ False
            cases c4 : Nat.beq kd 3 with
            | true => rw [c4] at h; exact hK _ _ _ _ h
            | false => rw [c4] at h; exact h
          · change cond (Nat.beq kd 4) _ False at h
            show cond (Nat.beq kd 4) _ False
            cases c4 : Nat.beq kd 4 with
            | true => rw [c4] at h; exact hK _ _ _ _ h
            | false => rw [c4] at h; exact h
          · exact h
    · exact h
  · exact h.elim
theorem m_zal (hK : ∀ cs L S st, K' cs L S st → K cs L S st) (h : zal Sh p K' rest L S st) : zal Sh p K rest L S st := by
  unfold zal at h ⊢
  split at h
  · refine zat_m h (fun s h => ?_)
    rcases s with q | q
    · exact h
    · change cond (Nat.beq q.1 p || (Nat.beq p 1 && Nat.beq q.1 2)) _ False at h
      show cond (Nat.beq q.1 p || (Nat.beq p 1 && Nat.beq q.1 2)) _ False
      cases c : (Nat.beq q.1 p || (Nat.beq p 1 && Nat.beq q.1 2)) with
      | true => rw [c] at h; exact ⟨h.1, hK _ _ _ _ h.2⟩
      | false => rw [c] at h; exact h
  · exact h.elim
theorem m_zas (hK : ∀ cs L S st, K' cs L S st → K cs L S st) (h : zas Sh p K' rest L S st) : zas Sh p K rest L S st := by
  unfold zas at h ⊢
  split at h
  · rename_i v j o S'
    refine zat_m h (fun s h => ?_)
    rcases s with q | q
    · exact h
    · change cond (Nat.beq q.1 p || (Nat.beq p 1 && Nat.beq q.1 2)) _ False at h
      show cond (Nat.beq q.1 p || (Nat.beq p 1 && Nat.beq q.1 2)) _ False
      cases c : (Nat.beq q.1 p || (Nat.beq p 1 && Nat.beq q.1 2)) with
      | false => rw [c] at h; exact h
      | true =>
        rw [c] at h
        refine ⟨h.1, ?_⟩
        have h := h.2
        rcases v with z | (z | (r | i))
        · change cond (Nat.beq q.1 0) _ (cond (Nat.beq q.1 1) _ (cond (Nat.beq q.1 2) _ False)) at h
          show cond (Nat.beq q.1 0) _ (cond (Nat.beq q.1 1) _ (cond (Nat.beq q.1 2) _ False))
          cases c4 : Nat.beq q.1 0 with
          | true => rw [c4] at h; exact hK _ _ _ _ h
          | false =>
            rw [c4] at h
            change cond (Nat.beq q.1 1) _ (cond (Nat.beq q.1 2) _ False) at h
            show cond (Nat.beq q.1 1) _ (cond (Nat.beq q.1 2) _ False)
            cases c5 : Nat.beq q.1 1 with
            | true => rw [c5] at h; exact hK _ _ _ _ h
            | false =>
              rw [c5] at h
              change cond (Nat.beq q.1 2) _ False at h
              show cond (Nat.beq q.1 2) _ False
              cases c6 : Nat.beq q.1 2 with
              | true => rw [c6] at h; exact ⟨h.1, hK _ _ _ _ h.2⟩
              | false => rw [c6] at h; exact h
        · change cond (Nat.beq q.1 3) _ False at h
          show cond (Nat.beq q.1 3) _ False
          cases c4 : Nat.beq q.1 3 with
          | true => rw [c4] at h; exact hK _ _ _ _ h
          | false => rw [c4] at h; exact h
        · exact h
        · exact h
  · exact h.elim
theorem m_zlen (hK : ∀ cs L S st, K' cs L S st → K cs L S st) (h : zlen Sh K' rest L S st) : zlen Sh K rest L S st := by
  unfold zlen at h ⊢
  split at h
  · refine zat_m h (fun s h => ?_)
    rcases s with q | q
    · exact h
    · exact hK _ _ _ _ h
  · exact h.elim
theorem m_zcpy (hK : ∀ cs L S st, K' cs L S st → K cs L S st) (h : zcpy Sh K' rest L S st) : zcpy Sh K rest L S st := by
  unfold zcpy at h ⊢
  split at h
  · rename_i n dp c1 sp c0 S'
    cases c : Nat.ble (zcats S') 8 with
    | false => rw [c] at h; exact h
    | true =>
      rw [c] at h
      refine zat_m h (fun s h => ?_)
      rcases s with q | q
      · exact h
      · refine zat_m h (fun s h => ?_)
        rcases s with q' | q'
        · exact h
        · change cond (Nat.beq q.1 0 && Nat.beq q'.1 0) _ False at h
          show cond (Nat.beq q.1 0 && Nat.beq q'.1 0) _ False
          cases c2 : (Nat.beq q.1 0 && Nat.beq q'.1 0) with
          | true => rw [c2] at h; exact ⟨h.1, hK _ _ _ _ h.2⟩
          | false => rw [c2] at h; exact h
  · exact h.elim
theorem m_zinv (hcm : ∀ nu as st Q Q', (∀ r st', Q r st' → Q' r st') → call' nu as st Q → call nu as st Q') (hK : ∀ cs L S st, K' cs L S st → K cs L S st) (h : zinv Sh call' K' rest nu n p a L S st) : zinv Sh call K rest nu n p a L S st := by
  refine ztake_m h (fun as S' h => ?_)
  change cond (Nat.ble (zcats S') 8) _ False at h
  show cond (Nat.ble (zcats S') 8) _ False
  cases c : Nat.ble (zcats S') 8 with
  | false => rw [c] at h; exact h
  | true =>
    rw [c] at h
    change cond (Nat.beq p 0) _ _ at h
    show cond (Nat.beq p 0) _ _
    cases c0 : Nat.beq p 0 with
    | true => rw [c0] at h; exact hcm _ _ _ _ _ (fun r st' hq => hK _ _ _ _ hq) h
    | false =>
      rw [c0] at h
      change cond (Nat.beq p 1) _ False at h
      show cond (Nat.beq p 1) _ False
      cases c1 : Nat.beq p 1 with
      | false => rw [c1] at h; exact h
      | true =>
        rw [c1] at h
        rcases as with _ | ⟨v, as⟩
        · exact h
        · rcases v with z | (z | (o | j))
          · exact h
          · exact h
          · refine zat_m h (fun s h => ?_)
            rcases s with q | q
            · change cond (Nat.beq q.1 a) _ False at h
              show cond (Nat.beq q.1 a) _ False
              cases c2 : Nat.beq q.1 a with
              | true => rw [c2] at h; exact hcm _ _ _ _ _ (fun r st' hq => hK _ _ _ _ hq) h
              | false => rw [c2] at h; exact h
            · exact h
          · exact h
end ZMONO
set_option maxHeartbeats 2000000 in
theorem zstep_m {Sh : List zC} {cd rest : List rx_E} {nL q : Nat} {call call' : zCall} {Rt : zQ} {K K' : zG} {e : rx_E} {L : zL} {S : List zV} {st : zS} (hcm : ∀ nu as st Q Q', (∀ r st', Q r st' → Q' r st') → call' nu as st Q → call nu as st Q') (hK : ∀ cs L S st, K' cs L S st → K cs L S st) (h : zstep Sh cd nL q call' Rt K' e rest L S st) : zstep Sh cd nL q call Rt K e rest L S st := by
  obtain ⟨pc, i, len, a, b, k, t⟩ := e
  cases i with
  | iconst z => exact m_cst hK h
  | bipush z => exact m_cst hK h
  | sipush z => exact m_cst hK h
  | ldc_w z => exact m_cst hK h
  | ldc z =>
    change cond (Nat.beq b 0) _ False at h
    show cond (Nat.beq b 0) _ False
    cases c0 : Nat.beq b 0 with
    | true => rw [c0] at h; exact m_cst hK h
    | false => rw [c0] at h; exact h
  | lconst z => exact m_lst hK h
  | ldc2_w z => exact m_lst hK h
  | iload z => exact m_ldI hK h
  | iload_n z => exact m_ldI hK h
  | lload z => exact m_ldL hK h
  | lload_n z => exact m_ldL hK h
  | aload z => exact m_ldA hK h
  | aload_n z => exact m_ldA hK h
  | istore z => exact m_stI hK h
  | istore_n z => exact m_stI hK h
  | lstore z => exact m_stL hK h
  | lstore_n z => exact m_stL hK h
  | astore z => exact m_stA hK h
  | astore_n z => exact m_stA hK h
  | iinc z z2 => exact m_inc hK h
  | iadd => exact m_z2 hK h
  | isub => exact m_z2 hK h
  | imul => exact m_z2 hK h
  | iand => exact m_z2 hK h
  | ior => exact m_z2 hK h
  | ixor => exact m_z2 hK h
  | ishl => exact m_z2 hK h
  | iushr => exact m_z2 hK h
  | ishr => exact m_z2 hK h
  | idiv => exact m_z2n hK h
  | irem => exact m_z2n hK h
  | i2b => exact m_zi2b hK h
  | i2l => exact m_zi2l hK h
  | l2i => exact m_zl2i hK h
  | ladd => exact m_z2l hK h
  | lsub => exact m_z2l hK h
  | lmul => exact m_z2l hK h
  | land => exact m_z2l hK h
  | lor => exact m_z2l hK h
  | ldiv => exact m_z2m hK h
  | lrem => exact m_z2m hK h
  | lshl => exact m_z2s hK h
  | lshr => exact m_z2s hK h
  | lcmp => exact m_zlcm hK h
  | dup => exact m_zdup hK h
  | dup2 => exact m_zdup2 hK h
  | pop => exact m_zpop hK h
  | if_icmp z z2 => exact m_zicm hK h
  | ifCond z z2 => exact m_zifc hK h
  | goto z => exact hK _ _ _ _ h
  | tableswitch z z2 z3 z4 => exact m_zsw hK h
  | getfield z => exact m_zgf hK h
  | putfield z => exact m_zpf hK h
  | iaload => exact m_zal hK h
  | baload => exact m_zal hK h
  | laload => exact m_zal hK h
  | aaload => exact m_zal hK h
  | iastore => exact m_zas hK h
  | bastore => exact m_zas hK h
  | lastore => exact m_zas hK h
  | arraylength => exact m_zlen hK h
  | invokevirtual z => exact zat_m h (fun _ h => m_zinv hcm hK h)
  | invokestatic z =>
    change cond (Nat.beq k 4) _ _ at h
    show cond (Nat.beq k 4) _ _
    cases c0 : Nat.beq k 4 with
    | true => rw [c0] at h; exact m_zcpy hK h
    | false => rw [c0] at h; exact m_zinv hcm hK h
  | return_ => exact h
  | ireturn => exact h
  | lreturn => exact h
  | _ => exact h
/-- some steps at once, up to given places; calls by contracts -/
noncomputable def zrs (Sh : List zC) (cd : List rx_E) (nL q : Nat) (wc : zCall) (Rt : zQ) (K : zG) (stp : List Nat) (n : Nat) : zG := Nat.rec K (fun _ ih cs L S st => match cs with
  | [] => False
  | e :: rest => cond (amem e.1 stp) (K cs L S st) (zstep Sh cd nL q wc Rt ih e rest L S st)) n
noncomputable def zr1 (Sh : List zC) (cd : List rx_E) (nL q : Nat) (wc : zCall) (Rt : zQ) (K : zG) (stp : List Nat) (n : Nat) (cs : List rx_E) (L : zL) (S : List zV) (st : zS) : Prop := match cs with
  | [] => False
  | e :: rest => zstep Sh cd nL q wc Rt (zrs Sh cd nL q wc Rt K stp n) e rest L S st
section ZRS
variable {Sh : List zC} {cd : List rx_E} {nL q : Nat} {call wc : zCall} {Rt : zQ} {K : zG} {stp : List Nat}
theorem zrs_ok (hcm : ∀ nu as st Q Q', (∀ r st', Q r st' → Q' r st') → wc nu as st Q → call nu as st Q') (hcl : zcl Sh cd nL q call Rt K) : ∀ (n : Nat) (cs : List rx_E) (L : zL) (S : List zV) (st : zS), zrs Sh cd nL q wc Rt K stp n cs L S st → K cs L S st := by
  intro n
  induction n with
  | zero => intro cs L S st h; exact h
  | succ n ih =>
    intro cs L S st h
    cases cs with
    | nil => exact absurd h id
    | cons e rest =>
      change cond (amem e.1 stp) (K (e :: rest) L S st) (zstep Sh cd nL q wc Rt (zrs Sh cd nL q wc Rt K stp n) e rest L S st) at h
      cases c : amem e.1 stp with
      | true => rw [c] at h; exact h
      | false => rw [c] at h; exact hcl e rest L S st (zstep_m hcm (fun cs L S st h => ih cs L S st h) h)
theorem zr1_ok (hcm : ∀ nu as st Q Q', (∀ r st', Q r st' → Q' r st') → wc nu as st Q → call nu as st Q') (hcl : zcl Sh cd nL q call Rt K) (n : Nat) {cs : List rx_E} {L : zL} {S : List zV} {st : zS} (h : zr1 Sh cd nL q wc Rt K stp n cs L S st) : K cs L S st := by
  cases cs with
  | nil => exact absurd h id
  | cons e rest => exact hcl e rest L S st (zstep_m hcm (fun cs L S st h => zrs_ok hcm hcl n cs L S st h) h)
end ZRS
/-- no call at all -/
def zno : zCall := fun _ _ _ _ => False
theorem zno_m {call : zCall} : ∀ nu as st (Q Q' : zQ), (∀ r st', Q r st' → Q' r st') → zno nu as st Q → call nu as st Q' := fun _ _ _ _ _ _ h => h.elim
