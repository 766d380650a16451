/-! a step of the interval executor is a step of the second layer: all of them -/
set_option maxHeartbeats 2000000 in
theorem astep_ok {gt : aG} {m : aM} {st0 : zS} {n0 : Nat} {rho0 : Nat → Int} {K : aK} {Kz : zG} {rest cd : List rx_E} {F : aF} {rho : Nat → Int} {L : aL} {S : List aV} {O : aO} {A : aA} {Lz : zL} {Sz : List zV} {st : zS} {Sh : List zC} {nL q : Nat} {call : zCall} {ic : aC} {kc : aE} {Rt : zQ} {e : rx_E} (hK : aKs gt m st0 n0 rho0 K Kz) (hE : aEs gt m st0 n0 rho0 kc Rt) (hC : aCs gt m st0 n0 rho0 ic call) (X : aX gt m st0 n0 rho0 F rho L S O A Lz Sz st) (h : astep Sh gt m cd nL q ic kc K e rest L S F O A = true) : zstep Sh cd nL q call Rt Kz e rest Lz Sz st := by
  obtain ⟨pc, i, len, a, b, k, t⟩ := e
  cases i with
  | iconst z => exact s_cst hK X h
  | bipush z => exact s_cst hK X h
  | sipush z => exact s_cst hK X h
  | ldc_w z => exact s_cst hK X h
  | ldc z =>
    obtain ⟨h1, h2⟩ := acond (show cond (Nat.beq b 0) _ false = true from h)
    exact zcond h1 (s_cst hK X h2)
  | lconst z => exact s_lst hK X h
  | ldc2_w z => exact s_lst hK X h
  | iload z => exact s_ldI hK X h
  | iload_n z => exact s_ldI hK X h
  | lload z => exact s_ldL hK X h
  | lload_n z => exact s_ldL hK X h
  | aload z => exact s_ldA hK X h
  | aload_n z => exact s_ldA hK X h
  | istore z => exact s_stI hK X h
  | istore_n z => exact s_stI hK X h
  | lstore z => exact s_stL hK X h
  | lstore_n z => exact s_stL hK X h
  | astore z => exact s_stA hK X h
  | astore_n z => exact s_stA hK X h
  | iinc z z2 => exact s_inc hK X h
  | iadd => exact s_2 (f := aad afI) (fun h hF ha hb => aad_ok (W := zw) h zwI (fun z => zw_ok z) hF ha hb) hK X h
  | isub => exact s_2 (f := asb afI) (fun h hF ha hb => asb_ok (W := zw) h zwI (fun z => zw_ok z) hF ha hb) hK X h
  | imul => exact s_2 (f := aml afI) (fun h hF ha hb => aml_ok (W := zw) h zwI (fun z => zw_ok z) hF ha hb) hK X h
  | iand => exact s_2 (f := aan afI) (fun h hF _ hb => aan_ok h hF hb) hK X h
  | ior => exact s_2 (f := aany afI) (fun h hF _ _ => aany_ok h hF (zd_ok (zlor _ _)).1 (zd_ok (zlor _ _)).2) hK X h
  | ixor => exact s_2 (f := aany afI) (fun h hF _ _ => aany_ok h hF (zd_ok (zlxor _ _)).1 (zd_ok (zlxor _ _)).2) hK X h
  | ishl => exact s_2 (f := aany afI) (fun h hF _ _ => aany_ok h hF (zd_ok (Nat.mod_lt _ (by decide))).1 (zd_ok (Nat.mod_lt _ (by decide))).2) hK X h
  | iushr => exact s_2 (f := aany afI) (fun h hF _ _ => aany_ok h hF (zd_ok (zush _ _)).1 (zd_ok (zush _ _)).2) hK X h
  | ishr => exact s_2 (f := ashr afI) (fun h hF ha _ => ashr_ok h hF ha (zpw_pos _)) hK X h
  | idiv => exact s_2n (f := adiv afI) (fun h hF _ hb => adiv_ok h hF hb (zw_ok _).1 (zw_ok _).2) hK X h
  | irem => exact s_2n (f := arem afI) (fun h hF ha hb => arem_ok (W := zw) h zwI (fun z => zw_ok z) rfl hF ha hb) hK X h
  | i2b => exact s_i2b hK X h
  | i2l => exact s_i2l hK X h
  | l2i => exact s_l2i hK X h
  | ladd => exact s_2l (f := aad afJ) (fun h hF ha hb => aad_ok (W := zx) h zxJ (fun z => zx_ok z) hF ha hb) hK X h
  | lsub => exact s_2l (f := asb afJ) (fun h hF ha hb => asb_ok (W := zx) h zxJ (fun z => zx_ok z) hF ha hb) hK X h
  | lmul => exact s_2l (f := aml afJ) (fun h hF ha hb => aml_ok (W := zx) h zxJ (fun z => zx_ok z) hF ha hb) hK X h
  | land => exact s_2l (f := aany afJ) (fun h hF _ _ => aany_ok h hF (ze_ok (zlandl _ _)).1 (ze_ok (zlandl _ _)).2) hK X h
  | lor => exact s_2l (f := aany afJ) (fun h hF _ _ => aany_ok h hF (ze_ok (zlorl _ _)).1 (ze_ok (zlorl _ _)).2) hK X h
  | ldiv => exact s_2m (f := adiv afJ) (fun h hF _ hb => adiv_ok h hF hb (zx_ok _).1 (zx_ok _).2) hK X h
  | lrem => exact s_2m (f := arem afJ) (fun h hF ha hb => arem_ok (W := zx) h zxJ (fun z => zx_ok z) rfl hF ha hb) hK X h
  | lcmp => exact s_lcm hK X h
  | dup => exact s_dup hK X h
  | dup2 => exact s_dup2 hK X h
  | pop => exact s_pop hK X h
  | if_icmp z z2 => exact s_icm hK X h
  | ifCond z z2 => exact s_ifc hK X h
  | goto z => exact hK _ _ _ _ _ _ h _ _ _ _ X
  | tableswitch z z2 z3 z4 => exact s_sw hK X h
  | getfield z => exact s_gf hK X h
  | putfield z => exact s_pf hK X h
  | iaload => exact s_al hK X h (Or.inl rfl)
  | baload => exact s_al hK X h (Or.inr (Or.inl rfl))
  | laload => exact s_al hK X h (Or.inr (Or.inr (Or.inl rfl)))
  | aaload => exact s_al hK X h (Or.inr (Or.inr (Or.inr rfl)))
  | iastore => exact s_as hK X h
  | bastore => exact s_as hK X h
  | lastore => exact s_as hK X h
  | arraylength => exact s_len hK X h
  | invokevirtual z =>
    obtain ⟨ci, h1, h2⟩ := aat_ok (show aat t 0 _ = true from h)
    exact zat_of h1 (s_inv hK hC X h2)
  | invokestatic z =>
    cases k0 : Nat.beq k 4 with
    | true =>
      have h : cond (Nat.beq k 4) (acpy Sh gt m K rest L S F O A) (ainv Sh ic K rest a b 0 0 L S F O A) = true := h
      rw [k0] at h
      exact zcondE k0 (s_cpy hK X h)
    | false =>
      have h : cond (Nat.beq k 4) (acpy Sh gt m K rest L S F O A) (ainv Sh ic K rest a b 0 0 L S F O A) = true := h
      rw [k0] at h
      show cond (Nat.beq k 4) _ _
      rw [k0]
      exact s_inv hK hC X h
  | return_ => exact s_ret hE X h
  | ireturn => exact s_reti hE X h
  | lreturn => exact s_retl hE X h
  | _ => exact absurd (show false = true from h) (by decide)
