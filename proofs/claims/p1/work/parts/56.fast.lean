/-! the same step, chosen faster: a handler for each instruction -/
abbrev rx_H : Type := rx_G → List rx_E → Nat → Nat → Nat → (Nat → Nat × Nat) → (Nat → List rx_V → List rx_C → Option (Option rx_V × List rx_C)) → rx_K → rx_E → List rx_E → rx_L → List rx_V → List rx_C → Nat → Nat → Option rx_R
noncomputable def rx_h_iconst : rx_H := fun G cd nL mc ms cap ex K e rest L S w cc ss => K rest L (.inl (.inl e.2.2.2.1) :: S) w cc ss
noncomputable def rx_h_bipush : rx_H := fun G cd nL mc ms cap ex K e rest L S w cc ss => K rest L (.inl (.inl e.2.2.2.1) :: S) w cc ss
noncomputable def rx_h_sipush : rx_H := fun G cd nL mc ms cap ex K e rest L S w cc ss => K rest L (.inl (.inl e.2.2.2.1) :: S) w cc ss
noncomputable def rx_h_ldc : rx_H := fun G cd nL mc ms cap ex K e rest L S w cc ss => cond (Nat.beq e.2.2.2.2.1 0) (K rest L (.inl (.inl e.2.2.2.1) :: S) w cc ss) (K rest L (.inr (.inr (.inr 1)) :: S) w cc ss)
noncomputable def rx_h_ldc_w : rx_H := fun G cd nL mc ms cap ex K e rest L S w cc ss => K rest L (.inl (.inl e.2.2.2.1) :: S) w cc ss
noncomputable def rx_h_lconst : rx_H := fun G cd nL mc ms cap ex K e rest L S w cc ss => K rest L (.inr (.inl (.inl e.2.2.2.1)) :: S) w cc ss
noncomputable def rx_h_ldc2_w : rx_H := fun G cd nL mc ms cap ex K e rest L S w cc ss => K rest L (.inr (.inl (.inl e.2.2.2.1)) :: S) w cc ss
noncomputable def rx_h_iload : rx_H := fun G cd nL mc ms cap ex K e rest L S w cc ss => rx_ldF rx_g0 K rest e.2.2.2.1 L S w cc ss
noncomputable def rx_h_iload_n : rx_H := fun G cd nL mc ms cap ex K e rest L S w cc ss => rx_ldF rx_g0 K rest e.2.2.2.1 L S w cc ss
noncomputable def rx_h_lload : rx_H := fun G cd nL mc ms cap ex K e rest L S w cc ss => rx_ld 1 K rest e.2.2.2.1 L S w cc ss
noncomputable def rx_h_lload_n : rx_H := fun G cd nL mc ms cap ex K e rest L S w cc ss => rx_ld 1 K rest e.2.2.2.1 L S w cc ss
noncomputable def rx_h_aload : rx_H := fun G cd nL mc ms cap ex K e rest L S w cc ss => rx_ldF rx_g2 K rest e.2.2.2.1 L S w cc ss
noncomputable def rx_h_aload_n : rx_H := fun G cd nL mc ms cap ex K e rest L S w cc ss => rx_ldF rx_g2 K rest e.2.2.2.1 L S w cc ss
noncomputable def rx_h_istore : rx_H := fun G cd nL mc ms cap ex K e rest L S w cc ss => rx_st 0 nL K rest e.2.2.2.1 L S w cc ss
noncomputable def rx_h_istore_n : rx_H := fun G cd nL mc ms cap ex K e rest L S w cc ss => rx_st 0 nL K rest e.2.2.2.1 L S w cc ss
noncomputable def rx_h_lstore : rx_H := fun G cd nL mc ms cap ex K e rest L S w cc ss => rx_st 1 nL K rest e.2.2.2.1 L S w cc ss
noncomputable def rx_h_lstore_n : rx_H := fun G cd nL mc ms cap ex K e rest L S w cc ss => rx_st 1 nL K rest e.2.2.2.1 L S w cc ss
noncomputable def rx_h_astore : rx_H := fun G cd nL mc ms cap ex K e rest L S w cc ss => rx_st 2 nL K rest e.2.2.2.1 L S w cc ss
noncomputable def rx_h_astore_n : rx_H := fun G cd nL mc ms cap ex K e rest L S w cc ss => rx_st 2 nL K rest e.2.2.2.1 L S w cc ss
noncomputable def rx_h_iinc : rx_H := fun G cd nL mc ms cap ex K e rest L S w cc ss => rx_ii nL K rest e.2.2.2.1 e.2.2.2.2.1 L S w cc ss
noncomputable def rx_h_iadd : rx_H := fun G cd nL mc ms cap ex K e rest L S w cc ss => rx_o2F rx_adN K rest L S w cc ss
noncomputable def rx_h_isub : rx_H := fun G cd nL mc ms cap ex K e rest L S w cc ss => rx_o2 (fun _ _ => true) (fun x y => (x + (4294967296 - y % 4294967296)) % 4294967296) K rest L S w cc ss
noncomputable def rx_h_imul : rx_H := fun G cd nL mc ms cap ex K e rest L S w cc ss => rx_o2F rx_muN K rest L S w cc ss
noncomputable def rx_h_ior : rx_H := fun G cd nL mc ms cap ex K e rest L S w cc ss => rx_o2 (fun _ _ => true) (fun x y => Nat.lor x y) K rest L S w cc ss
noncomputable def rx_h_ixor : rx_H := fun G cd nL mc ms cap ex K e rest L S w cc ss => rx_o2 (fun _ _ => true) (fun x y => Nat.xor x y) K rest L S w cc ss
noncomputable def rx_h_ishl : rx_H := fun G cd nL mc ms cap ex K e rest L S w cc ss => rx_o2 (fun _ _ => true) (fun x y => (x * 2 ^ (y % 32)) % 4294967296) K rest L S w cc ss
noncomputable def rx_h_iushr : rx_H := fun G cd nL mc ms cap ex K e rest L S w cc ss => rx_o2 (fun _ _ => true) (fun x y => x % 4294967296 / 2 ^ (y % 32)) K rest L S w cc ss
noncomputable def rx_h_idiv : rx_H := fun G cd nL mc ms cap ex K e rest L S w cc ss => rx_o2 (fun x y => Nat.blt x 2147483648 && (Nat.blt y 2147483648 && Nat.blt 0 y)) (fun x y => x / y) K rest L S w cc ss
noncomputable def rx_h_irem : rx_H := fun G cd nL mc ms cap ex K e rest L S w cc ss => rx_o2 (fun x y => Nat.blt x 2147483648 && (Nat.blt y 2147483648 && Nat.blt 0 y)) (fun x y => x % y) K rest L S w cc ss
noncomputable def rx_h_iand : rx_H := fun G cd nL mc ms cap ex K e rest L S w cc ss => rx_o2u G.1 0 (fun _ _ => true) (fun x y => Nat.land x y) K rest L S w cc ss
noncomputable def rx_h_ishr : rx_H := fun G cd nL mc ms cap ex K e rest L S w cc ss => rx_o2u G.1 1 (fun x _ => Nat.blt x 2147483648) (fun x y => x / 2 ^ (y % 32)) K rest L S w cc ss
noncomputable def rx_h_i2c : rx_H := fun G cd nL mc ms cap ex K e rest L S w cc ss => rx_o1 (fun x => x % 65536) K rest L S w cc ss
noncomputable def rx_h_i2b : rx_H := fun G cd nL mc ms cap ex K e rest L S w cc ss => rx_i2bS G.1 K rest L S w cc ss
noncomputable def rx_h_i2l : rx_H := fun G cd nL mc ms cap ex K e rest L S w cc ss => rx_i2l K rest L S w cc ss
noncomputable def rx_h_l2i : rx_H := fun G cd nL mc ms cap ex K e rest L S w cc ss => rx_l2i K rest L S w cc ss
noncomputable def rx_h_ladd : rx_H := fun G cd nL mc ms cap ex K e rest L S w cc ss => rx_l2 (fun _ _ => true) (fun x y => (x + y) % 18446744073709551616) K rest L S w cc ss
noncomputable def rx_h_lsub : rx_H := fun G cd nL mc ms cap ex K e rest L S w cc ss => rx_l2 (fun _ _ => true) (fun x y => (x + (18446744073709551616 - y % 18446744073709551616)) % 18446744073709551616) K rest L S w cc ss
noncomputable def rx_h_lmul : rx_H := fun G cd nL mc ms cap ex K e rest L S w cc ss => rx_l2 (fun _ _ => true) (fun x y => (x * y) % 18446744073709551616) K rest L S w cc ss
noncomputable def rx_h_land : rx_H := fun G cd nL mc ms cap ex K e rest L S w cc ss => rx_l2 (fun _ _ => true) (fun x y => Nat.land x y) K rest L S w cc ss
noncomputable def rx_h_lor : rx_H := fun G cd nL mc ms cap ex K e rest L S w cc ss => rx_l2 (fun _ _ => true) (fun x y => Nat.lor x y) K rest L S w cc ss
noncomputable def rx_h_ldiv : rx_H := fun G cd nL mc ms cap ex K e rest L S w cc ss => rx_l2 (fun x y => Nat.blt x 9223372036854775808 && (Nat.blt y 9223372036854775808 && Nat.blt 0 y)) (fun x y => x / y) K rest L S w cc ss
noncomputable def rx_h_lrem : rx_H := fun G cd nL mc ms cap ex K e rest L S w cc ss => rx_l2 (fun x y => Nat.blt x 9223372036854775808 && (Nat.blt y 9223372036854775808 && Nat.blt 0 y)) (fun x y => x % y) K rest L S w cc ss
noncomputable def rx_h_lcmp : rx_H := fun G cd nL mc ms cap ex K e rest L S w cc ss => rx_lcmp K rest L S w cc ss
noncomputable def rx_h_dup : rx_H := fun G cd nL mc ms cap ex K e rest L S w cc ss => rx_dup K rest L S w cc ss
noncomputable def rx_h_dup2 : rx_H := fun G cd nL mc ms cap ex K e rest L S w cc ss => rx_dup2 K rest L S w cc ss
noncomputable def rx_h_pop : rx_H := fun G cd nL mc ms cap ex K e rest L S w cc ss => rx_pop K rest L S w cc ss
noncomputable def rx_h_if_icmp (c : Jvm.ClassFile.Cond) : rx_H := fun G cd nL mc ms cap ex K e rest L S w cc ss => rx_ic G.1 c cd K rest e.2.2.2.1 L S w cc ss
noncomputable def rx_h_ifCond (c : Jvm.ClassFile.Cond) : rx_H := fun G cd nL mc ms cap ex K e rest L S w cc ss => rx_if G.1 c cd K rest e.2.2.2.1 L S w cc ss
noncomputable def rx_h_goto : rx_H := fun G cd nL mc ms cap ex K e rest L S w cc ss => K (rx_find cd e.2.2.2.1) L S w cc ss
noncomputable def rx_h_tableswitch : rx_H := fun G cd nL mc ms cap ex K e rest L S w cc ss => rx_sw G.1 cd K e.2.2.2.1 e.2.2.2.2.1 e.2.2.2.2.2.1 e.2.2.2.2.2.2 L S w cc ss
noncomputable def rx_h_getfield : rx_H := fun G cd nL mc ms cap ex K e rest L S w cc ss => rx_gfF K rest e.2.2.2.1 e.2.2.2.2.1 e.2.2.2.2.2.1 L S w cc ss
noncomputable def rx_h_putfield : rx_H := fun G cd nL mc ms cap ex K e rest L S w cc ss => rx_pf K rest e.2.2.2.1 e.2.2.2.2.1 e.2.2.2.2.2.1 L S w cc ss
noncomputable def rx_h_getstatic : rx_H := fun G cd nL mc ms cap ex K e rest L S w cc ss => cond (Nat.beq e.2.2.2.1 0) (K rest L (.inl (.inl 1) :: S) w cc ss) (cond (Nat.beq e.2.2.2.1 1) (K rest L (.inr (.inr (.inr 3)) :: S) w cc ss) none)
noncomputable def rx_h_iaload : rx_H := fun G cd nL mc ms cap ex K e rest L S w cc ss => rx_alF G.1 G.2.2.1 G.2.2.2.1 K rest L S w cc ss
noncomputable def rx_h_baload : rx_H := fun G cd nL mc ms cap ex K e rest L S w cc ss => rx_al G.1 G.2.2.1 G.2.2.2.1 1 K rest L S w cc ss
noncomputable def rx_h_laload : rx_H := fun G cd nL mc ms cap ex K e rest L S w cc ss => rx_al G.1 G.2.2.1 G.2.2.2.1 3 K rest L S w cc ss
noncomputable def rx_h_aaload : rx_H := fun G cd nL mc ms cap ex K e rest L S w cc ss => rx_al G.1 G.2.2.1 G.2.2.2.1 4 K rest L S w cc ss
noncomputable def rx_h_iastore : rx_H := fun G cd nL mc ms cap ex K e rest L S w cc ss => rx_as 0 K rest L S w cc ss
noncomputable def rx_h_bastore : rx_H := fun G cd nL mc ms cap ex K e rest L S w cc ss => rx_as 1 K rest L S w cc ss
noncomputable def rx_h_lastore : rx_H := fun G cd nL mc ms cap ex K e rest L S w cc ss => rx_as 3 K rest L S w cc ss
noncomputable def rx_h_aastore : rx_H := fun G cd nL mc ms cap ex K e rest L S w cc ss => rx_aq e.2.2.2.1 K rest L S w cc ss
noncomputable def rx_h_arraylength : rx_H := fun G cd nL mc ms cap ex K e rest L S w cc ss => rx_len G.2.2.1 G.2.2.2.2.1 K rest L S w cc ss
noncomputable def rx_h_newarray : rx_H := fun G cd nL mc ms cap ex K e rest L S w cc ss => rx_na G.2.1 mc ms e.2.2.2.1 K rest L S w cc ss
noncomputable def rx_h_anewarray : rx_H := fun G cd nL mc ms cap ex K e rest L S w cc ss => rx_na G.2.1 mc ms e.2.2.2.1 K rest L S w cc ss
noncomputable def rx_h_new : rx_H := fun G cd nL mc ms cap ex K e rest L S w cc ss => rx_at G.2.2.2.2.2 e.2.2.2.1 (fun df => rx_nw G.2.1 mc ms e.2.2.2.1 e.2.2.2.2.1 df K rest L S w cc ss)
noncomputable def rx_h_invokevirtual : rx_H := fun G cd nL mc ms cap ex K e rest L S w cc ss => rx_at e.2.2.2.2.2.2 0 (fun ci => rx_inv G.2.1 mc ms cap ex K rest e.2.2.2.1 e.2.2.2.2.1 e.2.2.2.2.2.1 ci L S w cc ss)
noncomputable def rx_h_invokespecial : rx_H := fun G cd nL mc ms cap ex K e rest L S w cc ss => cond (Nat.beq e.2.2.2.2.2.1 3) (rx_oi K rest L S w cc ss) (rx_at e.2.2.2.2.2.2 0 (fun ci => rx_inv G.2.1 mc ms cap ex K rest e.2.2.2.1 e.2.2.2.2.1 1 ci L S w cc ss))
noncomputable def rx_h_invokestatic : rx_H := fun G cd nL mc ms cap ex K e rest L S w cc ss => cond (Nat.beq e.2.2.2.2.2.1 4) (rx_cpy K rest L S w cc ss) (rx_inv G.2.1 mc ms cap ex K rest e.2.2.2.1 e.2.2.2.2.1 0 0 L S w cc ss)
noncomputable def rx_h_return_ : rx_H := fun G cd nL mc ms cap ex K e rest L S w cc ss => some (e :: rest, L, S, w, cc, ss)
noncomputable def rx_h_ireturn : rx_H := fun G cd nL mc ms cap ex K e rest L S w cc ss => some (e :: rest, L, S, w, cc, ss)
noncomputable def rx_h_lreturn : rx_H := fun G cd nL mc ms cap ex K e rest L S w cc ss => some (e :: rest, L, S, w, cc, ss)
def rx_h_none : rx_H := fun _ _ _ _ _ _ _ _ _ _ _ _ _ _ _ => none
noncomputable def rx_sel (i : Jvm.ClassFile.Instr) : rx_H := by
  induction i
  case iconst _ => exact rx_h_iconst
  case bipush _ => exact rx_h_bipush
  case sipush _ => exact rx_h_sipush
  case ldc _ => exact rx_h_ldc
  case ldc_w _ => exact rx_h_ldc_w
  case lconst _ => exact rx_h_lconst
  case ldc2_w _ => exact rx_h_ldc2_w
  case iload _ => exact rx_h_iload
  case iload_n _ => exact rx_h_iload_n
  case lload _ => exact rx_h_lload
  case lload_n _ => exact rx_h_lload_n
  case aload _ => exact rx_h_aload
  case aload_n _ => exact rx_h_aload_n
  case istore _ => exact rx_h_istore
  case istore_n _ => exact rx_h_istore_n
  case lstore _ => exact rx_h_lstore
  case lstore_n _ => exact rx_h_lstore_n
  case astore _ => exact rx_h_astore
  case astore_n _ => exact rx_h_astore_n
  case iinc _ _ => exact rx_h_iinc
  case iadd => exact rx_h_iadd
  case isub => exact rx_h_isub
  case imul => exact rx_h_imul
  case ior => exact rx_h_ior
  case ixor => exact rx_h_ixor
  case ishl => exact rx_h_ishl
  case iushr => exact rx_h_iushr
  case idiv => exact rx_h_idiv
  case irem => exact rx_h_irem
  case iand => exact rx_h_iand
  case ishr => exact rx_h_ishr
  case i2c => exact rx_h_i2c
  case i2b => exact rx_h_i2b
  case i2l => exact rx_h_i2l
  case l2i => exact rx_h_l2i
  case ladd => exact rx_h_ladd
  case lsub => exact rx_h_lsub
  case lmul => exact rx_h_lmul
  case land => exact rx_h_land
  case lor => exact rx_h_lor
  case ldiv => exact rx_h_ldiv
  case lrem => exact rx_h_lrem
  case lcmp => exact rx_h_lcmp
  case dup => exact rx_h_dup
  case dup2 => exact rx_h_dup2
  case pop => exact rx_h_pop
  case if_icmp c _ => exact rx_h_if_icmp c
  case ifCond c _ => exact rx_h_ifCond c
  case goto _ => exact rx_h_goto
  case tableswitch _ _ _ _ => exact rx_h_tableswitch
  case getfield _ => exact rx_h_getfield
  case putfield _ => exact rx_h_putfield
  case getstatic _ => exact rx_h_getstatic
  case iaload => exact rx_h_iaload
  case baload => exact rx_h_baload
  case laload => exact rx_h_laload
  case aaload => exact rx_h_aaload
  case iastore => exact rx_h_iastore
  case bastore => exact rx_h_bastore
  case lastore => exact rx_h_lastore
  case aastore => exact rx_h_aastore
  case arraylength => exact rx_h_arraylength
  case newarray _ => exact rx_h_newarray
  case anewarray _ => exact rx_h_anewarray
  case new _ => exact rx_h_new
  case invokevirtual _ => exact rx_h_invokevirtual
  case invokespecial _ => exact rx_h_invokespecial
  case invokestatic _ => exact rx_h_invokestatic
  case return_ => exact rx_h_return_
  case ireturn => exact rx_h_ireturn
  case lreturn => exact rx_h_lreturn
  all_goals exact rx_h_none
noncomputable def rx_stepF : rx_G → List rx_E → Nat → Nat → Nat → (Nat → Nat × Nat) → (Nat → List rx_V → List rx_C → Option (Option rx_V × List rx_C)) → rx_K → rx_E → List rx_E → rx_L → List rx_V → List rx_C → Nat → Nat → Option rx_R := fun G cd nL mc ms cap ex K e rest L S w cc ss => rx_sel e.2.1 G cd nL mc ms cap ex K e rest L S w cc ss
theorem rx_stepF_eq : rx_stepF = rx_step := by
  funext G cd nL mc ms cap ex K e rest L S w cc ss
  obtain ⟨pc, i, t⟩ := e
  cases i
  case iadd => exact (rx_o2F_eq rx_adN K rest L S w cc ss).trans (by rw [rx_adN_eq]; rfl)
  case imul => exact (rx_o2F_eq rx_muN K rest L S w cc ss).trans (by rw [rx_muN_eq]; rfl)
  case iload => exact rx_ldF0 K rest t.2.1 L S w cc ss
  case iload_n => exact rx_ldF0 K rest t.2.1 L S w cc ss
  case aload => exact rx_ldF2 K rest t.2.1 L S w cc ss
  case aload_n => exact rx_ldF2 K rest t.2.1 L S w cc ss
  case getfield => exact rx_gfF_eq K rest t.2.1 t.2.2.1 t.2.2.2.1 L S w cc ss
  case iaload => exact rx_alF_eq G.1 G.2.2.1 G.2.2.2.1 K rest L S w cc ss
  all_goals rfl
noncomputable def rx_loopF (G : rx_G) (cd : List rx_E) (nL mc ms : Nat) (cap : Nat → Nat × Nat) (ex : Nat → List rx_V → List rx_C → Option (Option rx_V × List rx_C)) (stop n : Nat) : rx_K :=
  Nat.rec (fun _ _ _ _ _ _ => none) (fun _ ih cs L S w cc ss => List.rec none (fun e rest _ => Bool.rec (rx_sel e.2.1 G cd nL mc ms cap ex ih e rest L S w cc ss) (some (e :: rest, L, S, w, cc, ss)) (Nat.beq e.1 stop)) cs) n
theorem rx_loopF_eq : rx_loopF = rx_loop := by
  funext G cd nL mc ms cap ex stop n
  induction n with
  | zero => rfl
  | succ n ih =>
    funext cs L S w cc ss
    cases cs with
    | nil => rfl
    | cons e rest =>
      show Bool.rec (rx_stepF G cd nL mc ms cap ex (rx_loopF G cd nL mc ms cap ex stop n) e rest L S w cc ss) (some (e :: rest, L, S, w, cc, ss)) (Nat.beq e.1 stop) = cond (Nat.beq e.1 stop) (some (e :: rest, L, S, w, cc, ss)) (rx_step G cd nL mc ms cap ex (rx_loop G cd nL mc ms cap ex stop n) e rest L S w cc ss)
      rw [ih, rx_stepF_eq]
      cases Nat.beq e.1 stop <;> rfl
noncomputable def rx_exF (G : rx_G) (tb : rx_T) (fuel d : Nat) : Nat → List rx_V → List rx_C → Option (Option rx_V × List rx_C) :=
  Nat.rec (fun _ _ _ => none) (fun _ ih nu as w => rx_at tb nu (fun m => cond (Nat.ble (rx_cats as) m.2.1) (match rx_loopF G m.1 m.2.1 m.2.2.1 m.2.2.2.1 (rx_cap tb) ih 99999999 fuel m.1 (rx_args as 0) [] w 0 0 with
    | some (e :: _, _, S, w', cc, ss) => cond (Nat.beq m.2.2.1 cc && Nat.ble ss m.2.2.2.1) (rx_end m.2.2.2.2 e.2.1 S w') none
    | _ => none) none)) d
theorem rx_exF_eq (G : rx_G) (tb : rx_T) (fuel d : Nat) : rx_exF G tb fuel d = rx_ex G tb fuel d := by
  unfold rx_exF rx_ex
  rw [rx_loopF_eq]
  rfl
noncomputable def rx_mRF (x : List rx_E × Nat × Nat × Nat × Nat) (F : rx_F) (stop pc : Nat) (L : rx_L) (S : List rx_V) (w : List rx_C) : Option rx_R := rx_loopF (rx_G0 F 0) x.1 x.2.1 x.2.2.1 x.2.2.2.1 (rx_cap rx_tb) (rx_exF (rx_G0 F 0) rx_tb 10000000 20) stop 10000000 (rx_find x.1 pc) L S w 0 0
theorem rx_mRF_eq : rx_mRF = rx_mR := by
  funext x F stop pc L S w
  unfold rx_mRF rx_mR
  rw [rx_loopF_eq, rx_exF_eq]
noncomputable def rx_lawRF (F : rx_F) (sl stop : Nat) (cs : List rx_E) (L : rx_L) (S : List rx_V) (w : List rx_C) (cc ss : Nat) : Option rx_R := rx_loopF (rx_G0 F sl) rx_mL 4 600000 7302250 (rx_cap rx_tb) (rx_exF (rx_G0 F sl) rx_tb 10000000 20) stop 10000000 cs L S w cc ss
theorem rx_lawRF_eq : rx_lawRF = rx_lawR := by
  funext F sl stop cs L S w cc ss
  unfold rx_lawRF rx_lawR
  rw [rx_loopF_eq, rx_exF_eq]

section RXF
variable {p : Program} {l : Launch} {e : Env} {s : State} {m : MethodId} {args : Array Value} {below : List Frame} {meth : Method} {c : Code} {X : rx_X} {D : va_G} {Y : rx_Y} {x : List rx_E × Nat × Nat × Nat × Nat} {v : Value}
theorem rx_mSF (hx : rx_tOk rx_mis x Y) (Cm : rx_mC p s m args c meth X D Y x.2.1) {F : rx_F} (hF : rx_fok X F) {stop pc pc' : Nat} {L L' : rx_L} {S S' : List rx_V} {w w' : List rx_C} (h : rx_is (rx_mRF x F stop pc L S w) pc' L' S' w' 0 0 = true) (hk : rx_MW p l e s m args below meth c X D Y x v pc' L' S' w' 0 0) : rx_MW p l e s m args below meth c X D Y x v pc L S w 0 0 := rx_mS hx Cm hF (by rw [← rx_mRF_eq]; exact h) hk
theorem rx_mEF (hx : rx_tOk rx_mis x Y) (Cm : rx_mC p s m args c meth X D Y x.2.1) {F : rx_F} (hF : rx_fok X F) {pc n : Nat} {L : rx_L} {S : List rx_V} {w : List rx_C} (hi : Y.2.2.2 = some .int) (h : rx_isR (rx_mRF x F 99999999 pc L S w) n x.2.2.1 x.2.2.2.1 = true) : rx_MW p l e s m args below meth c X D Y x (.int (nI n)) pc L S w 0 0 := rx_mE hx Cm hF hi (by rw [← rx_mRF_eq]; exact h)
end RXF
theorem rx_lawEF {p : Program} {l : Launch} {e : Env} {s : State} {m : MethodId} {below : List Frame} {meth : Method} {c : Code} {b L : Nat} {xs : Nat → Int32} {X : rx_X} {D : va_G} (C0 : rx_lawC p s m meth c b L xs X D) {F : rx_F} {sl pc : Nat} (hsl : sl = 0 ∨ sl = L + 1) (hF : rx_fok X F) {Lc : rx_L} {S : List rx_V} {w : List rx_C} {cc ss : Nat} (h : rx_isE (rx_lawRF F sl 99999999 (rx_find rx_mL pc) Lc S w cc ss) = true) : rx_LW p l e s m below meth c b X D pc Lc S w cc ss := rx_lawE C0 hsl hF (by rw [← rx_lawRF_eq]; exact h)
