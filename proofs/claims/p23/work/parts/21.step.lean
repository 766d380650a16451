/-! a step, a run, a call. A table's row: code, locals, cells and slots that a call may make, the answer's kind (0 none, 1 int, 2 boolean, 3 byte, 4 char, 5 long) -/
abbrev rx_T : Type := List (List rx_E × Nat × Nat × Nat × Nat)
/-- bounds, whether cells may be made, the script's length, the text's bytes and length, the classes' blank fields -/
abbrev rx_G : Type := rx_F × Bool × Nat × List Nat × Nat × List (List rx_V)
noncomputable def rx_cap (tb : rx_T) (nu : Nat) : Nat × Nat := List.rec (fun _ => (0, 0)) (fun x _ ih n => Nat.rec (x.2.2.1, x.2.2.2.1) (fun m _ => ih m) n) tb nu
noncomputable def rx_step (G : rx_G) (cd : List rx_E) (nL mc ms : Nat) (cap : Nat → Nat × Nat) (ex : Nat → List rx_V → List rx_C → Option (Option rx_V × List rx_C)) (K : rx_K) (e : rx_E) (rest : List rx_E) (L : rx_L) (S : List rx_V) (w : List rx_C) (cc ss : Nat) : Option rx_R :=
  match e.2.1 with
  | .iconst _ => K rest L (.inl (.inl e.2.2.2.1) :: S) w cc ss
  | .bipush _ => K rest L (.inl (.inl e.2.2.2.1) :: S) w cc ss
  | .sipush _ => K rest L (.inl (.inl e.2.2.2.1) :: S) w cc ss
  | .ldc _ => cond (Nat.beq e.2.2.2.2.1 0) (K rest L (.inl (.inl e.2.2.2.1) :: S) w cc ss) (K rest L (.inr (.inr (.inr 1)) :: S) w cc ss)
  | .ldc_w _ => K rest L (.inl (.inl e.2.2.2.1) :: S) w cc ss
  | .lconst _ => K rest L (.inr (.inl (.inl e.2.2.2.1)) :: S) w cc ss
  | .ldc2_w _ => K rest L (.inr (.inl (.inl e.2.2.2.1)) :: S) w cc ss
  | .iload _ => rx_ld 0 K rest e.2.2.2.1 L S w cc ss
  | .iload_n _ => rx_ld 0 K rest e.2.2.2.1 L S w cc ss
  | .lload _ => rx_ld 1 K rest e.2.2.2.1 L S w cc ss
  | .lload_n _ => rx_ld 1 K rest e.2.2.2.1 L S w cc ss
  | .aload _ => rx_ld 2 K rest e.2.2.2.1 L S w cc ss
  | .aload_n _ => rx_ld 2 K rest e.2.2.2.1 L S w cc ss
  | .istore _ => rx_st 0 nL K rest e.2.2.2.1 L S w cc ss
  | .istore_n _ => rx_st 0 nL K rest e.2.2.2.1 L S w cc ss
  | .lstore _ => rx_st 1 nL K rest e.2.2.2.1 L S w cc ss
  | .lstore_n _ => rx_st 1 nL K rest e.2.2.2.1 L S w cc ss
  | .astore _ => rx_st 2 nL K rest e.2.2.2.1 L S w cc ss
  | .astore_n _ => rx_st 2 nL K rest e.2.2.2.1 L S w cc ss
  | .iinc _ _ => rx_ii nL K rest e.2.2.2.1 e.2.2.2.2.1 L S w cc ss
  | .iadd => rx_o2 (fun _ _ => true) (fun x y => (x + y) % 4294967296) K rest L S w cc ss
  | .isub => rx_o2 (fun _ _ => true) (fun x y => (x + (4294967296 - y % 4294967296)) % 4294967296) K rest L S w cc ss
  | .imul => rx_o2 (fun _ _ => true) (fun x y => (x * y) % 4294967296) K rest L S w cc ss
  | .ior => rx_o2 (fun _ _ => true) (fun x y => Nat.lor x y) K rest L S w cc ss
  | .ixor => rx_o2 (fun _ _ => true) (fun x y => Nat.xor x y) K rest L S w cc ss
  | .ishl => rx_o2 (fun _ _ => true) (fun x y => (x * 2 ^ (y % 32)) % 4294967296) K rest L S w cc ss
  | .iushr => rx_o2 (fun _ _ => true) (fun x y => x % 4294967296 / 2 ^ (y % 32)) K rest L S w cc ss
  | .idiv => rx_o2 (fun x y => Nat.blt x 2147483648 && (Nat.blt y 2147483648 && Nat.blt 0 y)) (fun x y => x / y) K rest L S w cc ss
  | .irem => rx_o2 (fun x y => Nat.blt x 2147483648 && (Nat.blt y 2147483648 && Nat.blt 0 y)) (fun x y => x % y) K rest L S w cc ss
  | .iand => rx_o2u G.1 0 (fun _ _ => true) (fun x y => Nat.land x y) K rest L S w cc ss
  | .ishr => rx_o2u G.1 1 (fun x _ => Nat.blt x 2147483648) (fun x y => x / 2 ^ (y % 32)) K rest L S w cc ss
  | .i2c => rx_o1 (fun x => x % 65536) K rest L S w cc ss
  | .i2b => rx_i2bS G.1 K rest L S w cc ss
  | .i2l => rx_i2l K rest L S w cc ss
  | .l2i => rx_l2i K rest L S w cc ss
  | .ladd => rx_l2 (fun _ _ => true) (fun x y => (x + y) % 18446744073709551616) K rest L S w cc ss
  | .lsub => rx_l2 (fun _ _ => true) (fun x y => (x + (18446744073709551616 - y % 18446744073709551616)) % 18446744073709551616) K rest L S w cc ss
  | .lmul => rx_l2 (fun _ _ => true) (fun x y => (x * y) % 18446744073709551616) K rest L S w cc ss
  | .land => rx_l2 (fun _ _ => true) (fun x y => Nat.land x y) K rest L S w cc ss
  | .lor => rx_l2 (fun _ _ => true) (fun x y => Nat.lor x y) K rest L S w cc ss
  | .ldiv => rx_l2 (fun x y => Nat.blt x 9223372036854775808 && (Nat.blt y 9223372036854775808 && Nat.blt 0 y)) (fun x y => x / y) K rest L S w cc ss
  | .lrem => rx_l2 (fun x y => Nat.blt x 9223372036854775808 && (Nat.blt y 9223372036854775808 && Nat.blt 0 y)) (fun x y => x % y) K rest L S w cc ss
  | .lcmp => rx_lcmp K rest L S w cc ss
  | .dup => rx_dup K rest L S w cc ss
  | .dup2 => rx_dup2 K rest L S w cc ss
  | .pop => rx_pop K rest L S w cc ss
  | .if_icmp c _ => rx_ic G.1 c cd K rest e.2.2.2.1 L S w cc ss
  | .ifCond c _ => rx_if G.1 c cd K rest e.2.2.2.1 L S w cc ss
  | .goto _ => K (rx_find cd e.2.2.2.1) L S w cc ss
  | .tableswitch _ _ _ _ => rx_sw G.1 cd K e.2.2.2.1 e.2.2.2.2.1 e.2.2.2.2.2.1 e.2.2.2.2.2.2 L S w cc ss
  | .getfield _ => rx_gf K rest e.2.2.2.1 e.2.2.2.2.1 e.2.2.2.2.2.1 L S w cc ss
  | .putfield _ => rx_pf K rest e.2.2.2.1 e.2.2.2.2.1 e.2.2.2.2.2.1 L S w cc ss
  | .getstatic _ => cond (Nat.beq e.2.2.2.1 0) (K rest L (.inl (.inl 1) :: S) w cc ss) (cond (Nat.beq e.2.2.2.1 1) (K rest L (.inr (.inr (.inr 3)) :: S) w cc ss) none)
  | .iaload => rx_al G.1 G.2.2.1 G.2.2.2.1 0 K rest L S w cc ss
  | .baload => rx_al G.1 G.2.2.1 G.2.2.2.1 1 K rest L S w cc ss
  | .laload => rx_al G.1 G.2.2.1 G.2.2.2.1 3 K rest L S w cc ss
  | .aaload => rx_al G.1 G.2.2.1 G.2.2.2.1 4 K rest L S w cc ss
  | .iastore => rx_as 0 K rest L S w cc ss
  | .bastore => rx_as 1 K rest L S w cc ss
  | .lastore => rx_as 3 K rest L S w cc ss
  | .aastore => rx_aq e.2.2.2.1 K rest L S w cc ss
  | .arraylength => rx_len G.2.2.1 G.2.2.2.2.1 K rest L S w cc ss
  | .newarray _ => rx_na G.2.1 mc ms e.2.2.2.1 K rest L S w cc ss
  | .anewarray _ => rx_na G.2.1 mc ms e.2.2.2.1 K rest L S w cc ss
  | .new _ => rx_at G.2.2.2.2.2 e.2.2.2.1 (fun df => rx_nw G.2.1 mc ms e.2.2.2.1 e.2.2.2.2.1 df K rest L S w cc ss)
  | .invokevirtual _ => rx_at e.2.2.2.2.2.2 0 (fun ci => rx_inv G.2.1 mc ms cap ex K rest e.2.2.2.1 e.2.2.2.2.1 e.2.2.2.2.2.1 ci L S w cc ss)
  | .invokespecial _ => cond (Nat.beq e.2.2.2.2.2.1 3) (rx_oi K rest L S w cc ss) (rx_at e.2.2.2.2.2.2 0 (fun ci => rx_inv G.2.1 mc ms cap ex K rest e.2.2.2.1 e.2.2.2.2.1 1 ci L S w cc ss))
  | .invokestatic _ => cond (Nat.beq e.2.2.2.2.2.1 4) (rx_cpy K rest L S w cc ss) (rx_inv G.2.1 mc ms cap ex K rest e.2.2.2.1 e.2.2.2.2.1 0 0 L S w cc ss)
  | .return_ => some (e :: rest, L, S, w, cc, ss)
  | .ireturn => some (e :: rest, L, S, w, cc, ss)
  | .lreturn => some (e :: rest, L, S, w, cc, ss)
  | _ => none
noncomputable def rx_loop (G : rx_G) (cd : List rx_E) (nL mc ms : Nat) (cap : Nat → Nat × Nat) (ex : Nat → List rx_V → List rx_C → Option (Option rx_V × List rx_C)) (stop n : Nat) : rx_K :=
  Nat.rec (fun _ _ _ _ _ _ => none) (fun _ ih cs L S w cc ss => match cs with
    | [] => none
    | e :: rest => cond (Nat.beq e.1 stop) (some (e :: rest, L, S, w, cc, ss)) (rx_step G cd nL mc ms cap ex ih e rest L S w cc ss)) n
noncomputable def rx_args (as : List rx_V) : Nat → rx_L := List.rec (fun _ => []) (fun v _ ih i => (i, v) :: ih (i + rx_cat v)) as
noncomputable def rx_end (q : Nat) (i : Jvm.ClassFile.Instr) (S : List rx_V) (w : List rx_C) : Option (Option rx_V × List rx_C) := match i with
  | .return_ => cond (Nat.beq q 0) (match S with | [] => some (none, w) | _ => none) none
  | .ireturn => (match S with
    | [.inl (.inl n)] => cond (Nat.beq q 1 || ((Nat.beq q 2 && Nat.ble n 1) || ((Nat.beq q 3 && Nat.blt n 128) || (Nat.beq q 4 && Nat.blt n 65536)))) (some (some (.inl (.inl n)), w)) none
    | [.inl (.inr u)] => cond (Nat.beq q 1) (some (some (.inl (.inr u)), w)) none
    | _ => none)
  | .lreturn => (match S with
    | [.inr (.inl x)] => cond (Nat.beq q 5) (some (some (.inr (.inl x)), w)) none
    | _ => none)
  | _ => none
noncomputable def rx_ex (G : rx_G) (tb : rx_T) (fuel d : Nat) : Nat → List rx_V → List rx_C → Option (Option rx_V × List rx_C) :=
  Nat.rec (fun _ _ _ => none) (fun _ ih nu as w => rx_at tb nu (fun m => cond (Nat.ble (rx_cats as) m.2.1) (match rx_loop G m.1 m.2.1 m.2.2.1 m.2.2.2.1 (rx_cap tb) ih 99999999 fuel m.1 (rx_args as 0) [] w 0 0 with
    | some (e :: _, _, S, w', cc, ss) => cond (Nat.beq m.2.2.1 cc && Nat.ble ss m.2.2.2.1) (rx_end m.2.2.2.2 e.2.1 S w') none
    | _ => none) none)) d
