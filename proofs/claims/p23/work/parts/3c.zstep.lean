/-! A STEP of the second layer: what must hold so that the machine goes on well -/
abbrev zQ : Type := Option zV → zS → Prop
abbrev zCall : Type := Nat → List zV → zS → zQ → Prop
abbrev zG : Type := List rx_E → zL → List zV → zS → Prop
def zcat (v : zV) : Nat := match v with
  | .inr (.inl _) => 2
  | _ => 1
noncomputable def zcats (S : List zV) : Nat := List.rec 0 (fun v _ ih => Nat.add (zcat v) ih) S
noncomputable def zget (L : zL) (i : Nat) (k : zV → Prop) : Prop := List.rec False (fun q _ ih => cond (Nat.beq q.1 i) (k q.2) ih) L
def zP1 (a : Nat) (q : Nat × zV) : Bool := !(Nat.beq q.1 a || (Nat.beq (Nat.succ q.1) a && Nat.beq (zcat q.2) 2))
def zP2 (a : Nat) (q : Nat × zV) : Bool := !(Nat.beq q.1 a || (Nat.beq q.1 (Nat.succ a) || (Nat.beq (Nat.succ q.1) a && Nat.beq (zcat q.2) 2)))
noncomputable def zfil (P : Nat × zV → Bool) (L : zL) : zL := List.rec [] (fun q _ ih => cond (P q) (q :: ih) ih) L
noncomputable def ztake : Nat → List zV → List zV → (List zV → List zV → Prop) → Prop := fun n => Nat.rec (fun S acc k => k acc S) (fun _ ih S acc k => List.rec False (fun v t _ => ih t (v :: acc) k) S) n
noncomputable def zat {α : Type} (l : List α) : Nat → (α → Prop) → Prop := List.rec (fun _ _ => False) (fun a _ ih n k => Nat.rec (k a) (fun m _ => ih m k) n) l
def zcmp (c : Jvm.ClassFile.Cond) (x y : Int) : Prop := match c with
  | .lt => x < y
  | .ge => y ≤ x
  | .gt => y < x
  | .le => x ≤ y
  | .eq => x = y
  | .ne => ¬ x = y
def zcst (K : zG) (rest : List rx_E) (a : Nat) (L : zL) (S : List zV) (st : zS) : Prop := cond (Nat.blt a 4294967296) (K rest L (.inl (zd a) :: S) st) False
def zlst (K : zG) (rest : List rx_E) (a : Nat) (L : zL) (S : List zV) (st : zS) : Prop := cond (Nat.blt a 18446744073709551616) (K rest L (.inr (.inl (ze a)) :: S) st) False
noncomputable def zldI (K : zG) (rest : List rx_E) (a : Nat) (L : zL) (S : List zV) (st : zS) : Prop := zget L a (fun v => match v with
  | .inl _ => K rest L (v :: S) st
  | _ => False)
noncomputable def zldL (K : zG) (rest : List rx_E) (a : Nat) (L : zL) (S : List zV) (st : zS) : Prop := zget L a (fun v => match v with
  | .inr (.inl _) => K rest L (v :: S) st
  | _ => False)
noncomputable def zldA (K : zG) (rest : List rx_E) (a : Nat) (L : zL) (S : List zV) (st : zS) : Prop := zget L a (fun v => match v with
  | .inr (.inr _) => K rest L (v :: S) st
  | _ => False)
noncomputable def zstI (nL : Nat) (K : zG) (rest : List rx_E) (a : Nat) (L : zL) (S : List zV) (st : zS) : Prop := match S with
  | .inl x :: S' => cond (Nat.blt a nL) (K rest ((a, .inl x) :: zfil (zP1 a) L) S' st) False
  | _ => False
noncomputable def zstL (nL : Nat) (K : zG) (rest : List rx_E) (a : Nat) (L : zL) (S : List zV) (st : zS) : Prop := match S with
  | .inr (.inl x) :: S' => cond (Nat.blt (Nat.succ a) nL) (K rest ((a, .inr (.inl x)) :: zfil (zP2 a) L) S' st) False
  | _ => False
noncomputable def zstA (nL : Nat) (K : zG) (rest : List rx_E) (a : Nat) (L : zL) (S : List zV) (st : zS) : Prop := match S with
  | .inr (.inr x) :: S' => cond (Nat.blt a nL) (K rest ((a, .inr (.inr x)) :: zfil (zP1 a) L) S' st) False
  | _ => False
noncomputable def zinc (nL : Nat) (K : zG) (rest : List rx_E) (a b : Nat) (L : zL) (S : List zV) (st : zS) : Prop := zget L a (fun v => match v with
  | .inl x => cond (Nat.blt a nL && Nat.blt b 4294967296) (K rest ((a, .inl (zw (x + zd b))) :: zfil (zP1 a) L) S st) False
  | _ => False)
def z2 (f : Int → Int → Int) (K : zG) (rest : List rx_E) (L : zL) (S : List zV) (st : zS) : Prop := match S with
  | .inl y :: .inl x :: S' => K rest L (.inl (f x y) :: S') st
  | _ => False
def z2n (f : Int → Int → Int) (K : zG) (rest : List rx_E) (L : zL) (S : List zV) (st : zS) : Prop := match S with
  | .inl y :: .inl x :: S' => ¬ y = 0 ∧ K rest L (.inl (f x y) :: S') st
  | _ => False
def z2l (f : Int → Int → Int) (K : zG) (rest : List rx_E) (L : zL) (S : List zV) (st : zS) : Prop := match S with
  | .inr (.inl y) :: .inr (.inl x) :: S' => K rest L (.inr (.inl (f x y)) :: S') st
  | _ => False
def z2m (f : Int → Int → Int) (K : zG) (rest : List rx_E) (L : zL) (S : List zV) (st : zS) : Prop := match S with
  | .inr (.inl y) :: .inr (.inl x) :: S' => ¬ y = 0 ∧ K rest L (.inr (.inl (f x y)) :: S') st
  | _ => False
def z2s (f : Int → Int → Int) (K : zG) (rest : List rx_E) (L : zL) (S : List zV) (st : zS) : Prop := match S with
  | .inl y :: .inr (.inl x) :: S' => K rest L (.inr (.inl (f x y)) :: S') st
  | _ => False
def zlcm (K : zG) (rest : List rx_E) (L : zL) (S : List zV) (st : zS) : Prop := match S with
  | .inr (.inl y) :: .inr (.inl x) :: S' => (x < y → K rest L (.inl (-1) :: S') st) ∧ (x = y → K rest L (.inl 0 :: S') st) ∧ (y < x → K rest L (.inl 1 :: S') st)
  | _ => False
def zi2l (K : zG) (rest : List rx_E) (L : zL) (S : List zV) (st : zS) : Prop := match S with
  | .inl x :: S' => K rest L (.inr (.inl x) :: S') st
  | _ => False
def zl2i (K : zG) (rest : List rx_E) (L : zL) (S : List zV) (st : zS) : Prop := match S with
  | .inr (.inl x) :: S' => K rest L (.inl (zw x) :: S') st
  | _ => False
def zi2b (K : zG) (rest : List rx_E) (L : zL) (S : List zV) (st : zS) : Prop := match S with
  | .inl x :: S' => K rest L (.inl (zb x) :: S') st
  | _ => False
def zdup (K : zG) (rest : List rx_E) (L : zL) (S : List zV) (st : zS) : Prop := match S with
  | v :: S' => cond (Nat.beq (zcat v) 1) (K rest L (v :: v :: S') st) False
  | _ => False
def zdup2 (K : zG) (rest : List rx_E) (L : zL) (S : List zV) (st : zS) : Prop := match S with
  | v :: u :: S' => cond (Nat.beq (zcat v) 1 && Nat.beq (zcat u) 1) (K rest L (v :: u :: v :: u :: S') st) False
  | _ => False
def zpop (K : zG) (rest : List rx_E) (L : zL) (S : List zV) (st : zS) : Prop := match S with
  | v :: S' => cond (Nat.beq (zcat v) 1) (K rest L S' st) False
  | _ => False
def zicm (c : Jvm.ClassFile.Cond) (K : zG) (tgt rest : List rx_E) (L : zL) (S : List zV) (st : zS) : Prop := match S with
  | .inl y :: .inl x :: S' => (zcmp c x y → K tgt L S' st) ∧ (¬ zcmp c x y → K rest L S' st)
  | _ => False
def zifc (c : Jvm.ClassFile.Cond) (K : zG) (tgt rest : List rx_E) (L : zL) (S : List zV) (st : zS) : Prop := match S with
  | .inl x :: S' => (zcmp c x 0 → K tgt L S' st) ∧ (¬ zcmp c x 0 → K rest L S' st)
  | _ => False
noncomputable def zsws (P : Nat → Prop) (x : Int) (t : List Nat) : Int → Prop := List.rec (fun _ => True) (fun g _ ih n => (x = n → P g) ∧ ih (n + 1)) t
noncomputable def zsw (cd : List rx_E) (K : zG) (a b c : Nat) (t : List Nat) (L : zL) (S : List zV) (st : zS) : Prop := match S with
  | .inl x :: S' => cond (Nat.beq (b + t.length) (c + 1)) ((x < (b : Int) - 2147483648 → K (rx_find cd a) L S' st) ∧ ((c : Int) - 2147483648 < x → K (rx_find cd a) L S' st) ∧ zsws (fun g => K (rx_find cd g) L S' st) x t ((b : Int) - 2147483648)) False
  | _ => False
noncomputable def zgf (Sh : List zC) (K : zG) (rest : List rx_E) (a b c : Nat) (L : zL) (S : List zV) (st : zS) : Prop := match S with
  | .inr (.inr (.inl o)) :: S' => cond (Nat.ble c 1) (zat Sh o (fun s => match s with
    | .inl q => cond (Nat.beq q.1 a) (zat q.2 b (fun k => K rest L (zK k (st o b) :: S') st)) False
    | .inr _ => False)) False
  | _ => False
noncomputable def zpf (Sh : List zC) (K : zG) (rest : List rx_E) (a b c : Nat) (L : zL) (S : List zV) (st : zS) : Prop := match S with
  | v :: .inr (.inr (.inl o)) :: S' => zat Sh o (fun s => match s with
    | .inl q => cond (Nat.beq q.1 a) (zat q.2 b (fun k => cond (Nat.beq k c) (match v with
      | .inl z => cond (Nat.beq k 0) (K rest L S' (zup st o b z)) (cond (Nat.beq k 2) ((z = 0 ∨ z = 1) ∧ K rest L S' (zup st o b z)) False)
      | .inr (.inl z) => cond (Nat.beq k 3) (K rest L S' (zup st o b z)) False
      | .inr (.inr (.inl r)) => cond (Nat.beq k 4) (K rest L S' (zup st o b (r : Int))) False
      | _ => False) False)) False
    | .inr _ => False)
  | _ => False
noncomputable def zal (Sh : List zC) (q : Nat) (K : zG) (rest : List rx_E) (L : zL) (S : List zV) (st : zS) : Prop := match S with
  | .inl j :: .inr (.inr (.inl o)) :: S' => zat Sh o (fun s => match s with
    | .inr p => cond (Nat.beq p.1 q || (Nat.beq q 1 && Nat.beq p.1 2)) ((0 ≤ j ∧ j < (p.2 : Int)) ∧ K rest L (zK p.1 (st o j.toNat) :: S') st) False
    | .inl _ => False)
  | _ => False
noncomputable def zas (Sh : List zC) (q : Nat) (K : zG) (rest : List rx_E) (L : zL) (S : List zV) (st : zS) : Prop := match S with
  | v :: .inl j :: .inr (.inr (.inl o)) :: S' => zat Sh o (fun s => match s with
    | .inr p => cond (Nat.beq p.1 q || (Nat.beq q 1 && Nat.beq p.1 2)) ((0 ≤ j ∧ j < (p.2 : Int)) ∧ (match v with
      | .inl z => cond (Nat.beq p.1 0) (K rest L S' (zup st o j.toNat z)) (cond (Nat.beq p.1 1) (K rest L S' (zup st o j.toNat (zb z))) (cond (Nat.beq p.1 2) ((z = 0 ∨ z = 1) ∧ K rest L S' (zup st o j.toNat z)) False))
      | .inr (.inl z) => cond (Nat.beq p.1 3) (K rest L S' (zup st o j.toNat z)) False
      | _ => False)) False
    | .inl _ => False)
  | _ => False
noncomputable def zlen (Sh : List zC) (K : zG) (rest : List rx_E) (L : zL) (S : List zV) (st : zS) : Prop := match S with
  | .inr (.inr (.inl o)) :: S' => zat Sh o (fun s => match s with
    | .inr p => K rest L (.inl (p.2 : Int) :: S') st
    | .inl _ => False)
  | _ => False
noncomputable def zcpy (Sh : List zC) (K : zG) (rest : List rx_E) (L : zL) (S : List zV) (st : zS) : Prop := match S with
  | .inl n :: .inl dp :: .inr (.inr (.inl c1)) :: .inl sp :: .inr (.inr (.inl c0)) :: S' => cond (Nat.ble (zcats S') 8) (zat Sh c0 (fun s => match s with
    | .inr p => zat Sh c1 (fun s' => match s' with
      | .inr p' => cond (Nat.beq p.1 0 && Nat.beq p'.1 0) ((0 ≤ n ∧ 0 ≤ dp ∧ 0 ≤ sp ∧ sp + n ≤ (p.2 : Int) ∧ dp + n ≤ (p'.2 : Int)) ∧ K rest L S' (zcp st c0 sp.toNat c1 dp.toNat n.toNat)) False
      | .inl _ => False)
    | .inl _ => False)) False
  | _ => False
def zpush (r : Option zV) (S : List zV) : List zV := match r with
  | some v => v :: S
  | none => S
noncomputable def zinv (Sh : List zC) (call : zCall) (K : zG) (rest : List rx_E) (nu n q a : Nat) (L : zL) (S : List zV) (st : zS) : Prop :=
  ztake n S [] (fun as S' => cond (Nat.ble (zcats S') 8) (cond (Nat.beq q 0) (call nu as st (fun r st' => K rest L (zpush r S') st')) (cond (Nat.beq q 1) (match as with
    | .inr (.inr (.inl o)) :: _ => zat Sh o (fun s => match s with
      | .inl p => cond (Nat.beq p.1 a) (call nu as st (fun r st' => K rest L (zpush r S') st')) False
      | .inr _ => False)
    | _ => False) False)) False)
def zret (q : Nat) (Rt : zQ) (S : List zV) (st : zS) : Prop := cond (Nat.beq q 0) (match S with
  | [] => Rt none st
  | _ => False) False
def zreti (q : Nat) (Rt : zQ) (S : List zV) (st : zS) : Prop := match S with
  | [.inl z] => cond (Nat.beq q 1) (Rt (some (.inl z)) st) (cond (Nat.beq q 2) ((z = 0 ∨ z = 1) ∧ Rt (some (.inl z)) st) False)
  | _ => False
def zretl (q : Nat) (Rt : zQ) (S : List zV) (st : zS) : Prop := match S with
  | [.inr (.inl z)] => cond (Nat.beq q 5) (Rt (some (.inr (.inl z))) st) False
  | _ => False
noncomputable def zstep (Sh : List zC) (cd : List rx_E) (nL q : Nat) (call : zCall) (Rt : zQ) (K : zG) (e : rx_E) (rest : List rx_E) (L : zL) (S : List zV) (st : zS) : Prop :=
  match e.2.1 with
  | .iconst _ => zcst K rest e.2.2.2.1 L S st
  | .bipush _ => zcst K rest e.2.2.2.1 L S st
  | .sipush _ => zcst K rest e.2.2.2.1 L S st
  | .ldc _ => cond (Nat.beq e.2.2.2.2.1 0) (zcst K rest e.2.2.2.1 L S st) False
  | .ldc_w _ => zcst K rest e.2.2.2.1 L S st
  | .lconst _ => zlst K rest e.2.2.2.1 L S st
  | .ldc2_w _ => zlst K rest e.2.2.2.1 L S st
  | .iload _ => zldI K rest e.2.2.2.1 L S st
  | .iload_n _ => zldI K rest e.2.2.2.1 L S st
  | .lload _ => zldL K rest e.2.2.2.1 L S st
  | .lload_n _ => zldL K rest e.2.2.2.1 L S st
  | .aload _ => zldA K rest e.2.2.2.1 L S st
  | .aload_n _ => zldA K rest e.2.2.2.1 L S st
  | .istore _ => zstI nL K rest e.2.2.2.1 L S st
  | .istore_n _ => zstI nL K rest e.2.2.2.1 L S st
  | .lstore _ => zstL nL K rest e.2.2.2.1 L S st
  | .lstore_n _ => zstL nL K rest e.2.2.2.1 L S st
  | .astore _ => zstA nL K rest e.2.2.2.1 L S st
  | .astore_n _ => zstA nL K rest e.2.2.2.1 L S st
  | .iinc _ _ => zinc nL K rest e.2.2.2.1 e.2.2.2.2.1 L S st
  | .iadd => z2 (fun x y => zw (x + y)) K rest L S st
  | .isub => z2 (fun x y => zw (x - y)) K rest L S st
  | .imul => z2 (fun x y => zw (x * y)) K rest L S st
  | .iand => z2 (fun x y => zd (Nat.land (zi x) (zi y))) K rest L S st
  | .ior => z2 (fun x y => zd (Nat.lor (zi x) (zi y))) K rest L S st
  | .ixor => z2 (fun x y => zd (Nat.xor (zi x) (zi y))) K rest L S st
  | .ishl => z2 (fun x y => zd ((zi x * 2 ^ (zi y % 32)) % 4294967296)) K rest L S st
  | .iushr => z2 (fun x y => zd (zi x % 4294967296 / 2 ^ (zi y % 32))) K rest L S st
  | .ishr => z2 (fun x y => x / zpw (y % 32).toNat) K rest L S st
  | .idiv => z2n (fun x y => zw (Int.tdiv x y)) K rest L S st
  | .irem => z2n (fun x y => zw (Int.tmod x y)) K rest L S st
  | .i2b => zi2b K rest L S st
  | .i2l => zi2l K rest L S st
  | .l2i => zl2i K rest L S st
  | .ladd => z2l (fun x y => zx (x + y)) K rest L S st
  | .lsub => z2l (fun x y => zx (x - y)) K rest L S st
  | .lmul => z2l (fun x y => zx (x * y)) K rest L S st
  | .land => z2l (fun x y => ze (Nat.land (zl x) (zl y))) K rest L S st
  | .lor => z2l (fun x y => ze (Nat.lor (zl x) (zl y))) K rest L S st
  | .ldiv => z2m (fun x y => zx (Int.tdiv x y)) K rest L S st
  | .lrem => z2m (fun x y => zx (Int.tmod x y)) K rest L S st
  | .lshl => z2s (fun x y => ze ((zl x * 2 ^ (zi y % 64)) % 18446744073709551616)) K rest L S st
  | .lshr => z2s (fun x y => x / zpw (y % 64).toNat) K rest L S st
  | .lcmp => zlcm K rest L S st
  | .dup => zdup K rest L S st
  | .dup2 => zdup2 K rest L S st
  | .pop => zpop K rest L S st
  | .if_icmp c _ => zicm c K (rx_find cd e.2.2.2.1) rest L S st
  | .ifCond c _ => zifc c K (rx_find cd e.2.2.2.1) rest L S st
  | .goto _ => K (rx_find cd e.2.2.2.1) L S st
  | .tableswitch _ _ _ _ => zsw cd K e.2.2.2.1 e.2.2.2.2.1 e.2.2.2.2.2.1 e.2.2.2.2.2.2 L S st
  | .getfield _ => zgf Sh K rest e.2.2.2.1 e.2.2.2.2.1 e.2.2.2.2.2.1 L S st
  | .putfield _ => zpf Sh K rest e.2.2.2.1 e.2.2.2.2.1 e.2.2.2.2.2.1 L S st
  | .iaload => zal Sh 0 K rest L S st
  | .baload => zal Sh 1 K rest L S st
  | .laload => zal Sh 3 K rest L S st
  | .aaload => zal Sh 4 K rest L S st
  | .iastore => zas Sh 0 K rest L S st
  | .bastore => zas Sh 1 K rest L S st
  | .lastore => zas Sh 3 K rest L S st
  | .arraylength => zlen Sh K rest L S st
  | .invokevirtual _ => zat e.2.2.2.2.2.2 0 (fun ci => zinv Sh call K rest e.2.2.2.1 e.2.2.2.2.1 e.2.2.2.2.2.1 ci L S st)
  | .invokestatic _ => cond (Nat.beq e.2.2.2.2.2.1 4) (zcpy Sh K rest L S st) (zinv Sh call K rest e.2.2.2.1 e.2.2.2.2.1 0 0 L S st)
  | .return_ => zret q Rt S st
  | .ireturn => zreti q Rt S st
  | .lreturn => zretl q Rt S st
  | _ => False
/-- closed under steps -/
def zcl (Sh : List zC) (cd : List rx_E) (nL q : Nat) (call : zCall) (Rt : zQ) (K : zG) : Prop := ∀ (e : rx_E) (rest : List rx_E) (L : zL) (S : List zV) (st : zS), zstep Sh cd nL q call Rt K e rest L S st → K (e :: rest) L S st
