/-! a step of the interval executor; calls by summaries; segments -/
abbrev aC : Type := Nat → List aV → aF → aO → aA → aE → Bool
noncomputable def acst (K : aK) (rest : List rx_E) (a : Nat) (L : aL) (S : List aV) (F : aF) (O : aO) (A : aA) : Bool := cond (Nat.blt a 4294967296) (K rest L (.inl (none, zd a) :: S) F O A) false
noncomputable def alst (K : aK) (rest : List rx_E) (a : Nat) (L : aL) (S : List aV) (F : aF) (O : aO) (A : aA) : Bool := cond (Nat.blt a 18446744073709551616) (K rest L (.inr (.inl (none, ze a)) :: S) F O A) false
noncomputable def aldI (K : aK) (rest : List rx_E) (a : Nat) (L : aL) (S : List aV) (F : aF) (O : aO) (A : aA) : Bool := aget L a (fun v => match v with
  | .inl _ => K rest L (v :: S) F O A
  | _ => false)
noncomputable def aldL (K : aK) (rest : List rx_E) (a : Nat) (L : aL) (S : List aV) (F : aF) (O : aO) (A : aA) : Bool := aget L a (fun v => match v with
  | .inr (.inl _) => K rest L (v :: S) F O A
  | _ => false)
noncomputable def aldA (K : aK) (rest : List rx_E) (a : Nat) (L : aL) (S : List aV) (F : aF) (O : aO) (A : aA) : Bool := aget L a (fun v => match v with
  | .inr (.inr _) => K rest L (v :: S) F O A
  | _ => false)
noncomputable def astI (nL : Nat) (K : aK) (rest : List rx_E) (a : Nat) (L : aL) (S : List aV) (F : aF) (O : aO) (A : aA) : Bool := match S with
  | .inl x :: S' => cond (Nat.blt a nL && anl L a) (K rest ((a, .inl x) :: afil (aP1 a) L) S' F O A) false
  | _ => false
noncomputable def astL (nL : Nat) (K : aK) (rest : List rx_E) (a : Nat) (L : aL) (S : List aV) (F : aF) (O : aO) (A : aA) : Bool := match S with
  | .inr (.inl x) :: S' => cond (Nat.blt (Nat.succ a) nL && anl L a) (K rest ((a, .inr (.inl x)) :: afil (aP2 a) L) S' F O A) false
  | _ => false
noncomputable def astA (nL : Nat) (K : aK) (rest : List rx_E) (a : Nat) (L : aL) (S : List aV) (F : aF) (O : aO) (A : aA) : Bool := match S with
  | .inr (.inr x) :: S' => cond (Nat.blt a nL && anl L a) (K rest ((a, .inr (.inr x)) :: afil (aP1 a) L) S' F O A) false
  | _ => false
noncomputable def ainc (nL : Nat) (K : aK) (rest : List rx_E) (a b : Nat) (L : aL) (S : List aV) (F : aF) (O : aO) (A : aA) : Bool := aget L a (fun v => match v with
  | .inl x => cond (Nat.blt a nL && (Nat.blt b 4294967296 && anl L a)) (aad afI F x (none, zd b) (fun F1 y => K rest ((a, .inl y) :: afil (aP1 a) L) S F1 O A)) false
  | _ => false)
noncomputable def a2 (f : aF → aI → aI → (aF → aI → Bool) → Bool) (K : aK) (rest : List rx_E) (L : aL) (S : List aV) (F : aF) (O : aO) (A : aA) : Bool := match S with
  | .inl y :: .inl x :: S' => f F x y (fun F1 v => K rest L (.inl v :: S') F1 O A)
  | _ => false
noncomputable def a2l (f : aF → aI → aI → (aF → aI → Bool) → Bool) (K : aK) (rest : List rx_E) (L : aL) (S : List aV) (F : aF) (O : aO) (A : aA) : Bool := match S with
  | .inr (.inl y) :: .inr (.inl x) :: S' => f F x y (fun F1 v => K rest L (.inr (.inl v) :: S') F1 O A)
  | _ => false
noncomputable def aany (f : aB) (F : aF) (_ _ : aI) (k : aF → aI → Bool) : Bool := afr F f k
noncomputable def adiv (f : aB) (F : aF) (_ b : aI) (k : aF → aI → Bool) : Bool := cond (anz F b) (afr F f k) false
noncomputable def arem (f : aB) (F : aF) (a b : aI) (k : aF → aI → Bool) : Bool := cond (anz F b && ain f (arg F b)) (arm f F a b k) false
noncomputable def ashr (f : aB) (F : aF) (a _ : aI) (k : aF → aI → Bool) : Bool := cond (ain f (arg F a)) (afr F f k) false
noncomputable def alcm (K : aK) (rest : List rx_E) (L : aL) (S : List aV) (F : aF) (O : aO) (A : aA) : Bool := match S with
  | .inr (.inl y) :: .inr (.inl x) :: S' => cond (alt F x y (fun F1 => K rest L (.inl (none, -1) :: S') F1 O A)) (cond (aeq F x y (fun F1 => K rest L (.inl (none, 0) :: S') F1 O A)) (alt F y x (fun F1 => K rest L (.inl (none, 1) :: S') F1 O A)) false) false
  | _ => false
noncomputable def ai2l (K : aK) (rest : List rx_E) (L : aL) (S : List aV) (F : aF) (O : aO) (A : aA) : Bool := match S with
  | .inl x :: S' => K rest L (.inr (.inl x) :: S') F O A
  | _ => false
noncomputable def al2i (K : aK) (rest : List rx_E) (L : aL) (S : List aV) (F : aF) (O : aO) (A : aA) : Bool := match S with
  | .inr (.inl x) :: S' => cond (ain afI (arg F x)) (K rest L (.inl x :: S') F O A) (afr F afI (fun F1 v => K rest L (.inl v :: S') F1 O A))
  | _ => false
noncomputable def ai2b (K : aK) (rest : List rx_E) (L : aL) (S : List aV) (F : aF) (O : aO) (A : aA) : Bool := match S with
  | .inl _ :: S' => afr F (-128, 127) (fun F1 v => K rest L (.inl v :: S') F1 O A)
  | _ => false
noncomputable def adup (K : aK) (rest : List rx_E) (L : aL) (S : List aV) (F : aF) (O : aO) (A : aA) : Bool := match S with
  | v :: S' => cond (Nat.beq (acat v) 1) (K rest L (v :: v :: S') F O A) false
  | _ => false
noncomputable def adup2 (K : aK) (rest : List rx_E) (L : aL) (S : List aV) (F : aF) (O : aO) (A : aA) : Bool := match S with
  | v :: u :: S' => cond (Nat.beq (acat v) 1 && Nat.beq (acat u) 1) (K rest L (v :: u :: v :: u :: S') F O A) false
  | _ => false
noncomputable def apop (K : aK) (rest : List rx_E) (L : aL) (S : List aV) (F : aF) (O : aO) (A : aA) : Bool := match S with
  | v :: S' => cond (Nat.beq (acat v) 1) (K rest L S' F O A) false
  | _ => false
noncomputable def aicm (c : Jvm.ClassFile.Cond) (K : aK) (tgt rest : List rx_E) (L : aL) (S : List aV) (F : aF) (O : aO) (A : aA) : Bool := match S with
  | .inl y :: .inl x :: S' => cond (acm c F x y (fun F1 => K tgt L S' F1 O A)) (acm (acn c) F x y (fun F1 => K rest L S' F1 O A)) false
  | _ => false
noncomputable def aifc (c : Jvm.ClassFile.Cond) (K : aK) (tgt rest : List rx_E) (L : aL) (S : List aV) (F : aF) (O : aO) (A : aA) : Bool := match S with
  | .inl x :: S' => cond (acm c F x (none, 0) (fun F1 => K tgt L S' F1 O A)) (acm (acn c) F x (none, 0) (fun F1 => K rest L S' F1 O A)) false
  | _ => false
noncomputable def asws (P : Nat → aF → Bool) (F : aF) (x : aI) (t : List Nat) : Int → Bool := List.rec (fun _ => true) (fun g _ ih n => cond (aref F x n n (P g)) (ih (n + 1)) false) t
noncomputable def asw (cd : List rx_E) (K : aK) (a b c : Nat) (t : List Nat) (L : aL) (S : List aV) (F : aF) (O : aO) (A : aA) : Bool := match S with
  | .inl x :: S' => cond (Nat.beq (b + t.length) (c + 1)) (cond (aref F x (arg F x).1 ((b : Int) - 2147483648 - 1) (fun F1 => K (rx_find cd a) L S' F1 O A)) (cond (aref F x ((c : Int) - 2147483648 + 1) (arg F x).2 (fun F1 => K (rx_find cd a) L S' F1 O A)) (asws (fun g F1 => K (rx_find cd g) L S' F1 O A) F x t ((b : Int) - 2147483648)) false) false) false
  | _ => false
noncomputable def agf (Sh : List zC) (gt : aG) (K : aK) (rest : List rx_E) (a b c : Nat) (L : aL) (S : List aV) (F : aF) (O : aO) (A : aA) : Bool := match S with
  | .inr (.inr o) :: S' => cond (Nat.ble c 1) (aat Sh o (fun s => match s with
    | .inl q => cond (Nat.beq q.1 a) (aat q.2 b (fun k => cond (Nat.ble 10 k) (K rest L (.inr (.inr (k - 10)) :: S') F O A) (ard gt o b k F O (fun v F1 O1 => K rest L (v :: S') F1 O1 A)))) false
    | .inr _ => false)) false
  | _ => false
noncomputable def apf (Sh : List zC) (gt : aG) (m : aM) (K : aK) (rest : List rx_E) (a b c : Nat) (L : aL) (S : List aV) (F : aF) (O : aO) (A : aA) : Bool := match S with
  | v :: .inr (.inr o) :: S' => aat Sh o (fun s => match s with
    | .inl q => cond (Nat.beq q.1 a && amf m o b) (agb gt o b (fun _ => aat q.2 b (fun k => cond (Nat.beq k c) (match v with
      | .inl z => cond (Nat.beq k 0 || (Nat.beq k 2 && ain (0, 1) (arg F z))) (K rest L S' F (aos O o b z) A) false
      | .inr (.inl z) => cond (Nat.beq k 3) (K rest L S' F (aos O o b z) A) false
      | .inr (.inr r) => cond (Nat.beq k 4) (K rest L S' F (aos O o b (none, (r : Int))) A) false) false))) false
    | .inr _ => false)
  | _ => false
/-- an array's bounds now -/
noncomputable def aab (gt : aG) (A : aA) (o : Nat) (k : aB → Bool) : Bool := aalk A o k (aat gt o (fun x => match x with
  | .inl _ => false
  | .inr b => k b))
/-- each number that an index may be -/
noncomputable def aspl (F : aF) (v : aI) (lo : Int) (k : aF → Int → Bool) : Nat → Bool := fun n => Nat.rec true (fun i ih => cond (aref F v (lo + (i : Int)) (lo + (i : Int)) (fun F1 => k F1 (lo + (i : Int)))) ih false) n
noncomputable def aal (Sh : List zC) (gt : aG) (q : Nat) (K : aK) (rest : List rx_E) (L : aL) (S : List aV) (F : aF) (O : aO) (A : aA) : Bool := match S with
  | .inl j :: .inr (.inr o) :: S' => aat Sh o (fun s => match s with
    | .inr p => cond (Nat.beq p.1 q || (Nat.beq q 1 && Nat.beq p.1 2)) (cond (ain (0, (p.2 : Int) - 1) (arg F j)) (cond (Nat.beq q 4) (aspl F j (arg F j).1 (fun F1 i => aolk O o i.toNat (fun _ => false) (agb gt o i.toNat (fun bs => aall (fun b => cond (ieq b.1 b.2 && ile 0 b.1) (K rest L (.inr (.inr b.1.toNat) :: S') F1 O A) false) bs))) ((arg F j).2 - (arg F j).1 + 1).toNat)
      (aab gt A o (fun b => afr F b (fun F1 v => K rest L (cond (Nat.beq q 3) (.inr (.inl v)) (.inl v) :: S') F1 O A)))) false) false
    | .inl _ => false)
  | _ => false
noncomputable def aas (Sh : List zC) (gt : aG) (m : aM) (q : Nat) (K : aK) (rest : List rx_E) (L : aL) (S : List aV) (F : aF) (O : aO) (A : aA) : Bool := match S with
  | v :: .inl j :: .inr (.inr o) :: S' => aat Sh o (fun s => match s with
    | .inr p => cond ((Nat.beq p.1 q || (Nat.beq q 1 && Nat.beq p.1 2)) && (ain (0, (p.2 : Int) - 1) (arg F j) && ama m o)) (match v with
      | .inl z => aab gt A o (fun b => cond (Nat.beq p.1 0) (K rest L S' F O (aas0 A o (imin b.1 (arg F z).1, imax b.2 (arg F z).2))) (cond (Nat.beq p.1 1) (K rest L S' F O (aas0 A o (imin b.1 (-128), imax b.2 127))) (cond (Nat.beq p.1 2 && ain (0, 1) (arg F z)) (K rest L S' F O (aas0 A o (imin b.1 0, imax b.2 1))) false)))
      | .inr (.inl z) => cond (Nat.beq p.1 3) (aab gt A o (fun b => K rest L S' F O (aas0 A o (imin b.1 (arg F z).1, imax b.2 (arg F z).2)))) false
      | _ => false) false
    | .inl _ => false)
  | _ => false
noncomputable def alen (Sh : List zC) (K : aK) (rest : List rx_E) (L : aL) (S : List aV) (F : aF) (O : aO) (A : aA) : Bool := match S with
  | .inr (.inr o) :: S' => aat Sh o (fun s => match s with
    | .inr p => K rest L (.inl (none, (p.2 : Int)) :: S') F O A
    | .inl _ => false)
  | _ => false
noncomputable def acpy (Sh : List zC) (gt : aG) (m : aM) (K : aK) (rest : List rx_E) (L : aL) (S : List aV) (F : aF) (O : aO) (A : aA) : Bool := match S with
  | .inl n :: .inl dp :: .inr (.inr c1) :: .inl sp :: .inr (.inr c0) :: S' => cond (Nat.ble (acats S') 8 && ama m c1) (aat Sh c0 (fun s => match s with
    | .inr p => aat Sh c1 (fun s' => match s' with
      | .inr p' => cond ((Nat.beq p.1 0 && Nat.beq p'.1 0) && ((ile 0 (arg F n).1 && (ile 0 (arg F dp).1 && ile 0 (arg F sp).1)) && (ile ((arg F sp).2 + (arg F n).2) (p.2 : Int) && ile ((arg F dp).2 + (arg F n).2) (p'.2 : Int)))) (aab gt A c0 (fun b0 => aab gt A c1 (fun b1 => K rest L S' F O (aas0 A c1 (imin b0.1 b1.1, imax b0.2 b1.2))))) false
      | .inl _ => false)
    | .inl _ => false)) false
  | _ => false
def apush (r : Option aV) (S : List aV) : List aV := match r with
  | some v => v :: S
  | none => S
noncomputable def ainv (Sh : List zC) (ic : aC) (K : aK) (rest : List rx_E) (nu n q a : Nat) (L : aL) (S : List aV) (F : aF) (O : aO) (A : aA) : Bool :=
  atake n S [] (fun as S' => cond (Nat.ble (acats S') 8) (cond (Nat.beq q 0) (ic nu as F O A (fun r F1 O1 A1 => K rest L (apush r S') F1 O1 A1)) (cond (Nat.beq q 1) (match as with
    | .inr (.inr o) :: _ => aat Sh o (fun s => match s with
      | .inl p => cond (Nat.beq p.1 a) (ic nu as F O A (fun r F1 O1 A1 => K rest L (apush r S') F1 O1 A1)) false
      | .inr _ => false)
    | _ => false) false)) false)
noncomputable def aret (q : Nat) (kc : aE) (S : List aV) (F : aF) (O : aO) (A : aA) : Bool := cond (Nat.beq q 0) (match S with
  | [] => kc none F O A
  | _ => false) false
noncomputable def areti (q : Nat) (kc : aE) (S : List aV) (F : aF) (O : aO) (A : aA) : Bool := match S with
  | [.inl z] => cond (Nat.beq q 1 || (Nat.beq q 2 && ain (0, 1) (arg F z))) (kc (some (.inl z)) F O A) false
  | _ => false
noncomputable def aretl (q : Nat) (kc : aE) (S : List aV) (F : aF) (O : aO) (A : aA) : Bool := match S with
  | [.inr (.inl z)] => cond (Nat.beq q 5) (kc (some (.inr (.inl z))) F O A) false
  | _ => false
noncomputable def astep (Sh : List zC) (gt : aG) (m : aM) (cd : List rx_E) (nL q : Nat) (ic : aC) (kc : aE) (K : aK) (e : rx_E) (rest : List rx_E) (L : aL) (S : List aV) (F : aF) (O : aO) (A : aA) : Bool :=
  match e.2.1 with
  | .iconst _ => acst K rest e.2.2.2.1 L S F O A
  | .bipush _ => acst K rest e.2.2.2.1 L S F O A
  | .sipush _ => acst K rest e.2.2.2.1 L S F O A
  | .ldc _ => cond (Nat.beq e.2.2.2.2.1 0) (acst K rest e.2.2.2.1 L S F O A) false
  | .ldc_w _ => acst K rest e.2.2.2.1 L S F O A
  | .lconst _ => alst K rest e.2.2.2.1 L S F O A
  | .ldc2_w _ => alst K rest e.2.2.2.1 L S F O A
  | .iload _ => aldI K rest e.2.2.2.1 L S F O A
  | .iload_n _ => aldI K rest e.2.2.2.1 L S F O A
  | .lload _ => aldL K rest e.2.2.2.1 L S F O A
  | .lload_n _ => aldL K rest e.2.2.2.1 L S F O A
  | .aload _ => aldA K rest e.2.2.2.1 L S F O A
  | .aload_n _ => aldA K rest e.2.2.2.1 L S F O A
  | .istore _ => astI nL K rest e.2.2.2.1 L S F O A
  | .istore_n _ => astI nL K rest e.2.2.2.1 L S F O A
  | .lstore _ => astL nL K rest e.2.2.2.1 L S F O A
  | .lstore_n _ => astL nL K rest e.2.2.2.1 L S F O A
  | .astore _ => astA nL K rest e.2.2.2.1 L S F O A
  | .astore_n _ => astA nL K rest e.2.2.2.1 L S F O A
  | .iinc _ _ => ainc nL K rest e.2.2.2.1 e.2.2.2.2.1 L S F O A
  | .iadd => a2 (aad afI) K rest L S F O A
  | .isub => a2 (asb afI) K rest L S F O A
  | .imul => a2 (aml afI) K rest L S F O A
  | .iand => a2 (aan afI) K rest L S F O A
  | .ior => a2 (aany afI) K rest L S F O A
  | .ixor => a2 (aany afI) K rest L S F O A
  | .ishl => a2 (aany afI) K rest L S F O A
  | .iushr => a2 (aany afI) K rest L S F O A
  | .ishr => a2 (ashr afI) K rest L S F O A
  | .idiv => a2 (adiv afI) K rest L S F O A
  | .irem => a2 (arem afI) K rest L S F O A
  | .i2b => ai2b K rest L S F O A
  | .i2l => ai2l K rest L S F O A
  | .l2i => al2i K rest L S F O A
  | .ladd => a2l (aad afJ) K rest L S F O A
  | .lsub => a2l (asb afJ) K rest L S F O A
  | .lmul => a2l (aml afJ) K rest L S F O A
  | .land => a2l (aany afJ) K rest L S F O A
  | .lor => a2l (aany afJ) K rest L S F O A
  | .ldiv => a2l (adiv afJ) K rest L S F O A
  | .lrem => a2l (arem afJ) K rest L S F O A
  | .lcmp => alcm K rest L S F O A
  | .dup => adup K rest L S F O A
  | .dup2 => adup2 K rest L S F O A
  | .pop => apop K rest L S F O A
  | .if_icmp c _ => aicm c K (rx_find cd e.2.2.2.1) rest L S F O A
  | .ifCond c _ => aifc c K (rx_find cd e.2.2.2.1) rest L S F O A
  | .goto _ => K (rx_find cd e.2.2.2.1) L S F O A
  | .tableswitch _ _ _ _ => asw cd K e.2.2.2.1 e.2.2.2.2.1 e.2.2.2.2.2.1 e.2.2.2.2.2.2 L S F O A
  | .getfield _ => agf Sh gt K rest e.2.2.2.1 e.2.2.2.2.1 e.2.2.2.2.2.1 L S F O A
  | .putfield _ => apf Sh gt m K rest e.2.2.2.1 e.2.2.2.2.1 e.2.2.2.2.2.1 L S F O A
  | .iaload => aal Sh gt 0 K rest L S F O A
  | .baload => aal Sh gt 1 K rest L S F O A
  | .laload => aal Sh gt 3 K rest L S F O A
  | .aaload => aal Sh gt 4 K rest L S F O A
  | .iastore => aas Sh gt m 0 K rest L S F O A
  | .bastore => aas Sh gt m 1 K rest L S F O A
  | .lastore => aas Sh gt m 3 K rest L S F O A
  | .arraylength => alen Sh K rest L S F O A
  | .invokevirtual _ => aat e.2.2.2.2.2.2 0 (fun ci => ainv Sh ic K rest e.2.2.2.1 e.2.2.2.2.1 e.2.2.2.2.2.1 ci L S F O A)
  | .invokestatic _ => cond (Nat.beq e.2.2.2.2.2.1 4) (acpy Sh gt m K rest L S F O A) (ainv Sh ic K rest e.2.2.2.1 e.2.2.2.2.1 0 0 L S F O A)
  | .return_ => aret q kc S F O A
  | .ireturn => areti q kc S F O A
  | .lreturn => aretl q kc S F O A
  | _ => false
