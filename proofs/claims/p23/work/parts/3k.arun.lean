/-! runs of the interval executor: calls by summaries or in place, jumps to loop heads by segments -/
abbrev aT : Type := aB ⊕ (aB ⊕ Nat)
/-- a summary: bounds of the arguments; what may be written; bounds of the answer; frames: a number, less a weight times an argument (which) -/
abbrev aS : Type := List aT × aM × Option (aB ⊕ aB) × (Nat × Nat × Nat)
/-- a part of a measure: a fixed number, or a local's or a field's way to a bound (true: up) -/
abbrev aMs : Type := Nat ⊕ ((Nat ⊕ (Nat × Nat)) × Bool × Int)
/-- a segment: its head, bounds of the locals, fields that are read at once, its measure -/
abbrev aSg : Type := Nat × List (Nat × aT) × List (Nat × Nat) × List aMs
/-- by method: which argument is cut into its numbers, the summaries; none: in place -/
abbrev aIt : Type := List (Option Nat × List aS)
noncomputable def amt (F : aF) (t : aT) (v : aV) : Bool := match t, v with
  | .inl b, .inl x => ain b (arg F x)
  | .inr (.inl b), .inr (.inl x) => ain b (arg F x)
  | .inr (.inr c), .inr (.inr o) => Nat.beq c o
  | _, _ => false
noncomputable def ams (F : aF) (ts : List aT) : List aV → Bool := List.rec (fun vs => match vs with
  | [] => true
  | _ :: _ => false) (fun t _ ih vs => match vs with
  | [] => false
  | v :: vs' => cond (amt F t v) (ih vs') false) ts
noncomputable def asub (m' m : aM) : Bool := aall (fun q => amf m q.1 q.2) m'.1 && aall (fun c => ama m c) m'.2
/-- the frames that a summary needs are there -/
noncomputable def andc (rk wt : Int) (vo : aI) (j : Nat) (F : aF) (s : aS) (as : List aV) : Bool := cond (Nat.beq s.2.2.2.2.1 0) (ile ((s.2.2.2.1 : Int) + (j : Int) + 1) (rk - wt * (arg F vo).2)) (aat as s.2.2.2.2.2 (fun v => match v with
  | .inl a => cond (aon a.1 vo.1 && ieq (s.2.2.2.2.1 : Int) wt) (ile ((s.2.2.2.1 : Int) - wt * a.2 + (j : Int) + 1) (rk - wt * vo.2)) (ile ((s.2.2.2.1 : Int) - (s.2.2.2.2.1 : Int) * (arg F a).1 + (j : Int) + 1) (rk - wt * (arg F vo).2))
  | _ => false))
noncomputable def amc (m : aM) (c : Nat) : Bool := List.rec false (fun q _ ih => cond (Nat.beq q.1 c) true ih) m.1
noncomputable def aflO (m : aM) (O : aO) : aO := afil (fun q => !(amf m q.1.1 q.1.2 || ama m q.1.1)) O
noncomputable def aflA (m : aM) (A : aA) : aA := afil (fun q => !(ama m q.1 || amc m q.1)) A
noncomputable def ause (gt : aG) (m : aM) (rk wt : Int) (vo : aI) (j : Nat) (s : aS) (as : List aV) (F : aF) (O : aO) (A : aA) (kc : aE) : Bool := cond ((aokO gt F O && aokA gt A) && (asub s.2.1 m && andc rk wt vo j F s as)) (match s.2.2.1 with
  | none => kc none F (aflO s.2.1 O) (aflA s.2.1 A)
  | some (.inl b) => afr F b (fun F1 v => kc (some (.inl v)) F1 (aflO s.2.1 O) (aflA s.2.1 A))
  | some (.inr b) => afr F b (fun F1 v => kc (some (.inr (.inl v))) F1 (aflO s.2.1 O) (aflA s.2.1 A))) false
noncomputable def atry (gt : aG) (m : aM) (rk wt : Int) (vo : aI) (j : Nat) (ss : List aS) (as : List aV) (F : aF) (O : aO) (A : aA) (kc : aE) : Bool := List.rec false (fun s _ ih => cond (ams F s.1 as) (ause gt m rk wt vo j s as F O A kc) ih) ss
noncomputable def aset (as : List aV) : Nat → aV → List aV := List.rec (fun _ _ => []) (fun q t ih n v => Nat.rec (v :: t) (fun m _ => q :: ih m v) n) as
noncomputable def aic (gt : aG) (it : aIt) (m : aM) (rk wt : Int) (vo : aI) (j : Nat) (inl : aC) : aC := fun nu as F O A kc => aat it nu (fun x => match x.2 with
  | [] => inl nu as F O A kc
  | _ :: _ => (match x.1 with
    | none => atry gt m rk wt vo j x.2 as F O A kc
    | some i => aat as i (fun v => match v with
      | .inl a => aspl F a (arg F a).1 (fun F1 n => atry gt m rk wt vo j x.2 (aset as i (.inl (none, n))) F1 O A kc) ((arg F a).2 - (arg F a).1 + 1).toNat
      | _ => false)))
noncomputable def aargs (as : List aV) : Nat → aL := List.rec (fun _ => []) (fun v _ ih i => (i, v) :: ih (i + acat v)) as
noncomputable def amem (n : Nat) (l : List Nat) : Bool := List.rec false (fun q _ ih => cond (Nat.beq q n) true ih) l
abbrev aJ : Type := Nat → aL → aF → aO → aA → Bool
noncomputable def ar (Sh : List zC) (gt : aG) (it : aIt) (tb : rx_T) (m : aM) (rk wt : Int) (vo : aI) (n : Nat) : Nat → List rx_E → Nat → Nat → List Nat → aJ → aE → aK := Nat.rec (fun _ _ _ _ _ _ _ _ _ _ _ _ _ => false) (fun _ ih j cd nL q hd jc kc cs L S F O A => match cs with
  | [] => false
  | e :: rest => cond (amem e.1 hd) (match S with
    | [] => jc e.1 L F O A
    | _ :: _ => false) (astep Sh gt m cd nL q (aic gt it m rk wt vo j (fun nu as F O A kc' => aat tb nu (fun x => cond (Nat.ble (acats as) x.2.1 && ile ((j : Int) + 2) (rk - wt * (arg F vo).2)) (ih (j + 1) x.1 x.2.1 x.2.2.2.2 [] (fun _ _ _ _ _ => false) kc' x.1 (aargs as 0) [] F O A) false))) kc (ih j cd nL q hd jc kc) e rest L S F O A)) n
/-- from a head on: its own instruction first -/
noncomputable def ar1 (Sh : List zC) (gt : aG) (it : aIt) (tb : rx_T) (m : aM) (rk wt : Int) (vo : aI) (n : Nat) (cd : List rx_E) (nL q : Nat) (hd : List Nat) (jc : aJ) (kc : aE) (cs : List rx_E) (L : aL) (F : aF) (O : aO) (A : aA) : Bool := match cs with
  | [] => false
  | e :: rest => astep Sh gt m cd nL q (aic gt it m rk wt vo 0 (fun nu as F O A kc' => aat tb nu (fun x => cond (Nat.ble (acats as) x.2.1 && ile ((0 : Int) + 2) (rk - wt * (arg F vo).2)) (ar Sh gt it tb m rk wt vo n (0 + 1) x.1 x.2.1 x.2.2.2.2 [] (fun _ _ _ _ _ => false) kc' x.1 (aargs as 0) [] F O A) false))) kc (ar Sh gt it tb m rk wt vo n 0 cd nL q hd jc kc) e rest L [] F O A
/-- locals within bounds -/
noncomputable def asl (sp : List (Nat × aT)) : aF → (aL → aF → Bool) → Bool := List.rec (fun F k => k [] F) (fun q _ ih F k => match q.2 with
  | .inl b => afr F b (fun F1 v => ih F1 (fun L F2 => k ((q.1, .inl v) :: L) F2))
  | .inr (.inl b) => afr F b (fun F1 v => ih F1 (fun L F2 => k ((q.1, .inr (.inl v)) :: L) F2))
  | .inr (.inr c) => ih F (fun L F2 => k ((q.1, .inr (.inr c)) :: L) F2)) sp
noncomputable def aso (gt : aG) (sp : List (Nat × Nat)) : aF → aO → (aF → aO → Bool) → Bool := List.rec (fun F O k => k F O) (fun q _ ih F O k => agb gt q.1 q.2 (fun bs => aall (fun b => afr F b (fun F1 v => ih F1 (aos O q.1 q.2 v) k)) bs)) sp
/-- the numbers of a measure -/
noncomputable def amv (L : aL) (O : aO) (x : Nat ⊕ (Nat × Nat)) (k : aI → Bool) : Bool := match x with
  | .inl i => aget L i (fun v => match v with
    | .inl a => k a
    | .inr (.inl a) => k a
    | _ => false)
  | .inr q => aolk O q.1 q.2 k false
noncomputable def amvs (L : aL) (O : aO) (ms : List aMs) (k : List (Nat ⊕ (Bool × Int × aI)) → Bool) : Bool := List.rec (fun k => k []) (fun x _ ih k => match x with
  | .inl p => ih (fun r => k (.inl p :: r))
  | .inr y => amv L O y.1 (fun v => ih (fun r => k (.inr (y.2.1, y.2.2, v) :: r)))) ms k
abbrev aMv : Type := List (Nat ⊕ (Bool × Int × aI))
noncomputable def alx (va : aMv) : aMv → Bool := List.rec (fun vb => match vb with
  | [] => false
  | _ :: _ => true) (fun x _ ih vb => match vb with
  | [] => false
  | y :: tb => (match x, y with
    | .inl p, .inl p' => cond (Nat.blt p' p) true (cond (Nat.beq p p') (ih tb) false)
    | .inr a, .inr b => cond ((cond a.1 b.1 (!b.1)) && (ieq a.2.1 b.2.1 && aon a.2.2.1 b.2.2.1)) (cond (ieq a.2.2.2 b.2.2.2) (ih tb) (cond a.1 (ile a.2.2.2 b.2.2.2) (ile b.2.2.2 a.2.2.2))) false
    | _, _ => false)) va
/-- each number of a measure lies on its bound's side, not too far -/
noncomputable def amk (F : aF) (v : aMv) : Bool := aall (fun x => match x with
  | .inl p => Nat.blt p 1048576
  | .inr a => cond a.1 (ile (arg F a.2.2).2 a.2.1 && ile (a.2.1 - (arg F a.2.2).1) 1099511627000) (ile a.2.1 (arg F a.2.2).1 && ile ((arg F a.2.2).2 - a.2.1) 1099511627000)) v && Nat.ble v.length 6
noncomputable def alok (F : aF) (L : aL) (sp : List (Nat × aT)) : Bool := aall (fun q => aget L q.1 (fun v => amt F q.2 v)) sp
def aeqI (a b : aI) : Bool := aon a.1 b.1 && ieq a.2 b.2
/-- a jump to a head: prev: the measure of the segment that is left, if any; ol: the local that the frames hang on -/
noncomputable def ajc (gt : aG) (sgs : List aSg) (ol : Option Nat) (vo : aI) (prev : Option aMv) : aJ := fun pc L F O A => List.rec false (fun sg _ ih => cond (Nat.beq sg.1 pc) (cond ((aokO gt F O && aokA gt A) && (alok F L sg.2.1 && (match ol with
    | none => true
    | some i => aget L i (fun v => match v with
      | .inl a => aeqI a vo
      | _ => false)))) (amvs L O sg.2.2.2 (fun vb => cond (amk F vb) (match prev with
    | none => true
    | some va => alx va vb) false)) false) ih) sgs
noncomputable def akc (gt : aG) (r : Option (aB ⊕ aB)) : aE := fun v F O A => cond (aokO gt F O && aokA gt A) (match r, v with
  | none, none => true
  | some (.inl b), some (.inl x) => ain b (arg F x)
  | some (.inr b), some (.inr (.inl x)) => ain b (arg F x)
  | _, _ => false) false
/-- the value that the frames hang on -/
noncomputable def avo (L : aL) (ol : Option Nat) (k : aI → Bool) : Bool := match ol with
  | none => k (none, 0)
  | some i => aget L i (fun v => match v with
    | .inl a => k a
    | _ => false)
noncomputable def asg (Sh : List zC) (gt : aG) (it : aIt) (tb : rx_T) (n : Nat) (cd : List rx_E) (nL q : Nat) (s : aS) (ol : Option Nat) (sgs : List aSg) (sg : aSg) : Bool :=
  asl sg.2.1 [] (fun L F => aso gt sg.2.2.1 F [] (fun F1 O => avo L ol (fun vo => amvs L O sg.2.2.2 (fun va => ar1 Sh gt it tb s.2.1 (s.2.2.2.1 : Int) (s.2.2.2.2.1 : Int) vo n cd nL q (sgs.map (fun x => x.1)) (ajc gt sgs ol vo (some va)) (akc gt s.2.2.1) (rx_find cd sg.1) L F1 O []))))
noncomputable def aen (Sh : List zC) (gt : aG) (it : aIt) (tb : rx_T) (n : Nat) (cd : List rx_E) (nL q : Nat) (s : aS) (lsp : List (Nat × aT)) (ol : Option Nat) (sgs : List aSg) : Bool :=
  asl lsp [] (fun L F => avo L ol (fun vo => ar Sh gt it tb s.2.1 (s.2.2.2.1 : Int) (s.2.2.2.2.1 : Int) vo (n + 1) 0 cd nL q (sgs.map (fun x => x.1)) (ajc gt sgs ol vo none) (akc gt s.2.2.1) cd L [] F [] []))
