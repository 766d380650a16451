/-! a step of the interval executor is a step of the second layer: fields, arrays, calls, ends -/
section ASND2
variable {gt : aG} {m : aM} {st0 : zS} {n0 : Nat} {rho0 : Nat → Int} {K : aK} {Kz : zG} {rest cd : List rx_E} {F : aF} {rho : Nat → Int} {L : aL} {S : List aV} {O : aO} {A : aA} {Lz : zL} {Sz : List zV} {st : zS} {Sh : List zC} {nL q : Nat} {call : zCall} {ic : aC} {kc : aE} {Rt : zQ}
theorem aX.sto {O' : aO} {A' : aA} {st' : zS} (X : aX gt m st0 n0 rho0 F rho L S O A Lz Sz st) (h : aRT gt (afl F) rho O' A' st') (hf : aFr m st0 st') : aX gt m st0 n0 rho0 F rho L S O' A' Lz Sz st' := ⟨X.1, X.2.1, X.2.2.1, X.2.2.2.1, h, hf⟩
theorem zcondE {b : Bool} {P Q : Prop} (h : b = true) (k : P) : cond b P Q := by rw [h]; exact k
theorem akd_ok {k n : Nat} {v : aI} {z : Int} {g : aV → Bool} (hk : k < 10) (h : akd k v g = true) (hv : arel n rho v z) : ∃ u, g u = true ∧ avr n rho u (zK k z) := by
  unfold akd at h
  unfold zK
  rw [zK_lt hk]
  cases c3 : Nat.beq k 3 with
  | true =>
    rw [c3] at h
    exact ⟨_, h, hv⟩
  | false =>
    rw [c3] at h
    cases c4 : Nat.beq k 4 with
    | true =>
      rw [c4] at h
      obtain ⟨s, c⟩ := v
      cases s with
      | none =>
        obtain ⟨h1, h2⟩ := acond (show cond (ile 0 c) (g (.inr (.inr c.toNat))) false = true from h)
        have hv : z = c := hv
        refine ⟨_, h2, ?_⟩
        show c.toNat = z.toNat
        rw [hv]
      | some s => cases h
    | false =>
      rw [c4] at h
      exact ⟨_, h, hv⟩
theorem ard_ok {c f k : Nat} {g : aV → aF → aO → Bool} (hk : k < 10) (h : ard gt c f k F O g = true) (hF : aokF F rho) (hT : aRT gt (afl F) rho O A st) : ∃ u F1 O1 rho1, g u F1 O1 = true ∧ aokF F1 rho1 ∧ aext (afl F) rho (afl F1) rho1 ∧ avr (afl F1) rho1 u (zK k (st c f)) ∧ aRT gt (afl F1) rho1 O1 A st := by
  rcases aolk_ok h with ⟨v, h1, h2⟩ | ⟨h1, h2⟩
  · obtain ⟨u, h3, h4⟩ := akd_ok hk h2 (hT.1 c f v h1).2
    exact ⟨u, F, O, rho, h3, hF, aext.rf _ _, h4, hT⟩
  · obtain ⟨l, bs, h3, h4, h5⟩ := agb_ok h2
    have h6 : ulk A c = none := by
      cases q : ulk A c with
      | none => rfl
      | some b =>
        obtain ⟨⟨b', h7⟩, -⟩ := hT.2.1 c b q
        rw [h3] at h7
        cases h7
    have h7 := hT.2.2 c f h1 h6
    unfold gok at h7
    rw [h3] at h7
    dsimp only at h7
    rw [h4] at h7
    obtain ⟨b, hb, hz⟩ := h7
    obtain ⟨F1, v, rho1, k1, k2, k3, k4⟩ := afr_ok (aall_ok h5 b hb) hF hz.1 hz.2
    obtain ⟨u, k5, k6⟩ := akd_ok hk k1 k4
    refine ⟨u, F1, _, rho1, k5, k2, k3, k6, ?_⟩
    have hT1 := hT.ext k3
    refine ⟨fun c' i v' hv' => ?_, hT1.2.1, fun c' i hn hu => ?_⟩
    · unfold olk at hv'
      by_cases e : c = c' ∧ f = i
      · rw [if_pos e] at hv'
        cases hv'
        obtain ⟨rfl, rfl⟩ := e
        exact ⟨⟨l, h3⟩, k4⟩
      · rw [if_neg e] at hv'
        exact hT1.1 c' i v' hv'
    · unfold olk at hn
      by_cases e : c = c' ∧ f = i
      · rw [if_pos e] at hn
        cases hn
      · rw [if_neg e] at hn
        exact hT1.2.2 c' i hn hu
theorem s_gf {a b c : Nat} (hK : aKs gt m st0 n0 rho0 K Kz) (X : aX gt m st0 n0 rho0 F rho L S O A Lz Sz st) (h : agf Sh gt K rest a b c L S F O A = true) : zgf Sh Kz rest a b c Lz Sz st := by
  unfold agf at h
  split at h
  · rename_i o S'
    obtain ⟨Sz', rfl, h5⟩ := aRS_r X.2.2.2.1
    obtain ⟨h1, h⟩ := acond h
    obtain ⟨s, h2, h3⟩ := aat_ok h
    refine zcond h1 (zat_of h2 ?_)
    rcases s with ⟨a', ks⟩ | p
    · obtain ⟨h4, h6⟩ := acond h3
      obtain ⟨k, h7, h8⟩ := aat_ok h6
      refine zcond h4 (zat_of h7 ?_)
      cases ck : Nat.ble 10 k with
      | true =>
        rw [ck] at h8
        have e : zK k (st o b) = .inr (.inr (.inl (k - 10))) := by unfold zK; rw [ck]; rfl
        rw [e]
        exact hK _ _ _ _ _ _ h8 _ _ _ _ (X.sk ⟨rfl, h5⟩)
      | false =>
        rw [ck] at h8
        have hk : k < 10 := rx_bF ck
        have h8 : ard gt o b k F O (fun v F1 O1 => K rest L (v :: S') F1 O1 A) = true := h8
        obtain ⟨u, F1, O1, rho1, k1, k2, k3, k4, k5⟩ := ard_ok (A := A) (st := st) hk h8 X.1 X.2.2.2.2.1
        have X1 := (X.sk h5).ex k2 k3
        exact hK _ _ _ _ _ _ k1 _ _ _ _ ((X1.sk (S' := u :: S') (Sz' := zK k (st o b) :: Sz') ⟨k4, X1.2.2.2.1⟩).sto k5 X1.2.2.2.2.2)
    · cases h3
  · cases h
theorem s_pf {a b c : Nat} (hK : aKs gt m st0 n0 rho0 K Kz) (X : aX gt m st0 n0 rho0 F rho L S O A Lz Sz st) (h : apf Sh gt m K rest a b c L S F O A = true) : zpf Sh Kz rest a b c Lz Sz st := by
  unfold apf at h
  split at h
  · rename_i v o S'
    obtain ⟨u, Sz', rfl, h4, h5⟩ := aRS_v X.2.2.2.1
    obtain ⟨Sz'', rfl, h6⟩ := aRS_r h5
    obtain ⟨s, h2, h3⟩ := aat_ok h
    refine zat_of h2 ?_
    rcases s with ⟨a', ks⟩ | p
    · obtain ⟨h7, h8⟩ := acond h3
      obtain ⟨h7, h9⟩ := rx_an h7
      obtain ⟨l, bs, g1, g2, g3⟩ := agb_ok h8
      obtain ⟨k, g4, g5⟩ := aat_ok g3
      obtain ⟨g6, g7⟩ := acond g5
      refine zcond h7 (zat_of g4 (zcond g6 ?_))
      have key : ∀ (x : aI) (z : Int), arel (afl F) rho x z → K rest L S' F (aos O o b x) A = true → Kz rest Lz Sz'' (zup st o b z) := fun x z hx hk => hK _ _ _ _ _ _ hk _ _ _ _ ((X.sk h6).sto (aRT_put X.2.2.2.2.1 g1 hx) (aFr_put X.2.2.2.2.2 h9 z))
      rcases v with x | (x | r)
      · rcases u with z | (z | (o' | j))
        · obtain ⟨g8, g9⟩ := acond g7
          rcases Bool.or_eq_true_iff.mp g8 with g8 | g8
          · exact zcondE g8 (key x z h4 g9)
          · obtain ⟨g8, g10⟩ := rx_an g8
            have g8' := rx_bq g8
            subst g8'
            have g10 := ain_ok g10
            have g11 := arg_ok X.1 h4
            have g12 : (0 : Int) ≤ (arg F x).1 := g10.1
            have g13 : (arg F x).2 ≤ (1 : Int) := g10.2
            exact ⟨by omega, key x z h4 g9⟩
        · exact absurd h4 id
        · exact absurd h4 id
        · exact absurd h4 id
      · rcases u with z | (z | (o' | j))
        · exact absurd h4 id
        · obtain ⟨g8, g9⟩ := acond g7
          exact zcond g8 (key x z h4 g9)
        · exact absurd h4 id
        · exact absurd h4 id
      · rcases u with z | (z | (o' | j))
        · exact absurd h4 id
        · exact absurd h4 id
        · have e : r = o' := h4
          subst e
          obtain ⟨g8, g9⟩ := acond g7
          exact zcond g8 (key (none, (r : Int)) (r : Int) rfl g9)
        · exact absurd h4 id
    · cases h3
  · cases h
theorem aspl_ok {v : aI} {lo z : Int} {k : aF → Int → Bool} (hF : aokF F rho) (hv : arel (afl F) rho v z) : ∀ {n : Nat}, aspl F v lo k n = true → lo ≤ z → z < lo + (n : Int) → ∃ F1, k F1 z = true ∧ aokF F1 rho ∧ afl F1 = afl F := by
  intro n
  induction n with
  | zero => intro _ h1 h2; omega
  | succ n ih =>
    intro h h1 h2
    obtain ⟨g1, g2⟩ := acond (show cond (aref F v (lo + (n : Int)) (lo + (n : Int)) (fun F1 => k F1 (lo + (n : Int)))) (aspl F v lo k n) false = true from h)
    by_cases e : z = lo + (n : Int)
    · obtain ⟨F1, k1, k2, k3⟩ := aref_ok g1 hF hv (by omega) (by omega)
      rw [← e] at k1
      exact ⟨F1, k1, k2, k3⟩
    · exact ih g2 h1 (by omega)
theorem s_al {q : Nat} (hK : aKs gt m st0 n0 rho0 K Kz) (X : aX gt m st0 n0 rho0 F rho L S O A Lz Sz st) (h : aal Sh gt q K rest L S F O A = true) (hq : q = 0 ∨ q = 1 ∨ q = 3 ∨ q = 4) : zal Sh q Kz rest Lz Sz st := by
  unfold aal at h
  split at h
  · rename_i j o S'
    obtain ⟨zj, Sz', rfl, h4, h5⟩ := aRS_i X.2.2.2.1
    obtain ⟨Sz'', rfl, h6⟩ := aRS_r h5
    obtain ⟨s, h2, h3⟩ := aat_ok h
    refine zat_of h2 ?_
    rcases s with p | ⟨t, n⟩
    · cases h3
    · obtain ⟨h7, h8⟩ := acond h3
      obtain ⟨h9, h10⟩ := acond h8
      have h9 := ain_ok h9
      have hb := arg_ok X.1 h4
      have b1 : (0 : Int) ≤ (arg F j).1 := h9.1
      have b2 : (arg F j).2 ≤ (n : Int) - 1 := h9.2
      refine zcond h7 ⟨⟨by omega, by show zj < (n : Int); omega⟩, ?_⟩
      show Kz rest Lz (zK t (st o zj.toNat) :: Sz'') st
      cases c4 : Nat.beq q 4 with
      | true =>
        have e4 := rx_bq c4
        subst e4
        have et : t = 4 := by
          rcases Bool.or_eq_true_iff.mp h7 with k | k
          · exact rx_bq k
          · cases (rx_an k).1
        subst et
        have h10 : aspl F j (arg F j).1 (fun F1 i => aolk O o i.toNat (fun _ => false) (agb gt o i.toNat (fun bs => aall (fun b => cond (ieq b.1 b.2 && ile 0 b.1) (K rest L (.inr (.inr b.1.toNat) :: S') F1 O A) false) bs))) ((arg F j).2 - (arg F j).1 + 1).toNat = true := h10
        obtain ⟨F1, k1, k2, k3⟩ := aspl_ok X.1 h4 h10 hb.1 (by omega)
        rcases aolk_ok k1 with ⟨v, -, k4⟩ | ⟨k4, k5⟩
        · cases k4
        · obtain ⟨l, bs, g1, g2, g3⟩ := agb_ok k5
          have hT := X.2.2.2.2.1
          have g4 : ulk A o = none := by
            cases q9 : ulk A o with
            | none => rfl
            | some b =>
              obtain ⟨⟨b', h11⟩, -⟩ := hT.2.1 o b q9
              rw [g1] at h11
              cases h11
          have g5 := hT.2.2 o zj.toNat k4 g4
          unfold gok at g5
          rw [g1] at g5
          dsimp only at g5
          rw [g2] at g5
          obtain ⟨b, hb', hz⟩ := g5
          obtain ⟨g6, g7⟩ := acond (aall_ok g3 b hb')
          obtain ⟨g8, g9⟩ := rx_an g6
          have g8 := ieq_ok g8
          have e : zK 4 (st o zj.toNat) = .inr (.inr (.inl b.1.toNat)) := by
            show (.inr (.inr (.inl (st o zj.toNat).toNat)) : zV) = _
            rw [show st o zj.toNat = b.1 by omega]
          rw [e]
          exact hK _ _ _ _ _ _ g7 _ _ _ _ (((X.sk h6).rf k2 k3).sk ⟨rfl, aRS.ext (aext.of_eq rho k3) h6⟩)
      | false =>
        rw [c4] at h10
        have h10 : aab gt A o (fun b => afr F b (fun F1 v => K rest L (cond (Nat.beq q 3) (.inr (.inl v)) (.inl v) :: S') F1 O A)) = true := h10
        obtain ⟨b, b0, g1, g2, g3⟩ := aab_ok X.2.2.2.2.1 h10
        obtain ⟨F1, v, rho1, k1, k2, k3, k4⟩ := afr_ok g2 X.1 (g3 zj.toNat).1 (g3 zj.toNat).2
        refine hK _ _ _ _ _ _ k1 _ _ _ _ (((X.sk h6).ex k2 k3).sk ⟨?_, aRS.ext k3 h6⟩)
        rcases hq with rfl | rfl | rfl | rfl
        · have et : t = 0 := by
            rcases Bool.or_eq_true_iff.mp h7 with k | k
            · exact rx_bq k
            · cases (rx_an k).1
          subst et
          exact k4
        · have et : t = 1 ∨ t = 2 := by
            rcases Bool.or_eq_true_iff.mp h7 with k | k
            · exact Or.inl (rx_bq k)
            · exact Or.inr (rx_bq (rx_an k).2)
          rcases et with rfl | rfl
          · exact k4
          · exact k4
        · have et : t = 3 := by
            rcases Bool.or_eq_true_iff.mp h7 with k | k
            · exact rx_bq k
            · cases (rx_an k).1
          subst et
          exact k4
        · cases c4
  · cases h
theorem s_as {q : Nat} (hK : aKs gt m st0 n0 rho0 K Kz) (X : aX gt m st0 n0 rho0 F rho L S O A Lz Sz st) (h : aas Sh gt m q K rest L S F O A = true) : zas Sh q Kz rest Lz Sz st := by
  unfold aas at h
  split at h
  · rename_i v j o S'
    obtain ⟨u, Sz', rfl, h4, h5⟩ := aRS_v X.2.2.2.1
    obtain ⟨zj, Sz'', rfl, h6, h7⟩ := aRS_i h5
    obtain ⟨Sz3, rfl, h8⟩ := aRS_r h7
    obtain ⟨s, h2, h3⟩ := aat_ok h
    refine zat_of h2 ?_
    rcases s with p | ⟨t, n⟩
    · cases h3
    · obtain ⟨h9, h10⟩ := acond h3
      obtain ⟨h9, h11⟩ := rx_an h9
      obtain ⟨h11, h12⟩ := rx_an h11
      have h11 := ain_ok h11
      have hb := arg_ok X.1 h6
      have b1 : (0 : Int) ≤ (arg F j).1 := h11.1
      have b2 : (arg F j).2 ≤ (n : Int) - 1 := h11.2
      refine zcond h9 ⟨⟨by omega, by show zj < (n : Int); omega⟩, ?_⟩
      have key : ∀ (b b0 b' : aB) (z : Int), gt[o]? = some (.inr b0) → (∀ i, b.1 ≤ st o i ∧ st o i ≤ b.2) → b'.1 ≤ b.1 → b.2 ≤ b'.2 → b'.1 ≤ z → z ≤ b'.2 → K rest L S' F O (aas0 A o b') = true → Kz rest Lz Sz3 (zup st o zj.toNat z) := by
        intro b b0 b' z e1 e2 e3 e4 e5 e6 e7
        refine hK _ _ _ _ _ _ e7 _ _ _ _ ((X.sk h8).sto (aRT_puta X.2.2.2.2.1 e1 (fun c i hc => zup_nc st z hc) (fun i => ?_)) (aFr_arr X.2.2.2.2.2 h12 (fun c i hc => zup_nc st z hc)))
        rw [zup_if]
        have := e2 i
        split <;> omega
      rcases v with x | (x | r)
      · rcases u with z | (z | (o' | i))
        · have h10 : aab gt A o (fun b => cond (Nat.beq t 0) (K rest L S' F O (aas0 A o (imin b.1 (arg F x).1, imax b.2 (arg F x).2))) (cond (Nat.beq t 1) (K rest L S' F O (aas0 A o (imin b.1 (-128), imax b.2 127))) (cond (Nat.beq t 2 && ain (0, 1) (arg F x)) (K rest L S' F O (aas0 A o (imin b.1 0, imax b.2 1))) false))) = true := h10
          obtain ⟨b, b0, g1, g2, g3⟩ := aab_ok X.2.2.2.2.1 h10
          have hz := arg_ok X.1 h4
          show cond (Nat.beq t 0) (Kz rest Lz Sz3 (zup st o zj.toNat z)) (cond (Nat.beq t 1) (Kz rest Lz Sz3 (zup st o zj.toNat (zb z))) (cond (Nat.beq t 2) ((z = 0 ∨ z = 1) ∧ Kz rest Lz Sz3 (zup st o zj.toNat z)) False))
          cases c0 : Nat.beq t 0 with
          | true =>
            simp only [c0] at g2
            have i1 := imin_le b.1 (arg F x).1
            have i2 := le_imax b.2 (arg F x).2
            exact key b b0 _ z g1 g3 i1.1 i2.1 (by dsimp only; omega) (by dsimp only; omega) g2
          | false =>
            simp only [c0] at g2
            cases c1 : Nat.beq t 1 with
            | true =>
              simp only [c1] at g2
              have i1 := imin_le b.1 (-128)
              have i2 := le_imax b.2 127
              have i3 := zb_ok z
              exact key b b0 _ (zb z) g1 g3 i1.1 i2.1 (by dsimp only; omega) (by dsimp only; omega) g2
            | false =>
              simp only [c1] at g2
              obtain ⟨g4, g5⟩ := acond g2
              obtain ⟨g4, g6⟩ := rx_an g4
              have g6 := ain_ok g6
              have g7 : (0 : Int) ≤ (arg F x).1 := g6.1
              have g8 : (arg F x).2 ≤ (1 : Int) := g6.2
              have i1 := imin_le b.1 0
              have i2 := le_imax b.2 1
              exact zcond g4 ⟨by omega, key b b0 _ z g1 g3 i1.1 i2.1 (by dsimp only; omega) (by dsimp only; omega) g5⟩
        · exact absurd h4 id
        · exact absurd h4 id
        · exact absurd h4 id
      · rcases u with z | (z | (o' | i))
        · exact absurd h4 id
        · obtain ⟨c3, h13⟩ := acond h10
          obtain ⟨b, b0, g1, g2, g3⟩ := aab_ok X.2.2.2.2.1 h13
          have hz := arg_ok X.1 h4
          have i1 := imin_le b.1 (arg F x).1
          have i2 := le_imax b.2 (arg F x).2
          exact zcond c3 (key b b0 _ z g1 g3 i1.1 i2.1 (by dsimp only; omega) (by dsimp only; omega) g2)
        · exact absurd h4 id
        · exact absurd h4 id
      · cases h10
  · cases h
theorem s_len (hK : aKs gt m st0 n0 rho0 K Kz) (X : aX gt m st0 n0 rho0 F rho L S O A Lz Sz st) (h : alen Sh K rest L S F O A = true) : zlen Sh Kz rest Lz Sz st := by
  unfold alen at h
  split at h
  · rename_i o S'
    obtain ⟨Sz', rfl, h5⟩ := aRS_r X.2.2.2.1
    obtain ⟨s, h2, h3⟩ := aat_ok h
    refine zat_of h2 ?_
    rcases s with p | ⟨t, n⟩
    · cases h3
    · exact hK _ _ _ _ _ _ h3 _ _ _ _ (X.sk (Sz' := .inl (n : Int) :: Sz') ⟨rfl, h5⟩)
  · cases h
theorem s_cpy (hK : aKs gt m st0 n0 rho0 K Kz) (X : aX gt m st0 n0 rho0 F rho L S O A Lz Sz st) (h : acpy Sh gt m K rest L S F O A = true) : zcpy Sh Kz rest Lz Sz st := by
  unfold acpy at h
  split at h
  · rename_i n dp c1 sp c0 S'
    obtain ⟨zn, Sz1, rfl, h1, hS1⟩ := aRS_i X.2.2.2.1
    obtain ⟨zdp, Sz2, rfl, h2, hS2⟩ := aRS_i hS1
    obtain ⟨Sz3, rfl, hS3⟩ := aRS_r hS2
    obtain ⟨zsp, Sz4, rfl, h3, hS4⟩ := aRS_i hS3
    obtain ⟨Sz5, rfl, hS⟩ := aRS_r hS4
    obtain ⟨h4, h⟩ := acond h
    obtain ⟨h4, h5⟩ := rx_an h4
    obtain ⟨s, h6, h⟩ := aat_ok h
    refine zcond (by rw [acats_z hS]; exact h4) (zat_of h6 ?_)
    rcases s with p | ⟨t0, l0⟩
    · cases h
    · obtain ⟨s, h7, h⟩ := aat_ok (show aat Sh c1 _ = true from h)
      refine zat_of h7 ?_
      rcases s with p | ⟨t1, l1⟩
      · cases h
      · obtain ⟨h8, h⟩ := acond h
        obtain ⟨h8, h9⟩ := rx_an h8
        obtain ⟨h9, h10⟩ := rx_an h9
        obtain ⟨h9, h11⟩ := rx_an h9
        obtain ⟨h11, h12⟩ := rx_an h11
        obtain ⟨h10, h13⟩ := rx_an h10
        have h9 := ile_ok h9
        have h11 := ile_ok h11
        have h12 := ile_ok h12
        have h10 : (arg F sp).2 + (arg F n).2 ≤ (l0 : Int) := ile_ok h10
        have h13 : (arg F dp).2 + (arg F n).2 ≤ (l1 : Int) := ile_ok h13
        have r1 := arg_ok X.1 h1
        have r2 := arg_ok X.1 h2
        have r3 := arg_ok X.1 h3
        refine zcond h8 ⟨⟨by omega, by omega, by omega, by show zsp + zn ≤ (l0 : Int); omega, by show zdp + zn ≤ (l1 : Int); omega⟩, ?_⟩
        obtain ⟨b0, b0', g1, g2, g3⟩ := aab_ok X.2.2.2.2.1 h
        obtain ⟨b1, b1', g4, g5, g6⟩ := aab_ok X.2.2.2.2.1 g2
        have hn : ∀ c i, ¬ c = c1 → zcp st c0 zsp.toNat c1 zdp.toNat zn.toNat c i = st c i := fun c i hc => by rw [zcp_if, if_neg (fun q => hc q.1)]
        refine hK _ _ _ _ _ _ g5 _ _ _ _ ((X.sk hS).sto (aRT_puta X.2.2.2.2.1 g4 hn (fun i => ?_)) (aFr_arr X.2.2.2.2.2 h5 hn))
        have i1 := imin_le b0.1 b1.1
        have i2 := le_imax b0.2 b1.2
        have k1 := g3 (zsp.toNat + (i - zdp.toNat))
        have k2 := g6 i
        dsimp only
        rw [zcp_if]
        split <;> omega
  · cases h
theorem atake_ok {n' : Nat} : ∀ {n : Nat} {S acc : List aV} {Sz accz : List zV} {k : List aV → List aV → Bool}, atake n S acc k = true → aRS n' rho S Sz → aRS n' rho acc accz → ∃ as S' asz Sz', k as S' = true ∧ aRS n' rho as asz ∧ aRS n' rho S' Sz' ∧ ∀ P : List zV → List zV → Prop, P asz Sz' → ztake n Sz accz P := by
  intro n
  induction n with
  | zero => intro S acc Sz accz k h h1 h2; exact ⟨acc, S, accz, Sz, h, h2, h1, fun P hp => hp⟩
  | succ n ih =>
    intro S acc Sz accz k h h1 h2
    cases S with
    | nil => cases h
    | cons v t =>
      obtain ⟨u, Sz', rfl, h3, h4⟩ := aRS_v h1
      obtain ⟨as, S', asz, Sz'', k1, k2, k3, k4⟩ := ih (S := t) (acc := v :: acc) h h4 (accz := u :: accz) ⟨h3, h2⟩
      exact ⟨as, S', asz, Sz'', k1, k2, k3, k4⟩
theorem apush_ok {n : Nat} {r : Option aV} {rz : Option zV} (h : aRo n rho r rz) (hS : aRS n rho S Sz) : aRS n rho (apush r S) (zpush rz Sz) := by
  cases r with
  | none => cases rz with
    | none => exact hS
    | some u => exact absurd h id
  | some v => cases rz with
    | none => exact absurd h id
    | some u => exact ⟨h, hS⟩
theorem s_inv {nu n q a : Nat} (hK : aKs gt m st0 n0 rho0 K Kz) (hC : aCs gt m st0 n0 rho0 ic call) (X : aX gt m st0 n0 rho0 F rho L S O A Lz Sz st) (h : ainv Sh ic K rest nu n q a L S F O A = true) : zinv Sh call Kz rest nu n q a Lz Sz st := by
  obtain ⟨as, S', asz, Sz', h1, h2, h3, h4⟩ := atake_ok h X.2.2.2.1 (show aRS (afl F) rho [] [] from trivial)
  refine h4 _ ?_
  obtain ⟨h5, h6⟩ := acond h1
  refine zcond (by rw [acats_z h3]; exact h5) ?_
  have key : ic nu as F O A (fun r F1 O1 A1 => K rest L (apush r S') F1 O1 A1) = true → call nu asz st (fun r st' => Kz rest Lz (zpush r Sz') st') := by
    intro hi
    refine hC _ _ _ _ _ _ hi rho asz st X.1 X.2.1 h2 X.2.2.2.2.1 X.2.2.2.2.2 _ ?_
    intro r F1 O1 A1 hk rho1 rz st1 g1 g2 g3 g4 g5
    exact hK _ _ _ _ _ _ hk _ _ _ _ ⟨g1, X.2.1.tr g2, X.2.2.1.ext g2, apush_ok g3 (aRS.ext g2 h3), g4, g5⟩
  cases c0 : Nat.beq q 0 with
  | true =>
    rw [c0] at h6
    exact key h6
  | false =>
    rw [c0] at h6
    obtain ⟨h7, h8⟩ := acond (show cond (Nat.beq q 1) _ false = true from h6)
    show cond (Nat.beq q 1) _ False
    rw [h7]
    rcases as with _ | ⟨v, as⟩
    · cases h8
    · rcases v with x | (x | o)
      · cases h8
      · cases h8
      · obtain ⟨asz', rfl, h9⟩ := aRS_r h2
        obtain ⟨s, g1, g2⟩ := aat_ok (show aat Sh o _ = true from h8)
        refine zat_of g1 ?_
        rcases s with p | p
        · obtain ⟨g3, g4⟩ := acond g2
          exact zcond g3 (key g4)
        · cases g2
theorem s_ret (hE : aEs gt m st0 n0 rho0 kc Rt) (X : aX gt m st0 n0 rho0 F rho L S O A Lz Sz st) (h : aret q kc S F O A = true) : zret q Rt Sz st := by
  obtain ⟨h1, h2⟩ := acond h
  refine zcond h1 ?_
  have hS := X.2.2.2.1
  cases S with
  | cons v t => cases h2
  | nil =>
    cases Sz with
    | cons u t => exact absurd hS id
    | nil => exact hE _ _ _ _ h2 rho none st X.1 X.2.1 trivial X.2.2.2.2.1 X.2.2.2.2.2
theorem s_reti (hE : aEs gt m st0 n0 rho0 kc Rt) (X : aX gt m st0 n0 rho0 F rho L S O A Lz Sz st) (h : areti q kc S F O A = true) : zreti q Rt Sz st := by
  unfold areti at h
  split at h
  · rename_i x
    obtain ⟨z, Sz', rfl, h1, h2⟩ := aRS_i X.2.2.2.1
    cases Sz' with
    | cons u t => exact absurd h2 id
    | nil =>
      obtain ⟨h3, h4⟩ := acond h
      have hr : Rt (some (.inl z)) st := hE _ _ _ _ h4 rho (some (.inl z)) st X.1 X.2.1 h1 X.2.2.2.2.1 X.2.2.2.2.2
      show cond (Nat.beq q 1) (Rt (some (.inl z)) st) (cond (Nat.beq q 2) ((z = 0 ∨ z = 1) ∧ Rt (some (.inl z)) st) False)
      rcases Bool.or_eq_true_iff.mp h3 with h3 | h3
      · exact zcondE h3 hr
      · obtain ⟨h3, h5⟩ := rx_an h3
        have h6 := rx_bq h3
        subst h6
        have h5 := ain_ok h5
        have h7 := arg_ok X.1 h1
        have h8 : (0 : Int) ≤ (arg F x).1 := h5.1
        have h9 : (arg F x).2 ≤ (1 : Int) := h5.2
        exact ⟨by omega, hr⟩
  · cases h
theorem s_retl (hE : aEs gt m st0 n0 rho0 kc Rt) (X : aX gt m st0 n0 rho0 F rho L S O A Lz Sz st) (h : aretl q kc S F O A = true) : zretl q Rt Sz st := by
  unfold aretl at h
  split at h
  · rename_i x
    obtain ⟨z, Sz', rfl, h1, h2⟩ := aRS_l X.2.2.2.1
    cases Sz' with
    | cons u t => exact absurd h2 id
    | nil =>
      obtain ⟨h3, h4⟩ := acond h
      exact zcond h3 (hE _ _ _ _ h4 rho (some (.inr (.inl z))) st X.1 X.2.1 h1 X.2.2.2.2.1 X.2.2.2.2.2)
  · cases h
end ASND2
