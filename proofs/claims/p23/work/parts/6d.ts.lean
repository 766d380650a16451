/-! what the bank in use needs stays while the other one is written -/
def jrel (b : Int) (c i : Nat) : Prop := (c = 170 ∧ (i = 13 ∨ i = 56 ∨ i = 57)) ∨ (c = 172 ∧ (i : Int) = b) ∨ (c = 176 ∧ 14 * b ≤ (i : Int) ∧ (i : Int) < 14 * b + 14) ∨ (c = 177 ∧ 64 * b ≤ (i : Int) ∧ (i : Int) < 64 * b + 64) ∨ ((c = 186 ∨ c = 187) ∧ 2 * b ≤ (i : Int) ∧ (i : Int) < 2 * b + 2) ∨ (c = 188 ∧ 1600 * b ≤ (i : Int) ∧ (i : Int) < 1600 * b + 1600) ∨ c = 202 ∨ c = 203
def jR (st s : zS) : Prop := ∀ c i, jrel (st 170 13) c i → s c i = st c i
theorem jR_rf (st : zS) : jR st st := fun _ _ _ => rfl
theorem jR_13 {st s : zS} (h : jR st s) : s 170 13 = st 170 13 := h 170 13 (Or.inl ⟨rfl, Or.inl rfl⟩)
theorem jR_tr {st s1 s2 : zS} (h : jR st s1) (k : jR s1 s2) : jR st s2 := by
  intro c i hr
  have k1 := k c i (by rw [jR_13 h]; exact hr)
  rw [k1]
  exact h c i hr
theorem jR_up {st s : zS} {c i : Nat} {z : Int} (h : jR st s) (hn : ¬ jrel (st 170 13) c i) : jR st (zup s c i z) := by
  intro c' i' hr
  rw [zup_ne]
  · exact h c' i' hr
  · intro q
    rw [q.1, q.2] at hr
    exact hn hr
theorem jrel_j {b : Int} {c i : Nat} (h : jrel b c i) : jcell c i = true := by
  unfold jrel at h
  unfold jcell
  by_cases e : c = 170
  · have e1 : Nat.beq c 170 = true := by rw [zbeq]; exact decide_eq_true e
    rw [e1]
    have h1 : i = 13 ∨ i = 56 ∨ i = 57 := by omega
    rcases h1 with rfl | rfl | rfl <;> rfl
  · have e1 : Nat.beq c 170 = false := (rx_bnf c 170).mpr e
    rw [e1]
    have h1 : c = 172 ∨ c = 176 ∨ c = 177 ∨ c = 186 ∨ c = 187 ∨ c = 188 ∨ c = 202 ∨ c = 203 := by omega
    rcases h1 with rfl | rfl | rfl | rfl | rfl | rfl | rfl | rfl <;> rfl
theorem jR_fr {m : aM} {st s : zS} (hm : jfree m = true) (h : aFr m st s) : jR st s := fun c i hr => jfr hm h c i (jrel_j hr)
theorem zJ_R {st s : zS} (hG : gInv zgt st) (h : zJ st) (hR : jR st s) : zJ s := by
  have b := g_bank hG
  have e13 := jR_13 hR
  have e56 : s 170 56 = st 170 56 := hR 170 56 (Or.inl ⟨rfl, Or.inr (Or.inl rfl)⟩)
  have e57 : s 170 57 = st 170 57 := hR 170 57 (Or.inl ⟨rfl, Or.inr (Or.inr rfl)⟩)
  have e202 : ∀ i, s 202 i = st 202 i := fun i => hR 202 i (by unfold jrel; omega)
  have e203 : ∀ i, s 203 i = st 203 i := fun i => hR 203 i (by unfold jrel; omega)
  have sat : ∀ x y : Int, 0 ≤ x → x < 8 → 0 ≤ y → y < 8 → zad s x y = zad st x y := by
    intro x y h1 h2 h3 h4
    unfold zad
    rw [e13]
    exact hR 177 _ (by unfold jrel; omega)
  obtain ⟨hS, ⟨hg0, hgu⟩, hC⟩ := h
  have hgd : ∀ v : Int, jgd st v → jgd s v := by
    intro v hv k h1 h2
    rw [e202] at h2
    rw [e203, e203]
    have g1 := g_stepPlace hG (30 * v + k - 1).toNat
    have g2 := g_stepPlace hG (30 * v + k).toNat
    rw [sat _ _ (by omega) (by omega) (by omega) (by omega)]
    exact hv k h1 h2
  refine ⟨?_, ⟨hgd 0 hg0, ?_⟩, ?_⟩
  · intro x y h1 h2 h3 h4 h5
    rw [sat x y h1 h2 h3 h4] at h5 ⊢
    rw [e13]
    have h6 := hS x y h1 h2 h3 h4 h5
    have g1 : 0 ≤ zad st x y ∧ zad st x y ≤ 14 := g_streetAt hG _
    rw [hR 172 _ (by unfold jrel; omega), hR 176 _ (by unfold jrel; omega)]
    exact h6
  · intro k h1 h2
    rw [e56]
    rw [e57] at h2
    exact hgd _ (hgu k h1 h2)
  · intro w h1 h2 h3
    rw [e13] at h3 ⊢
    have f1 : s 186 (2 * st 170 13 + w).toNat = st 186 (2 * st 170 13 + w).toNat := hR 186 _ (by unfold jrel; omega)
    have f2 : s 187 (2 * st 170 13 + w).toNat = st 187 (2 * st 170 13 + w).toNat := hR 187 _ (by unfold jrel; omega)
    rw [f1] at h3 ⊢
    rw [f2]
    have g1 := g_sumFrom hG (2 * st 170 13 + w).toNat
    have g2 := g_sumBehind hG (2 * st 170 13 + w).toNat
    have hc : cgd (st 188) (1600 * st 170 13 + st 186 (2 * st 170 13 + w).toNat) (1600 * st 170 13 + st 187 (2 * st 170 13 + w).toNat) := hC w h1 h2 h3
    refine cgd_j s _ _ ?_
    intro n hn
    have q1 : ∀ k : Nat, k ≤ n → s 188 (1600 * st 170 13 + st 186 (2 * st 170 13 + w).toNat + (k : Int)).toNat = st 188 (1600 * st 170 13 + st 186 (2 * st 170 13 + w).toNat + (k : Int)).toNat := fun k hk => hR 188 _ (by unfold jrel; omega)
    rw [dpt_c n (fun i hi => q1 i (by omega)), q1 n (Nat.le_refl _)]
    exact hc n hn
/-- the town that is being read -/
def TS1 (b npl nst : Int) (sat pac : Nat → Int) : Prop := ∀ x y : Int, 0 ≤ x → x < 8 → 0 ≤ y → y < 8 → 0 < sat (64 * b + 8 * x + y).toNat → y < npl ∧ sat (64 * b + 8 * x + y).toNat ≤ nst ∧ 1 ≤ pac (14 * b + sat (64 * b + 8 * x + y).toNat - 1).toNat ∧ ¬ x = y
def TS2 (b nsp : Int) (sat told : Nat → Int) : Prop := ∀ k : Int, 0 < k → k < nsp → 0 < sat (64 * b + 8 * told (20 * b + k - 1).toNat + told (20 * b + k).toNat).toNat
def TS3 (b cds : Int) (sf sb cd : Nat → Int) : Prop := ∀ w : Int, 0 ≤ w → w ≤ 1 → ¬ sf (2 * b + w).toNat = -1 → cgd cd (1600 * b + sf (2 * b + w).toNat) (1600 * b + sb (2 * b + w).toNat) ∧ sb (2 * b + w).toNat ≤ cds
def TS (st : zS) : Prop := TS1 (st 170 35) (st 172 (st 170 35).toNat) (st 173 (st 170 35).toNat) (st 177) (st 176) ∧ TS2 (st 170 35) (st 178 (st 170 35).toNat) (st 177) (st 179) ∧ TS3 (st 170 35) (st 170 34) (st 186) (st 187) (st 188)
def tcell (c i : Nat) : Bool := cond (Nat.beq c 170) (Nat.beq i 35 || Nat.beq i 34) (Nat.beq c 172 || (Nat.beq c 173 || (Nat.beq c 176 || (Nat.beq c 177 || (Nat.beq c 178 || (Nat.beq c 179 || (Nat.beq c 186 || (Nat.beq c 187 || Nat.beq c 188))))))))
def trest (st : zS) : zS := fun c i => cond (tcell c i) (st c i) 0
theorem TS_of {s st : zS} (h : ∀ c i, tcell c i = true → s c i = st c i) (hP : TS st) : TS s := by
  have e : trest s = trest st := by
    funext c i
    unfold trest
    cases e : tcell c i with
    | true => exact h c i e
    | false => rfl
  have h1 : TS (trest st) := hP
  rw [← e] at h1
  exact h1
noncomputable def tfree (m : aM) : Bool := aall (fun q => !tcell q.1 q.2) m.1 && aall (fun c => !(Nat.beq c 170 || tcell c 0)) m.2
theorem tcell_arr {c i : Nat} (h : ¬ c = 170) : tcell c i = tcell c 0 := by
  unfold tcell
  have : Nat.beq c 170 = false := (rx_bnf c 170).mpr h
  rw [this]
  rfl
theorem TS_fr {m : aM} {st s : zS} (hm : tfree m = true) (h : aFr m st s) (hP : TS st) : TS s := by
  refine TS_of (fun c i hj => ?_) hP
  obtain ⟨h1, h2⟩ := rx_an hm
  refine h c i ?_ ?_
  · cases e : amf m c i with
    | false => rfl
    | true =>
      have := aall_o2 h1 _ (amf_ok.mp e)
      change (!tcell c i) = true at this
      rw [hj] at this
      cases this
  · cases e : ama m c with
    | false => rfl
    | true =>
      have := aall_o2 h2 _ (ama_ok.mp e)
      change (!(Nat.beq c 170 || tcell c 0)) = true at this
      by_cases e2 : c = 170
      · rw [e2] at this; cases this
      · rw [tcell_arr e2] at hj
        rw [hj] at this
        cases c2 : Nat.beq c 170 with
        | true => rw [c2] at this; cases this
        | false => rw [c2] at this; cases this
theorem TS_up {st : zS} {z : Int} {c i : Nat} (hc : tcell c i = false) (hP : TS st) : TS (zup st c i z) := by
  refine TS_of (fun c' i' e => zup_ne _ _ (fun k => ?_)) hP
  rw [k.1, k.2, hc] at e
  cases e
theorem TS1_pl {b n n' nst : Int} {sat pac : Nat → Int} (h : TS1 b n nst sat pac) (hn : n ≤ n') : TS1 b n' nst sat pac := by
  intro x y h1 h2 h3 h4 h5
  have := h x y h1 h2 h3 h4 h5
  exact ⟨by omega, this.2⟩
/-- a street more, told in both orders -/
theorem TS1_st {b npl nst p q n : Int} {sat pac : Nat → Int} (h : TS1 b npl nst sat pac) (hb : 0 ≤ b) (hs : 0 ≤ nst) (hp : 0 ≤ p ∧ p < 8 ∧ p < npl) (hq : 0 ≤ q ∧ q < 8 ∧ q < npl) (hn : 1 ≤ n) (hpq : ¬ p = q) {i j k : Nat} (hi : i = (64 * b + 8 * p + q).toNat) (hj : j = (64 * b + 8 * q + p).toNat) (hk : k = (14 * b + nst).toNat) : TS1 b npl (nst + 1) (up1 (up1 sat i (nst + 1)) j (nst + 1)) (up1 pac k n) := by
  intro x y h1 h2 h3 h4 h5
  subst hi hj hk
  by_cases e2 : (64 * b + 8 * x + y).toNat = (64 * b + 8 * q + p).toNat
  · rw [e2, up1_e]
    have e3 : y = p := by omega
    rw [show (14 * b + (nst + 1) - 1).toNat = (14 * b + nst).toNat by omega, up1_e]
    exact ⟨by omega, by omega, by omega, by omega⟩
  · rw [up1_n _ _ e2] at h5 ⊢
    by_cases e1 : (64 * b + 8 * x + y).toNat = (64 * b + 8 * p + q).toNat
    · rw [e1, up1_e]
      have e3 : y = q := by omega
      rw [show (14 * b + (nst + 1) - 1).toNat = (14 * b + nst).toNat by omega, up1_e]
      exact ⟨by omega, by omega, by omega, by omega⟩
    · rw [up1_n _ _ e1] at h5 ⊢
      have h6 := h x y h1 h2 h3 h4 h5
      rw [up1_n pac n (show ¬ (14 * b + sat (64 * b + 8 * x + y).toNat - 1).toNat = (14 * b + nst).toNat by omega)]
      exact ⟨h6.1, by omega, h6.2.2⟩
theorem TS2_st {b nsp z : Int} {sat told : Nat → Int} {i j : Nat} (h : TS2 b nsp sat told) (hz : 0 < z) : TS2 b nsp (up1 (up1 sat i z) j z) told := by
  intro k h1 h2
  have h3 := h k h1 h2
  unfold up1
  cases (Nat.beq (64 * b + 8 * told (20 * b + k - 1).toNat + told (20 * b + k).toNat).toNat j) with
  | true => exact hz
  | false =>
    show 0 < cond (Nat.beq _ i) z _
    cases (Nat.beq (64 * b + 8 * told (20 * b + k - 1).toNat + told (20 * b + k).toNat).toNat i) with
    | true => exact hz
    | false => exact h3
/-- a step told beyond the counted ones -/
theorem TS2_tw {b nsp z : Int} {sat told : Nat → Int} {i : Nat} (h : TS2 b nsp sat told) (hb : 0 ≤ b) (hi : i = (20 * b + nsp).toNat) : TS2 b nsp sat (up1 told i z) := by
  intro k h1 h2
  subst hi
  rw [up1_n told z (show ¬ (20 * b + k - 1).toNat = (20 * b + nsp).toNat by omega), up1_n told z (show ¬ (20 * b + k).toNat = (20 * b + nsp).toNat by omega)]
  exact h k h1 h2
theorem TS2_sp {b nsp : Int} {sat told : Nat → Int} (h : TS2 b nsp sat told) (hs : 0 < nsp → 0 < sat (64 * b + 8 * told (20 * b + nsp - 1).toNat + told (20 * b + nsp).toNat).toNat) : TS2 b (nsp + 1) sat told := by
  intro k h1 h2
  by_cases e : k = nsp
  · subst e
    exact hs h1
  · exact h k h1 (by omega)
theorem cgd_c {cd cd' : Nat → Int} {c e : Int} (h : cgd cd c e) (hc : ∀ n : Nat, c + (n : Int) < e → cd' (c + (n : Int)).toNat = cd (c + (n : Int)).toNat) : cgd cd' c e := by
  intro n hn
  rw [dpt_c n (fun i hi => hc i (by omega)), hc n hn]
  exact h n hn
/-- a sum or test is read -/
theorem TS3_rd {b cds cds' w : Int} {sf sb cd cd' : Nat → Int} (h : TS3 b cds sf sb cd) (hb : 0 ≤ b ∧ b ≤ 1) (hw : 0 ≤ w ∧ w ≤ 1) (hs : ∀ v : Int, 0 ≤ v → v ≤ 1 → -1 ≤ sf (2 * b + v).toNat) (h0 : 0 ≤ cds) (hm : cds ≤ cds') (hc : ∀ i : Nat, (i : Int) < 1600 * b + cds → cd' i = cd i) (hg : cgd cd' (1600 * b + cds) (1600 * b + cds')) {i : Nat} (hi : i = (2 * b + w).toNat) : TS3 b cds' (up1 sf i cds) (up1 sb i cds') cd' := by
  intro v h1 h2 h3
  subst hi
  by_cases e : v = w
  · subst e
    rw [up1_e, up1_e]
    exact ⟨hg, Int.le_refl _⟩
  · have ne : ¬ (2 * b + v).toNat = (2 * b + w).toNat := by omega
    rw [up1_n sf cds ne] at h3 ⊢
    rw [up1_n sb cds' ne]
    have h4 := h v h1 h2 h3
    have h5 := hs v h1 h2
    exact ⟨cgd_c h4.1 (fun n hn => hc _ (by omega)), by omega⟩
theorem lor8 : ∀ (s : Fin 256) (c j : Fin 8), (0 ≤ zd (Nat.lor (zi ((s.val : Nat) : Int)) (zi (zd ((zi 1 * 2 ^ (zi ((c.val : Nat) : Int) % 32)) % 4294967296)))) ∧ zd (Nat.lor (zi ((s.val : Nat) : Int)) (zi (zd ((zi 1 * 2 ^ (zi ((c.val : Nat) : Int) % 32)) % 4294967296)))) < 256) ∧ (hb (zd (Nat.lor (zi ((s.val : Nat) : Int)) (zi (zd ((zi 1 * 2 ^ (zi ((c.val : Nat) : Int) % 32)) % 4294967296))))) ((j.val : Nat) : Int) = if j = c then 1 else hb ((s.val : Nat) : Int) ((j.val : Nat) : Int)) := by decide +kernel
theorem lor0 : ∀ (s : Fin 256), zd (Nat.lor (zi ((s.val : Nat) : Int)) (zi 0)) = ((s.val : Nat) : Int) := by decide +kernel
theorem lor_bit {s c j : Int} (hs : 0 ≤ s ∧ s < 256) (hc : 0 ≤ c ∧ c < 8) (hj : 0 ≤ j ∧ j < 8) : (0 ≤ zd (Nat.lor (zi s) (zi (zd ((zi 1 * 2 ^ (zi c % 32)) % 4294967296)))) ∧ zd (Nat.lor (zi s) (zi (zd ((zi 1 * 2 ^ (zi c % 32)) % 4294967296)))) < 256) ∧ (j = c → hb (zd (Nat.lor (zi s) (zi (zd ((zi 1 * 2 ^ (zi c % 32)) % 4294967296))))) j = 1) ∧ (¬ j = c → hb (zd (Nat.lor (zi s) (zi (zd ((zi 1 * 2 ^ (zi c % 32)) % 4294967296))))) j = hb s j) := by
  have h := lor8 ⟨s.toNat, by omega⟩ ⟨c.toNat, by omega⟩ ⟨j.toNat, by omega⟩
  have e1 : ((s.toNat : Nat) : Int) = s := by omega
  have e2 : ((c.toNat : Nat) : Int) = c := by omega
  have e3 : ((j.toNat : Nat) : Int) = j := by omega
  simp only [e1, e2, e3] at h
  refine ⟨h.1, fun e => ?_, fun e => ?_⟩
  · rw [h.2, if_pos (by rw [Fin.mk.injEq]; omega)]
  · rw [h.2, if_neg (by rw [Fin.mk.injEq]; omega)]
theorem lor_z {s : Int} (hs : 0 ≤ s ∧ s < 256) : zd (Nat.lor (zi s) (zi 0)) = s := by
  have h := lor0 ⟨s.toNat, by omega⟩
  have e1 : ((s.toNat : Nat) : Int) = s := by omega
  simp only [e1] at h
  exact h
theorem shl8 : ∀ c : Fin 8, (0 ≤ zd ((zi 1 * 2 ^ (zi ((c.val : Nat) : Int) % 32)) % 4294967296) ∧ zd ((zi 1 * 2 ^ (zi ((c.val : Nat) : Int) % 32)) % 4294967296) < 256) ∧ hb (zd ((zi 1 * 2 ^ (zi ((c.val : Nat) : Int) % 32)) % 4294967296)) ((c.val : Nat) : Int) = 1 := by decide +kernel
theorem shl_bit {c : Int} (hc : 0 ≤ c ∧ c < 8) : (0 ≤ zd ((zi 1 * 2 ^ (zi c % 32)) % 4294967296) ∧ zd ((zi 1 * 2 ^ (zi c % 32)) % 4294967296) < 256) ∧ hb (zd ((zi 1 * 2 ^ (zi c % 32)) % 4294967296)) c = 1 := by
  have h := shl8 ⟨c.toNat, by omega⟩
  have e2 : ((c.toNat : Nat) : Int) = c := by omega
  simp only [e2] at h
  exact h
