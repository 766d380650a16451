/-! more of the town that is being read -/
theorem TS_tw {st : zS} {i : Nat} {z : Int} (h : TS st) (hb : 0 ≤ st 170 35) (hi : i = (20 * st 170 35 + st 178 (st 170 35).toNat).toNat) : TS (zup st 179 i z) := ⟨h.1, TS2_tw h.2.1 hb hi, h.2.2⟩
def HS (st : zS) : Prop := 0 < st 178 (st 170 35).toNat → 0 < st 177 (64 * st 170 35 + 8 * st 179 (20 * st 170 35 + st 178 (st 170 35).toNat - 1).toNat + st 179 (20 * st 170 35 + st 178 (st 170 35).toNat).toNat).toNat
theorem HS_of {s st : zS} (h : ∀ c i, tcell c i = true → s c i = st c i) (hP : HS st) : HS s := by
  have e : trest s = trest st := by
    funext c i
    unfold trest
    cases e : tcell c i with
    | true => exact h c i e
    | false => rfl
  have h1 : HS (trest st) := hP
  rw [← e] at h1
  exact h1
theorem tfr {m : aM} {st s : zS} (hm : tfree m = true) (h : aFr m st s) : ∀ c i, tcell c i = true → s c i = st c i := by
  intro c i hj
  obtain ⟨h1, h2⟩ := rx_an hm
  refine h c i ?_ ?_
  · cases e : amf m c i with
    | false => rfl
    | true =>
      have := aall_o2 h1 _ (amf_ok.mp e)
      change (!tcell c i) = true at this
      rw [hj] at this
      cases this
  · cases e : ama m c with
    | false => rfl
    | true =>
      have := aall_o2 h2 _ (ama_ok.mp e)
      change (!(Nat.beq c 170 || tcell c 0)) = true at this
      by_cases e2 : c = 170
      · rw [e2] at this; cases this
      · rw [tcell_arr e2] at hj
        rw [hj] at this
        cases c2 : Nat.beq c 170 with
        | true => rw [c2] at this; cases this
        | false => rw [c2] at this; cases this
theorem HS_fr {m : aM} {st s : zS} (hm : tfree m = true) (h : aFr m st s) (hP : HS st) : HS s := HS_of (tfr hm h) hP
theorem HS_tw {st : zS} {i : Nat} {z : Int} (hb : 0 ≤ st 170 35) (hi : i = (20 * st 170 35 + st 178 (st 170 35).toNat).toNat) (h : 0 < st 178 (st 170 35).toNat → 0 < st 177 (64 * st 170 35 + 8 * st 179 (20 * st 170 35 + st 178 (st 170 35).toNat - 1).toNat + z).toNat) : HS (zup st 179 i z) := by
  intro h1
  have h1 : 0 < st 178 (st 170 35).toNat := h1
  subst hi
  show 0 < st 177 (64 * st 170 35 + 8 * up1 (st 179) (20 * st 170 35 + st 178 (st 170 35).toNat).toNat z (20 * st 170 35 + st 178 (st 170 35).toNat - 1).toNat + up1 (st 179) (20 * st 170 35 + st 178 (st 170 35).toNat).toNat z (20 * st 170 35 + st 178 (st 170 35).toNat).toNat).toNat
  rw [up1_e, up1_n _ _ (show ¬ (20 * st 170 35 + st 178 (st 170 35).toNat - 1).toNat = (20 * st 170 35 + st 178 (st 170 35).toNat).toNat by omega)]
  exact h h1
theorem TS_sp {st : zS} {z : Int} (h : TS st) (hh : HS st) (hz : z = st 178 (st 170 35).toNat + 1) : TS (zup st 178 (st 170 35).toNat z) := by
  have e : zup st 178 (st 170 35).toNat z 178 (st 170 35).toNat = st 178 (st 170 35).toNat + 1 := by rw [zup_eq]; exact hz
  refine ⟨h.1, ?_, h.2.2⟩
  show TS2 (st 170 35) (zup st 178 (st 170 35).toNat z 178 (st 170 35).toNat) (st 177) (st 179)
  rw [e]
  exact TS2_sp h.2.1 hh
theorem TS_rd {s1 s2 : zS} {k : Nat} {w : Int} (h : TS s1) (e35 : s2 170 35 = s1 170 35) (e172 : ∀ i, s2 172 i = s1 172 i) (e173 : ∀ i, s2 173 i = s1 173 i) (e176 : ∀ i, s2 176 i = s1 176 i) (e177 : ∀ i, s2 177 i = s1 177 i) (e178 : ∀ i, s2 178 i = s1 178 i) (e179 : ∀ i, s2 179 i = s1 179 i) (e186 : ∀ i, s2 186 i = up1 (s1 186) k (s1 170 34) i) (e187 : ∀ i, s2 187 i = s1 187 i) (hb : 0 ≤ s1 170 35 ∧ s1 170 35 ≤ 1) (hw : 0 ≤ w ∧ w ≤ 1) (hs : ∀ i, -1 ≤ s1 186 i) (h0 : 0 ≤ s1 170 34) (hm : s1 170 34 ≤ s2 170 34) (hc : ∀ i : Nat, (i : Int) < 1600 * s1 170 35 + s1 170 34 → s2 188 i = s1 188 i) (hg : cgd (s2 188) (1600 * s1 170 35 + s1 170 34) (1600 * s1 170 35 + s2 170 34)) (hi : k = (2 * s1 170 35 + w).toNat) : TS (zup s2 187 k (s2 170 34)) := by
  have f172 : s2 172 = s1 172 := funext e172
  have f173 : s2 173 = s1 173 := funext e173
  have f176 : s2 176 = s1 176 := funext e176
  have f177 : s2 177 = s1 177 := funext e177
  have f178 : s2 178 = s1 178 := funext e178
  have f179 : s2 179 = s1 179 := funext e179
  have f186 : s2 186 = up1 (s1 186) k (s1 170 34) := funext e186
  have f187 : s2 187 = s1 187 := funext e187
  show TS1 (s2 170 35) (s2 172 (s2 170 35).toNat) (s2 173 (s2 170 35).toNat) (s2 177) (s2 176) ∧ TS2 (s2 170 35) (s2 178 (s2 170 35).toNat) (s2 177) (s2 179) ∧ TS3 (s2 170 35) (s2 170 34) (s2 186) (up1 (s2 187) k (s2 170 34)) (s2 188)
  rw [e35, f172, f173, f176, f177, f178, f179, f186, f187]
  exact ⟨h.1, h.2.1, TS3_rd h.2.2 hb hw (fun v _ _ => hs _) h0 hm hc hg hi⟩
