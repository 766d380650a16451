/-! by hand: a route's loop left out, places put in -/
/-- a route's cells: its count, its places -/
def zrt (st : zS) : Prop := (0 ≤ st 152 2 ∧ st 152 2 ≤ 30) ∧ (∀ i, 0 ≤ st 153 i ∧ st 153 i ≤ 7) ∧ ∀ i, zsI (st 154 i)
set_option maxRecDepth 20000 in
theorem zh_leave {Sh : List zC} {call : zCall} {Rt : zQ} {K : zG} (hSh : Sh = zSh) (hcl : zcl Sh rx_m268 3 0 call Rt K) (hsl : zsl K) {st : zS} (h : zrt st) (hQ : ∀ st', zrt st' → (∀ c i, ¬ (c = 152 ∧ i = 2) → ¬ c = 153 → ¬ c = 154 → st' c i = st c i) → Rt none st') : K rx_m268 [(0, .inr (.inr (.inl 152)))] [] st := by
  subst hSh
  have k14 : ∀ (u : Nat) (f t : Int), 0 ≤ f → f < t → t ≤ 30 → f < st 152 2 → (30 - t).toNat = u → (∀ f', f < f' → f' ≤ 30 → K (rx_find rx_m268 2) [(0, .inr (.inr (.inl 152))), (1, .inl f')] [] st) → K (rx_find rx_m268 14) [(0, .inr (.inr (.inl 152))), (1, .inl f), (2, .inl t)] [] st := by
    intro u
    induction u using Nat.strongRecOn with
    | _ u ih =>
      intro f t f0 ft t30 fc hu hout
      obtain ⟨⟨c0, c1⟩, hs, hmn⟩ := id h
      refine zr1_ok (wc := zno) (stp := [2, 14]) zno_m hcl 60 ?_
      show ((st 152 2 ≤ t → K (rx_find rx_m268 2) [(1, .inl (zw (f + 1))), (0, .inr (.inr (.inl 152))), (2, .inl t)] [] st) ∧ (¬ (st 152 2 ≤ t) → ((0 ≤ f ∧ f < 30) ∧ ((0 ≤ t ∧ t < 30) ∧ ((¬ st 153 (f).toNat = st 153 (t).toNat → K (rx_find rx_m268 14) [(2, .inl (zw (t + 1))), (0, .inr (.inr (.inl 152))), (1, .inl f)] [] st) ∧ (¬ (¬ st 153 (f).toNat = st 153 (t).toNat) → ((0 ≤ zw ((st 152 2) - t) ∧ 0 ≤ f ∧ 0 ≤ t ∧ t + zw ((st 152 2) - t) ≤ 30 ∧ f + zw ((st 152 2) - t) ≤ 30) ∧ ((0 ≤ zw ((st 152 2) - t) ∧ 0 ≤ f ∧ 0 ≤ t ∧ t + zw ((st 152 2) - t) ≤ 30 ∧ f + zw ((st 152 2) - t) ≤ 30) ∧ Rt none (zup (zcp (zcp st 153 (t).toNat 153 (f).toNat (zw ((st 152 2) - t)).toNat) 154 (t).toNat 154 (f).toNat (zw ((st 152 2) - t)).toNat) 152 2 (zw ((st 152 2) - (zw (t - f)))))))))))))
      have e1 : zw (f + 1) = f + 1 := zw_id (by unfold zsI; omega)
      have e2 : zw (t + 1) = t + 1 := zw_id (by unfold zsI; omega)
      have e3 : zw (st 152 2 - t) = st 152 2 - t := zw_id (by unfold zsI; omega)
      have e4 : zw (t - f) = t - f := zw_id (by unfold zsI; omega)
      have e5 : zw (st 152 2 - (t - f)) = st 152 2 - (t - f) := zw_id (by unfold zsI; omega)
      rw [e1, e2, e3, e4, e5]
      refine ⟨fun c => hsl _ _ _ _ _ (by simp) (hout (f + 1) (by omega) (by omega)), fun c => ⟨by omega, by omega, fun _ => hsl _ _ _ _ _ (by simp) (ih (30 - (t + 1)).toNat (by omega) f (t + 1) f0 (by omega) (by omega) fc rfl hout), fun _ => ⟨by omega, by omega, hQ _ ?_ ?_⟩⟩⟩
      · refine ⟨?_, fun i => ?_, fun i => ?_⟩
        · show 0 ≤ st 152 2 - (t - f) ∧ st 152 2 - (t - f) ≤ 30
          omega
        · show 0 ≤ zcp st 153 t.toNat 153 f.toNat (st 152 2 - t).toNat 153 i ∧ zcp st 153 t.toNat 153 f.toNat (st 152 2 - t).toNat 153 i ≤ 7
          rw [zcp_if]
          split
          · exact hs _
          · exact hs _
        · rw [zup_nc _ _ (show ¬ (154 : Nat) = 152 by decide), zcp_if]
          split
          · rw [zcp_if, if_neg (fun q => absurd q.1 (by decide))]
            exact hmn _
          · rw [zcp_if, if_neg (fun q => absurd q.1 (by decide))]
            exact hmn _
      · intro c i q1 q2 q3
        rw [zup_ne _ _ q1, zcp_if, if_neg (fun q => q3 q.1), zcp_if, if_neg (fun q => q2 q.1)]
  have k2 : ∀ (u : Nat) (f : Int), 0 ≤ f → f ≤ 30 → (30 - f).toNat = u → K (rx_find rx_m268 2) [(0, .inr (.inr (.inl 152))), (1, .inl f)] [] st := by
    intro u
    induction u using Nat.strongRecOn with
    | _ u ih =>
      intro f f0 f30 hu
      obtain ⟨⟨c0, c1⟩, hs, hmn⟩ := id h
      refine zr1_ok (wc := zno) (stp := [2, 14]) zno_m hcl 60 ?_
      show ((st 152 2 ≤ f → Rt none st) ∧ (¬ (st 152 2 ≤ f) → K (rx_find rx_m268 14) [(2, .inl (zw (f + 1))), (0, .inr (.inr (.inl 152))), (1, .inl f)] [] st))
      rw [show zw (f + 1) = f + 1 from zw_id (by unfold zsI; omega)]
      refine ⟨fun _ => hQ st h (fun _ _ _ _ _ => rfl), fun c => hsl _ _ _ _ _ (by simp) (k14 _ f (f + 1) f0 (by omega) (by omega) (by omega) rfl (fun f' g1 g2 => ih (30 - f').toNat (by omega) f' (by omega) g2 rfl))⟩
  refine zr1_ok (wc := zno) (stp := [2, 14]) zno_m hcl 60 ?_
  show K (rx_find rx_m268 2) [(1, .inl 0), (0, .inr (.inr (.inl 152)))] [] st
  exact hsl _ _ _ _ _ (by simp) (k2 _ 0 (by omega) (by omega) rfl)
set_option maxRecDepth 20000 in
theorem zh_insert {Sh : List zC} {call : zCall} {Rt : zQ} {K : zG} (hSh : Sh = zSh) (hcl : zcl Sh rx_m267 5 2 call Rt K) (hsl : zsl K) {st : zS} (h : zrt st) (hb : ∀ i, 0 ≤ st 160 i ∧ st 160 i ≤ 7) {k n : Int} (hk : 1 ≤ k ∧ k ≤ 30) (hn : 0 ≤ n ∧ n ≤ 8) (hQ : ∀ z st', zrt st' → (∀ c i, ¬ (c = 152 ∧ i = 2) → ¬ c = 153 → ¬ c = 154 → st' c i = st c i) → (z = 0 ∨ z = 1) → Rt (some (.inl z)) st') : K rx_m267 [(0, .inr (.inr (.inl 152))), (1, .inl k), (2, .inr (.inr (.inl 160))), (3, .inl n)] [] st := by
  subst hSh
  have k80 : ∀ (u : Nat) (i : Int) (s : zS), 0 ≤ i → i ≤ 8 → (8 - i).toNat = u → zrt s → (∀ c i, ¬ c = 153 → ¬ c = 154 → s c i = st c i) → st 152 2 + n ≤ 30 → k ≤ st 152 2 → K (rx_find rx_m267 80) [(0, .inr (.inr (.inl 152))), (1, .inl k), (2, .inr (.inr (.inl 160))), (3, .inl n), (4, .inl i)] [] s := by
    intro u
    induction u using Nat.strongRecOn with
    | _ u ih =>
      intro i s i0 i8 hu hs hf hc hkc
      obtain ⟨⟨c0, c1⟩, hp, hmn⟩ := id hs
      have e0 : s 152 2 = st 152 2 := hf 152 2 (by omega) (by omega)
      have e9 : ∀ j, s 160 j = st 160 j := fun j => hf 160 j (by omega) (by omega)
      refine zr1_ok (wc := zno) (stp := [80]) zno_m hcl 60 ?_
      show ((n ≤ i → ((1 = (0 : Int) ∨ 1 = (1 : Int)) ∧ Rt (some (.inl 1)) (zup s 152 2 (zw ((s 152 2) + n))))) ∧ (¬ (n ≤ i) → ((0 ≤ i ∧ i < 8) ∧ ((0 ≤ zw (k + i) ∧ zw (k + i) < 30) ∧ ((0 ≤ zw (k + i) ∧ zw (k + i) < 30) ∧ K (rx_find rx_m267 80) [(4, .inl (zw (i + 1))), (0, .inr (.inr (.inl 152))), (1, .inl k), (2, .inr (.inr (.inl 160))), (3, .inl n)] [] (zup (zup s 153 (zw (k + i)).toNat (s 160 (i).toNat)) 154 (zw (k + i)).toNat 0))))))
      rw [show zw (i + 1) = i + 1 from zw_id (by unfold zsI; omega), show zw (s 152 2 + n) = s 152 2 + n from zw_id (by unfold zsI; omega)]
      refine ⟨fun _ => ⟨Or.inr rfl, hQ 1 _ ⟨?_, fun j => hp j, fun j => hmn j⟩ (fun c j q1 q2 q3 => ?_) (Or.inr rfl)⟩, fun c => ?_⟩
      · show 0 ≤ s 152 2 + n ∧ s 152 2 + n ≤ 30
        omega
      · rw [zup_ne _ _ q1]
        exact hf c j q2 q3
      · rw [show zw (k + i) = k + i from zw_id (by unfold zsI; omega)]
        refine ⟨by omega, by omega, by omega, hsl _ _ _ _ _ (by simp) (ih (8 - (i + 1)).toNat (by omega) (i + 1) _ (by omega) (by omega) rfl ⟨⟨c0, c1⟩, fun j => ?_, fun j => ?_⟩ (fun c j q1 q2 => ?_) hc hkc)⟩
        · show 0 ≤ zup s 153 (k + i).toNat (s 160 i.toNat) 153 j ∧ zup s 153 (k + i).toNat (s 160 i.toNat) 153 j ≤ 7
          rw [zup_if]
          split
          · rw [e9]; exact hb _
          · exact hp j
        · rw [zup_if]
          split
          · unfold zsI; omega
          · rw [zup_nc _ _ (show ¬ (154 : Nat) = 153 by decide)]
            exact hmn j
        · rw [zup_nc _ _ q2, zup_nc _ _ q1]
          exact hf c j q1 q2
  obtain ⟨⟨c0, c1⟩, hp, hmn⟩ := id h
  refine zr1_ok (wc := zno) (stp := [80]) zno_m hcl 60 ?_
  show ((k < 0 → ((0 = (0 : Int) ∨ 0 = (1 : Int)) ∧ Rt (some (.inl 0)) st)) ∧ (¬ (k < 0) → ((st 152 2 < k → ((0 = (0 : Int) ∨ 0 = (1 : Int)) ∧ Rt (some (.inl 0)) st)) ∧ (¬ (st 152 2 < k) → ((n < 0 → ((0 = (0 : Int) ∨ 0 = (1 : Int)) ∧ Rt (some (.inl 0)) st)) ∧ (¬ (n < 0) → ((8 < n → ((0 = (0 : Int) ∨ 0 = (1 : Int)) ∧ Rt (some (.inl 0)) st)) ∧ (¬ (8 < n) → ((zw ((st 152 2) + n) ≤ 30 → ((0 ≤ zw ((st 152 2) - k) ∧ 0 ≤ zw (k + n) ∧ 0 ≤ k ∧ k + zw ((st 152 2) - k) ≤ 30 ∧ zw (k + n) + zw ((st 152 2) - k) ≤ 30) ∧ ((0 ≤ zw ((st 152 2) - k) ∧ 0 ≤ zw (k + n) ∧ 0 ≤ k ∧ k + zw ((st 152 2) - k) ≤ 30 ∧ zw (k + n) + zw ((st 152 2) - k) ≤ 30) ∧ K (rx_find rx_m267 80) [(4, .inl 0), (0, .inr (.inr (.inl 152))), (1, .inl k), (2, .inr (.inr (.inl 160))), (3, .inl n)] [] (zcp (zcp st 153 (k).toNat 153 (zw (k + n)).toNat (zw ((st 152 2) - k)).toNat) 154 (k).toNat 154 (zw (k + n)).toNat (zw ((st 152 2) - k)).toNat)))) ∧ (¬ (zw ((st 152 2) + n) ≤ 30) → ((0 = (0 : Int) ∨ 0 = (1 : Int)) ∧ Rt (some (.inl 0)) st)))))))))))
  have z0 : ∀ z : Int, z = 0 → ((0 : Int) = 0 ∨ (0 : Int) = 1) ∧ Rt (some (.inl 0)) st := fun z _ => ⟨Or.inl rfl, hQ 0 st h (fun _ _ _ _ _ => rfl) (Or.inl rfl)⟩
  rw [show zw (st 152 2 + n) = st 152 2 + n from zw_id (by unfold zsI; omega)]
  refine ⟨fun _ => z0 0 rfl, fun _ => ⟨fun _ => z0 0 rfl, fun q2 => ⟨fun _ => z0 0 rfl, fun _ => ⟨fun _ => z0 0 rfl, fun _ => ⟨fun q5 => ?_, fun _ => z0 0 rfl⟩⟩⟩⟩⟩
  rw [show zw (st 152 2 - k) = st 152 2 - k from zw_id (by unfold zsI; omega), show zw (k + n) = k + n from zw_id (by unfold zsI; omega)]
  refine ⟨by omega, by omega, hsl _ _ _ _ _ (by simp) (k80 _ 0 _ (by omega) (by omega) rfl ⟨⟨c0, c1⟩, fun j => ?_, fun j => ?_⟩ (fun c j q1 q2 => ?_) q5 (by omega))⟩
  · show 0 ≤ zcp st 153 k.toNat 153 (k + n).toNat (st 152 2 - k).toNat 153 j ∧ zcp st 153 k.toNat 153 (k + n).toNat (st 152 2 - k).toNat 153 j ≤ 7
    rw [zcp_if]
    split
    · exact hp _
    · exact hp _
  · rw [zcp_if]
    split
    · rw [zcp_if, if_neg (fun q => absurd q.1 (by decide))]
      exact hmn _
    · rw [zcp_if, if_neg (fun q => absurd q.1 (by decide))]
      exact hmn _
  · rw [zcp_if, if_neg (fun q => q2 q.1), zcp_if, if_neg (fun q => q1 q.1)]
