/-! the whole: the entry, the two constructors, then the loop over the script -/
theorem rx_at18 {p : Program} {l : Launch} {e : Env} {s : State} {m : MethodId} {below : List Frame} {meth : Method} {c : Code} {b L : Nat} {xs : Nat → Int32} {X : rx_X} {D : va_G} (hL : L ≤ 3072) (C0 : rx_lawC p s m meth c b L xs X D) : rx_LW p l e s m below meth c b X D 18 rx_L0 [] rx_w0 221 26609 := by
  have hx : X.1 = xs := C0.2.1
  have hcl : lcl L xs (zOk l 200 X D (lG L) zSh rx_mis) (LKd (lWm p l e s m below meth c b X D)) := fun en rest L' S st h => l_close (l_st C0) l_wo (l_nd C0) hx (by omega) h
  have hgo := lhead (cl := fun d => zOk l d X D (lG L) zSh rx_mis) l_tb hcl hL _ 0 (Int.le_refl 0) (by omega) rfl z0 z0_T
  obtain ⟨hne, hk⟩ := hgo
  have hpre : ∃ pre, rx_mL = pre ++ rx_find rx_mL 18 := by
    rcases rx_find_ok rx_mL 18 with h3 | ⟨pre2, e2, rest2, h3, h4, h5⟩
    · exact absurd h3 hne
    · exact ⟨pre2, by rw [h4]; exact h3⟩
  have hk := hk hpre z0_sk (fun q hq => ?_) (fun v hv => by cases hv) rx_w0 z0_R
  · have hp : zpc (rx_find rx_mL 18) = 18 := zfind_pc hne rfl
    rw [hp] at hk
    exact hk
  · rcases List.mem_cons.mp hq with rfl | hq
    · show zsI 0
      unfold zsI
      omega
    rcases List.mem_cons.mp hq with rfl | hq
    · trivial
    rcases List.mem_cons.mp hq with rfl | hq
    · trivial
    rcases List.mem_cons.mp hq with rfl | hq
    · trivial
    cases hq
theorem whole_start {p : Program} {e : Env} {s : State} {m : MethodId} {below : List Frame} {meth : Method} {c : Code} (l : Launch) {b L : Nat} {xs : Nat → Int32} (hL : L ≤ 3072) (hnm : meth.name = "law") (C0 : lw_At p s m meth c b L xs) : W p l e room_1 s m #[Value.ref b] below meth c s.heap [] 0 0 (lw_Z below #[Value.ref b] s) (entryFrame m ([Value.ref b] : List Value).toArray 4) := by
  obtain ⟨X, D, e1, e2, e3, hU⟩ := rx_start C0
  have CC : rx_lawC p s m meth c b L xs X D := ⟨C0, e1, e2, hnm, hU⟩
  have hgo : rx_LW p l e s m below meth c b X D 0 [(0, .inr (.inr (.inr 0)))] [] [] 0 0 := rx_lawS CC (Or.inl rfl) rx_fok_n rx_stage1 (rx_at18 hL CC)
  have hlv := lv_entry ([Value.ref b] : List Value) (n := 4) (by show (1 : Nat) ≤ 4; decide)
  rw [lg_entry_eq]
  have hlv2 : lv_args 0 [Value.ref b] = rx_Lm X [(0, .inr (.inr (.inr 0)))] := by
    show [(0, Value.ref b)] = [(0, rx_d X (.inr (.inr (.inr 0))))]
    have h3 : rx_d X (.inr (.inr (.inr 0))) = Value.ref b := by
      show va_rf (X.2.2.1 0) = Value.ref b
      rw [e3]
      rfl
    rw [h3]
  rw [hlv2] at hlv
  generalize ((lg_sl ([Value.ref b] : List Value) ++ List.replicate (4 - (lg_sl ([Value.ref b] : List Value)).length) Slot.unset).toArray) = ls at hlv ⊢
  exact hgo s.heap [] ls ⟨fun k q hk => by simp [rx_w] at hk, fun _ => (by show s.heap.size + 0 ≤ X.2.1 + 0; rw [e2]; exact Nat.le_refl _), va_S.rf⟩ hlv
