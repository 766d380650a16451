/-! printed by wip/p32/libq.py: the plain public methods -/
def ct_cut (x : Int) (st : zS) (Q : zQ) : Prop := ∀ (r : Int), Q (some (.inl r)) st
theorem ct_cut_m {x : Int} {st : zS} {Q Q' : zQ} (hQ : ∀ r st', Q r st' → Q' r st') (h : ct_cut x st Q) : ct_cut x st Q' := fun x0 => hQ _ _ (h x0)
def k_cut : zCall := fun _ as st Q => match as with
  | [.inr (.inl x)] => ct_cut x st Q
  | _ => False
theorem k_cut_mon : zmon k_cut := by
  intro nu as st Q Q' hQ h
  unfold k_cut at h ⊢
  split at h
  · exact ct_cut_m hQ h
  · exact h.elim
def rq_end (x : Int) (st : zS) : Prop := gInv zgt st ∧ zJ st
def en_end (x : Int) (st : zS) (r : Int) (s1 : zS) : Prop := gInv zgt s1 ∧ zJ s1 ∧ zV0 st s1 ∧ ((x < 0 ∨ st 170 1 < x → r = 0 ∧ s1 170 1 = st 170 1) ∧ (0 ≤ x ∧ x ≤ st 170 1 → r = 1 ∧ s1 170 1 = x))
def ct_end (x : Int) (st : zS) (Q : zQ) : Prop := rq_end x st ∧ (∀ (r : Int) (s1 : zS), en_end x st r s1 → Q (some (.inl r)) s1)
theorem ct_end_m {x : Int} {st : zS} {Q Q' : zQ} (hQ : ∀ r st', Q r st' → Q' r st') (h : ct_end x st Q) : ct_end x st Q' := ⟨h.1, fun x0 x1 x2 => hQ _ _ (h.2 x0 x1 x2)⟩
def k_end : zCall := fun _ as st Q => match as with
  | [.inr (.inr (.inl z_o)), .inl x] => z_o = 170 ∧ ct_end x st Q
  | _ => False
theorem k_end_mon : zmon k_end := by
  intro nu as st Q Q' hQ h
  unfold k_end at h ⊢
  split at h
  · exact ⟨h.1, ct_end_m hQ h.2⟩
  · exact h.elim
def rq_fault (x : Int) (st : zS) : Prop := gInv zgt st ∧ zJ st
def en_fault (x : Int) (st : zS) (r : Int) (s1 : zS) : Prop := gInv zgt s1 ∧ zJ s1 ∧ s1 170 1 = st 170 1 ∧ zV0 st s1
def ct_fault (x : Int) (st : zS) (Q : zQ) : Prop := rq_fault x st ∧ (∀ (r : Int) (s1 : zS), en_fault x st r s1 → Q (some (.inl r)) s1)
theorem ct_fault_m {x : Int} {st : zS} {Q Q' : zQ} (hQ : ∀ r st', Q r st' → Q' r st') (h : ct_fault x st Q) : ct_fault x st Q' := ⟨h.1, fun x0 x1 x2 => hQ _ _ (h.2 x0 x1 x2)⟩
def k_fault : zCall := fun _ as st Q => match as with
  | [.inr (.inr (.inl z_o)), .inl x] => z_o = 170 ∧ ct_fault x st Q
  | _ => False
theorem k_fault_mon : zmon k_fault := by
  intro nu as st Q Q' hQ h
  unfold k_fault at h ⊢
  split at h
  · exact ⟨h.1, ct_fault_m hQ h.2⟩
  · exact h.elim
def rq_has (x : Int) (st : zS) : Prop := gInv zgt st ∧ zJ st
def en_has (x : Int) (st : zS) (r : Int) (s1 : zS) : Prop := gInv zgt s1 ∧ zJ s1 ∧ s1 170 1 = st 170 1 ∧ zV0 st s1
def ct_has (x : Int) (st : zS) (Q : zQ) : Prop := rq_has x st ∧ (∀ (r : Int) (s1 : zS), en_has x st r s1 → Q (some (.inl r)) s1)
theorem ct_has_m {x : Int} {st : zS} {Q Q' : zQ} (hQ : ∀ r st', Q r st' → Q' r st') (h : ct_has x st Q) : ct_has x st Q' := ⟨h.1, fun x0 x1 x2 => hQ _ _ (h.2 x0 x1 x2)⟩
def k_has : zCall := fun _ as st Q => match as with
  | [.inr (.inr (.inl z_o)), .inl x] => z_o = 170 ∧ ct_has x st Q
  | _ => False
theorem k_has_mon : zmon k_has := by
  intro nu as st Q Q' hQ h
  unfold k_has at h ⊢
  split at h
  · exact ⟨h.1, ct_has_m hQ h.2⟩
  · exact h.elim
def rq_street (k : Int) (x : Int) (st : zS) : Prop := gInv zgt st ∧ zJ st
def en_street (k : Int) (x : Int) (st : zS) (r : Int) (s1 : zS) : Prop := gInv zgt s1 ∧ zJ s1 ∧ s1 170 1 = st 170 1 ∧ zV0 st s1
def ct_street (k : Int) (x : Int) (st : zS) (Q : zQ) : Prop := rq_street k x st ∧ (∀ (r : Int) (s1 : zS), en_street k x st r s1 → Q (some (.inl r)) s1)
theorem ct_street_m {k x : Int} {st : zS} {Q Q' : zQ} (hQ : ∀ r st', Q r st' → Q' r st') (h : ct_street k x st Q) : ct_street k x st Q' := ⟨h.1, fun x0 x1 x2 => hQ _ _ (h.2 x0 x1 x2)⟩
def k_street : zCall := fun _ as st Q => match as with
  | [.inr (.inr (.inl z_o)), .inl k, .inl x] => z_o = 170 ∧ ct_street k x st Q
  | _ => False
theorem k_street_mon : zmon k_street := by
  intro nu as st Q Q' hQ h
  unfold k_street at h ⊢
  split at h
  · exact ⟨h.1, ct_street_m hQ h.2⟩
  · exact h.elim
def rq_way (x : Int) (y : Int) (st : zS) : Prop := gInv zgt st ∧ zJ st
def en_way (x : Int) (y : Int) (st : zS) (r : Int) (s1 : zS) : Prop := gInv zgt s1 ∧ zJ s1 ∧ s1 170 1 = st 170 1 ∧ zV0 st s1
def ct_way (x : Int) (y : Int) (st : zS) (Q : zQ) : Prop := rq_way x y st ∧ (∀ (r : Int) (s1 : zS), en_way x y st r s1 → Q (some (.inl r)) s1)
theorem ct_way_m {x y : Int} {st : zS} {Q Q' : zQ} (hQ : ∀ r st', Q r st' → Q' r st') (h : ct_way x y st Q) : ct_way x y st Q' := ⟨h.1, fun x0 x1 x2 => hQ _ _ (h.2 x0 x1 x2)⟩
def k_way : zCall := fun _ as st Q => match as with
  | [.inr (.inr (.inl z_o)), .inl x, .inl y] => z_o = 170 ∧ ct_way x y st Q
  | _ => False
theorem k_way_mon : zmon k_way := by
  intro nu as st Q Q' hQ h
  unfold k_way at h ⊢
  split at h
  · exact ⟨h.1, ct_way_m hQ h.2⟩
  · exact h.elim
def rq_thing (k : Int) (x : Int) (st : zS) : Prop := gInv zgt st ∧ zJ st
def en_thing (k : Int) (x : Int) (st : zS) (r : Int) (s1 : zS) : Prop := gInv zgt s1 ∧ zJ s1 ∧ s1 170 1 = st 170 1 ∧ zV0 st s1
def ct_thing (k : Int) (x : Int) (st : zS) (Q : zQ) : Prop := rq_thing k x st ∧ (∀ (r : Int) (s1 : zS), en_thing k x st r s1 → Q (some (.inl r)) s1)
theorem ct_thing_m {k x : Int} {st : zS} {Q Q' : zQ} (hQ : ∀ r st', Q r st' → Q' r st') (h : ct_thing k x st Q) : ct_thing k x st Q' := ⟨h.1, fun x0 x1 x2 => hQ _ _ (h.2 x0 x1 x2)⟩
def k_thing : zCall := fun _ as st Q => match as with
  | [.inr (.inr (.inl z_o)), .inl k, .inl x] => z_o = 170 ∧ ct_thing k x st Q
  | _ => False
theorem k_thing_mon : zmon k_thing := by
  intro nu as st Q Q' hQ h
  unfold k_thing at h ⊢
  split at h
  · exact ⟨h.1, ct_thing_m hQ h.2⟩
  · exact h.elim
def rq_step (k : Int) (x : Int) (st : zS) : Prop := gInv zgt st ∧ zJ st
def en_step (k : Int) (x : Int) (st : zS) (r : Int) (s1 : zS) : Prop := gInv zgt s1 ∧ zJ s1 ∧ s1 170 1 = st 170 1 ∧ zV0 st s1
def ct_step (k : Int) (x : Int) (st : zS) (Q : zQ) : Prop := rq_step k x st ∧ (∀ (r : Int) (s1 : zS), en_step k x st r s1 → Q (some (.inl r)) s1)
theorem ct_step_m {k x : Int} {st : zS} {Q Q' : zQ} (hQ : ∀ r st', Q r st' → Q' r st') (h : ct_step k x st Q) : ct_step k x st Q' := ⟨h.1, fun x0 x1 x2 => hQ _ _ (h.2 x0 x1 x2)⟩
def k_step : zCall := fun _ as st Q => match as with
  | [.inr (.inr (.inl z_o)), .inl k, .inl x] => z_o = 170 ∧ ct_step k x st Q
  | _ => False
theorem k_step_mon : zmon k_step := by
  intro nu as st Q Q' hQ h
  unfold k_step at h ⊢
  split at h
  · exact ⟨h.1, ct_step_m hQ h.2⟩
  · exact h.elim
def rq_filled (n : Int) (st : zS) : Prop := gInv zgt st ∧ zJ st
def en_filled (n : Int) (st : zS) (r : Int) (s1 : zS) : Prop := gInv zgt s1 ∧ zJ s1 ∧ s1 170 1 = st 170 1 ∧ zV0 st s1
def ct_filled (n : Int) (st : zS) (Q : zQ) : Prop := rq_filled n st ∧ (∀ (r : Int) (s1 : zS), en_filled n st r s1 → Q (some (.inl r)) s1)
theorem ct_filled_m {n : Int} {st : zS} {Q Q' : zQ} (hQ : ∀ r st', Q r st' → Q' r st') (h : ct_filled n st Q) : ct_filled n st Q' := ⟨h.1, fun x0 x1 x2 => hQ _ _ (h.2 x0 x1 x2)⟩
def k_filled : zCall := fun _ as st Q => match as with
  | [.inr (.inr (.inl z_o)), .inl n] => z_o = 170 ∧ ct_filled n st Q
  | _ => False
theorem k_filled_mon : zmon k_filled := by
  intro nu as st Q Q' hQ h
  unfold k_filled at h ⊢
  split at h
  · exact ⟨h.1, ct_filled_m hQ h.2⟩
  · exact h.elim
def rq_asked (n : Int) (x : Int) (st : zS) : Prop := gInv zgt st ∧ zJ st
def en_asked (n : Int) (x : Int) (st : zS) (r : Int) (s1 : zS) : Prop := gInv zgt s1 ∧ zJ s1 ∧ s1 170 1 = st 170 1 ∧ zV0 st s1
def ct_asked (n : Int) (x : Int) (st : zS) (Q : zQ) : Prop := rq_asked n x st ∧ (∀ (r : Int) (s1 : zS), en_asked n x st r s1 → Q (some (.inl r)) s1)
theorem ct_asked_m {n x : Int} {st : zS} {Q Q' : zQ} (hQ : ∀ r st', Q r st' → Q' r st') (h : ct_asked n x st Q) : ct_asked n x st Q' := ⟨h.1, fun x0 x1 x2 => hQ _ _ (h.2 x0 x1 x2)⟩
def k_asked : zCall := fun _ as st Q => match as with
  | [.inr (.inr (.inl z_o)), .inl n, .inl x] => z_o = 170 ∧ ct_asked n x st Q
  | _ => False
theorem k_asked_mon : zmon k_asked := by
  intro nu as st Q Q' hQ h
  unfold k_asked at h ⊢
  split at h
  · exact ⟨h.1, ct_asked_m hQ h.2⟩
  · exact h.elim
def rq_kept (k : Int) (x : Int) (st : zS) : Prop := gInv zgt st ∧ zJ st
def en_kept (k : Int) (x : Int) (st : zS) (r : Int) (s1 : zS) : Prop := gInv zgt s1 ∧ zJ s1 ∧ s1 170 1 = st 170 1 ∧ zV0 st s1
def ct_kept (k : Int) (x : Int) (st : zS) (Q : zQ) : Prop := rq_kept k x st ∧ (∀ (r : Int) (s1 : zS), en_kept k x st r s1 → Q (some (.inl r)) s1)
theorem ct_kept_m {k x : Int} {st : zS} {Q Q' : zQ} (hQ : ∀ r st', Q r st' → Q' r st') (h : ct_kept k x st Q) : ct_kept k x st Q' := ⟨h.1, fun x0 x1 x2 => hQ _ _ (h.2 x0 x1 x2)⟩
def k_kept : zCall := fun _ as st Q => match as with
  | [.inr (.inr (.inl z_o)), .inl k, .inl x] => z_o = 170 ∧ ct_kept k x st Q
  | _ => False
theorem k_kept_mon : zmon k_kept := by
  intro nu as st Q Q' hQ h
  unfold k_kept at h ⊢
  split at h
  · exact ⟨h.1, ct_kept_m hQ h.2⟩
  · exact h.elim
def rq_octet (k : Int) (st : zS) : Prop := gInv zgt st ∧ zJ st
def en_octet (k : Int) (st : zS) (r : Int) (s1 : zS) : Prop := gInv zgt s1 ∧ zJ s1 ∧ s1 170 1 = st 170 1 ∧ zV0 st s1
def ct_octet (k : Int) (st : zS) (Q : zQ) : Prop := rq_octet k st ∧ (∀ (r : Int) (s1 : zS), en_octet k st r s1 → Q (some (.inl r)) s1)
theorem ct_octet_m {k : Int} {st : zS} {Q Q' : zQ} (hQ : ∀ r st', Q r st' → Q' r st') (h : ct_octet k st Q) : ct_octet k st Q' := ⟨h.1, fun x0 x1 x2 => hQ _ _ (h.2 x0 x1 x2)⟩
def k_octet : zCall := fun _ as st Q => match as with
  | [.inr (.inr (.inl z_o)), .inl k] => z_o = 170 ∧ ct_octet k st Q
  | _ => False
theorem k_octet_mon : zmon k_octet := by
  intro nu as st Q Q' hQ h
  unfold k_octet at h ⊢
  split at h
  · exact ⟨h.1, ct_octet_m hQ h.2⟩
  · exact h.elim
def rq_status (x : Int) (st : zS) : Prop := gInv zgt st ∧ zJ st
def en_status (x : Int) (st : zS) (r : Int) (s1 : zS) : Prop := gInv zgt s1 ∧ zJ s1 ∧ s1 170 1 = st 170 1 ∧ zV0 st s1
def ct_status (x : Int) (st : zS) (Q : zQ) : Prop := rq_status x st ∧ (∀ (r : Int) (s1 : zS), en_status x st r s1 → Q (some (.inl r)) s1)
theorem ct_status_m {x : Int} {st : zS} {Q Q' : zQ} (hQ : ∀ r st', Q r st' → Q' r st') (h : ct_status x st Q) : ct_status x st Q' := ⟨h.1, fun x0 x1 x2 => hQ _ _ (h.2 x0 x1 x2)⟩
def k_status : zCall := fun _ as st Q => match as with
  | [.inr (.inr (.inl z_o)), .inl x] => z_o = 170 ∧ ct_status x st Q
  | _ => False
theorem k_status_mon : zmon k_status := by
  intro nu as st Q Q' hQ h
  unfold k_status at h ⊢
  split at h
  · exact ⟨h.1, ct_status_m hQ h.2⟩
  · exact h.elim
def rq_seed (x : Int) (st : zS) : Prop := gInv zgt st ∧ zJ st ∧ (-2147483648 ≤ x ∧ x ≤ 2147483647)
def en_seed (x : Int) (st : zS) (r : Int) (s1 : zS) : Prop := gInv zgt s1 ∧ zJ s1 ∧ s1 170 1 = st 170 1 ∧ zV0 st s1 ∧ ((0 ≤ x → r = 1) ∧ (x < 0 → r = 0))
def ct_seed (x : Int) (st : zS) (Q : zQ) : Prop := rq_seed x st ∧ (∀ (r : Int) (s1 : zS), en_seed x st r s1 → Q (some (.inl r)) s1)
theorem ct_seed_m {x : Int} {st : zS} {Q Q' : zQ} (hQ : ∀ r st', Q r st' → Q' r st') (h : ct_seed x st Q) : ct_seed x st Q' := ⟨h.1, fun x0 x1 x2 => hQ _ _ (h.2 x0 x1 x2)⟩
def k_seed : zCall := fun _ as st Q => match as with
  | [.inr (.inr (.inl z_o)), .inl x] => z_o = 170 ∧ ct_seed x st Q
  | _ => False
theorem k_seed_mon : zmon k_seed := by
  intro nu as st Q Q' hQ h
  unfold k_seed at h ⊢
  split at h
  · exact ⟨h.1, ct_seed_m hQ h.2⟩
  · exact h.elim
section R7n
variable {cl : Nat → zCall}
set_option maxHeartbeats 40000000 in
set_option maxRecDepth 100000 in
theorem c_cut (hTb : aTb zSh rx_tb cl) {D : Nat} (hD : 1 ≤ D) {x : Int} {st : zS} {Q : zQ} (h : ct_cut x st Q) : cl D 53 [.inr (.inl x)] st Q := by
  obtain ⟨d, rfl⟩ : ∃ d, D = d + 1 := ⟨D - 1, by omega⟩
  refine hTb d 53 (rx_m53, 2, 0, 0, 1) rfl _ _ _ (Nat.le_of_ble_eq_true rfl) (fun K hcl hsf hsl => ?_)
  have hcm : zmo (zno) (cl d) := zno_m
  have hQ := h
  refine yr1_ok (Rt := Q) (wc := (zno)) (stp := []) hcm hcl [15] 29 ?_
  show (∀ (w1 : Int), (x < 999999999 ∧ w1 = -1 ∨ x = 999999999 ∧ w1 = 0 ∨ 999999999 < x ∧ w1 = 1) → ((w1 ≤ (0 : Int) → Q (some (.inl (zw x))) st) ∧ (¬ (w1 ≤ (0 : Int)) → Q (some (.inl 999999999)) st)))
  intro w1 hw1
  refine ⟨fun h2 => ?_, fun h2 => ?_⟩
  · exact hQ _
  · exact hQ _
theorem k_cut_m (hTb : aTb zSh rx_tb cl) {D : Nat} (hD : 1 ≤ D) : ∀ as st (Q Q' : zQ), (∀ r st', Q r st' → Q' r st') → k_cut 53 as st Q → cl D 53 as st Q' := by
  intro as st Q Q' hQ h
  unfold k_cut at h
  split at h
  · exact c_cut hTb hD (ct_cut_m hQ h)
  · exact h.elim
set_option maxHeartbeats 40000000 in
set_option maxRecDepth 100000 in
theorem c_end (hTb : aTb zSh rx_tb cl) {D : Nat} (hD : 2 ≤ D) {x : Int} {st : zS} {Q : zQ} (h : ct_end x st Q) : cl D 105 [.inr (.inr (.inl 170)), .inl x] st Q := by
  obtain ⟨d, rfl⟩ : ∃ d, D = d + 1 := ⟨D - 1, by omega⟩
  refine hTb d 105 (rx_m105, 2, 0, 0, 2) rfl _ _ _ (Nat.le_of_ble_eq_true rfl) (fun K hcl hsf hsl => ?_)
  have hcm : zmo (wcL [(58, k_refuses)]) (cl d) := (wcL_m (wm_cons (k_refuses_m hTb (by omega)) wm_nil))
  obtain ⟨hR, hQ⟩ := h
  obtain ⟨hG, hJ⟩ := hR
  have g1 := g_taped hG
  refine yr1_ok (Rt := Q) (wc := (wcL [(58, k_refuses)])) (stp := []) hcm hcl [] 39 ?_
  show ((x < (0 : Int) → (170 = 170 ∧ (rq_refuses (0) st ∧ (∀ (r2 : Int) (s2 : zS), en_refuses (0) st r2 s2 → ((r2 < (0 : Int) → ((0 = (0 : Int) ∨ 0 = (1 : Int)) ∧ Q (some (.inl 0)) s2)) ∧ (¬ (r2 < (0 : Int)) → ((1 = (0 : Int) ∨ 1 = (1 : Int)) ∧ Q (some (.inl 1)) s2))))))) ∧ (¬ (x < (0 : Int)) → ((x ≤ st 170 1 → ((1 = (0 : Int) ∨ 1 = (1 : Int)) ∧ Q (some (.inl 1)) (zup st 170 1 x))) ∧ (¬ (x ≤ st 170 1) → (170 = 170 ∧ (rq_refuses (0) st ∧ (∀ (r3 : Int) (s3 : zS), en_refuses (0) st r3 s3 → ((r3 < (0 : Int) → ((0 = (0 : Int) ∨ 0 = (1 : Int)) ∧ Q (some (.inl 0)) s3)) ∧ (¬ (r3 < (0 : Int)) → ((1 = (0 : Int) ∨ 1 = (1 : Int)) ∧ Q (some (.inl 1)) s3))))))))))
  refine ⟨fun h4 => ?_, fun h4 => ?_⟩
  · refine ⟨rfl, ⟨hG, (show 0 ≤ (0) ∧ (0) ≤ 5 from by omega)⟩, fun r2 s2 q2 => ?_⟩
    obtain ⟨gs2, fs2, e2⟩ := q2
    change r2 = -1 at e2
    refine ⟨fun h5 => ?_, fun h5 => ?_⟩
    · refine ⟨by omega, ?_⟩
      have e6 : s2 170 1 = st 170 1 := fs2 170 1 rfl rfl
      exact hQ _ _ ⟨gs2, (zJ_fr rfl fs2 hJ), (zV0_tr (zV0_rf _) (zV0_fr rfl fs2)), (show (x < 0 ∨ st 170 1 < x → (0 : Int) = 0 ∧ s2 170 1 = st 170 1) ∧ (0 ≤ x ∧ x ≤ st 170 1 → (0 : Int) = 1 ∧ s2 170 1 = x) from by omega)⟩
    · refine ⟨by omega, ?_⟩
      have e7 : s2 170 1 = st 170 1 := fs2 170 1 rfl rfl
      exact hQ _ _ ⟨gs2, (zJ_fr rfl fs2 hJ), (zV0_tr (zV0_rf _) (zV0_fr rfl fs2)), (show (x < 0 ∨ st 170 1 < x → (1 : Int) = 0 ∧ s2 170 1 = st 170 1) ∧ (0 ≤ x ∧ x ≤ st 170 1 → (1 : Int) = 1 ∧ s2 170 1 = x) from by omega)⟩
  · refine ⟨fun h8 => ?_, fun h8 => ?_⟩
    · refine ⟨by omega, ?_⟩
      exact hQ _ _ ⟨(gInv_up hG (p_taped (by omega))), (zJ_up rfl hJ), (zV0_up (zV0_rf _) (by first | decide | rfl)), (show (x < 0 ∨ st 170 1 < x → (1 : Int) = 0 ∧ x = st 170 1) ∧ (0 ≤ x ∧ x ≤ st 170 1 → (1 : Int) = 1 ∧ x = x) from by omega)⟩
    · refine ⟨rfl, ⟨hG, (show 0 ≤ (0) ∧ (0) ≤ 5 from by omega)⟩, fun r3 s3 q3 => ?_⟩
      obtain ⟨gs3, fs3, e3⟩ := q3
      change r3 = -1 at e3
      refine ⟨fun h9 => ?_, fun h9 => ?_⟩
      · refine ⟨by omega, ?_⟩
        have e10 : s3 170 1 = st 170 1 := fs3 170 1 rfl rfl
        exact hQ _ _ ⟨gs3, (zJ_fr rfl fs3 hJ), (zV0_tr (zV0_rf _) (zV0_fr rfl fs3)), (show (x < 0 ∨ st 170 1 < x → (0 : Int) = 0 ∧ s3 170 1 = st 170 1) ∧ (0 ≤ x ∧ x ≤ st 170 1 → (0 : Int) = 1 ∧ s3 170 1 = x) from by omega)⟩
      · refine ⟨by omega, ?_⟩
        have e11 : s3 170 1 = st 170 1 := fs3 170 1 rfl rfl
        exact hQ _ _ ⟨gs3, (zJ_fr rfl fs3 hJ), (zV0_tr (zV0_rf _) (zV0_fr rfl fs3)), (show (x < 0 ∨ st 170 1 < x → (1 : Int) = 0 ∧ s3 170 1 = st 170 1) ∧ (0 ≤ x ∧ x ≤ st 170 1 → (1 : Int) = 1 ∧ s3 170 1 = x) from by omega)⟩
theorem k_end_m (hTb : aTb zSh rx_tb cl) {D : Nat} (hD : 2 ≤ D) : ∀ as st (Q Q' : zQ), (∀ r st', Q r st' → Q' r st') → k_end 105 as st Q → cl D 105 as st Q' := by
  intro as st Q Q' hQ h
  unfold k_end at h
  split at h
  · obtain ⟨rfl, h⟩ := h
    exact c_end hTb hD (ct_end_m hQ h)
  · exact h.elim
set_option maxHeartbeats 40000000 in
set_option maxRecDepth 100000 in
theorem c_fault (hTb : aTb zSh rx_tb cl) {D : Nat} (hD : 1 ≤ D) {x : Int} {st : zS} {Q : zQ} (h : ct_fault x st Q) : cl D 92 [.inr (.inr (.inl 170)), .inl x] st Q := by
  obtain ⟨d, rfl⟩ : ∃ d, D = d + 1 := ⟨D - 1, by omega⟩
  refine hTb d 92 (rx_m92, 2, 0, 0, 1) rfl _ _ _ (Nat.le_of_ble_eq_true rfl) (fun K hcl hsf hsl => ?_)
  have hcm : zmo (zno) (cl d) := zno_m
  obtain ⟨hR, hQ⟩ := h
  obtain ⟨hG, hJ⟩ := hR
  refine yr1_ok (Rt := Q) (wc := (zno)) (stp := []) hcm hcl [] 33 ?_
  show ((¬ x = (0 : Int) → ((¬ x = (1 : Int) → Q (some (.inl (-1))) st) ∧ (¬ (¬ x = (1 : Int)) → Q (some (.inl (st 170 11))) st))) ∧ (¬ (¬ x = (0 : Int)) → Q (some (.inl (st 170 10))) st))
  refine ⟨fun h1 => ?_, fun h1 => ?_⟩
  · refine ⟨fun h2 => ?_, fun h2 => ?_⟩
    · exact hQ _ _ ⟨hG, hJ, rfl, (zV0_rf _)⟩
    · have g3 := g_toldPlace hG
      exact hQ _ _ ⟨hG, hJ, rfl, (zV0_rf _)⟩
  · have g4 := g_toldKind hG
    exact hQ _ _ ⟨hG, hJ, rfl, (zV0_rf _)⟩
theorem k_fault_m (hTb : aTb zSh rx_tb cl) {D : Nat} (hD : 1 ≤ D) : ∀ as st (Q Q' : zQ), (∀ r st', Q r st' → Q' r st') → k_fault 92 as st Q → cl D 92 as st Q' := by
  intro as st Q Q' hQ h
  unfold k_fault at h
  split at h
  · obtain ⟨rfl, h⟩ := h
    exact c_fault hTb hD (ct_fault_m hQ h)
  · exact h.elim
set_option maxHeartbeats 40000000 in
set_option maxRecDepth 100000 in
theorem c_has (hTb : aTb zSh rx_tb cl) {D : Nat} (hD : 2 ≤ D) {x : Int} {st : zS} {Q : zQ} (h : ct_has x st Q) : cl D 62 [.inr (.inr (.inl 170)), .inl x] st Q := by
  obtain ⟨d, rfl⟩ : ∃ d, D = d + 1 := ⟨D - 1, by omega⟩
  refine hTb d 62 (rx_m62, 2, 0, 0, 1) rfl _ _ _ (Nat.le_of_ble_eq_true rfl) (fun K hcl hsf hsl => ?_)
  have hcm : zmo (wcL [(151, k_bits)]) (cl d) := (wcL_m (wm_cons (k_bits_m hTb (by omega)) wm_nil))
  obtain ⟨hR, hQ⟩ := h
  obtain ⟨hG, hJ⟩ := hR
  have g1 := g_bank hG
  refine yr1_ok (Rt := Q) (wc := (wcL [(151, k_bits)])) (stp := []) hcm hcl [131] 73 ?_
  show ((x < 0 → Q (some (.inl (-1))) st) ∧ (9 < x → Q (some (.inl (-1))) st) ∧ (x = 0 → ((0 ≤ st 170 13 ∧ st 170 13 < 2) ∧ Q (some (.inl (st 172 (st 170 13 : Int).toNat))) st)) ∧ (x = 1 → ((0 ≤ st 170 13 ∧ st 170 13 < 2) ∧ Q (some (.inl (st 173 (st 170 13 : Int).toNat))) st)) ∧ (x = 2 → ((0 ≤ st 170 13 ∧ st 170 13 < 2) ∧ Q (some (.inl (st 181 (st 170 13 : Int).toNat))) st)) ∧ (x = 3 → ((0 ≤ (0 : Int) ∧ (0 : Int) < 22) ∧ Q (some (.inl (st 199 (0 : Int).toNat))) st)) ∧ (x = 4 → ((0 ≤ (0 : Int) ∧ (0 : Int) < 22) ∧ Q (some (.inl (st 202 (0 : Int).toNat))) st)) ∧ (x = 5 → ((0 ≤ (0 : Int) ∧ (0 : Int) < 22) ∧ (rq_bits (st 200 (0 : Int).toNat) st ∧ (∀ (r2 : Int), Q (some (.inl r2)) st)))) ∧ (x = 6 → ((0 ≤ (0 : Int) ∧ (0 : Int) < 22) ∧ Q (some (.inl (st 205 (0 : Int).toNat))) st)) ∧ (x = 7 → Q (some (.inl (st 170 71))) st) ∧ (x = 8 → Q (some (.inl (st 170 57))) st) ∧ (x = 9 → Q (some (.inl (zw (st 170 58)))) st) ∧ True)
  refine ⟨fun h3 => ?_, fun h3 => ?_, fun h3 => ?_, fun h3 => ?_, fun h3 => ?_, fun h3 => ?_, fun h3 => ?_, fun h3 => ?_, fun h3 => ?_, fun h3 => ?_, fun h3 => ?_, fun h3 => ?_, True.intro⟩
  · exact hQ _ _ ⟨hG, hJ, rfl, (zV0_rf _)⟩
  · exact hQ _ _ ⟨hG, hJ, rfl, (zV0_rf _)⟩
  · have g4 := g_places hG (st 170 13 : Int).toNat
    refine ⟨by omega, ?_⟩
    exact hQ _ _ ⟨hG, hJ, rfl, (zV0_rf _)⟩
  · have g5 := g_streets hG (st 170 13 : Int).toNat
    refine ⟨by omega, ?_⟩
    exact hQ _ _ ⟨hG, hJ, rfl, (zV0_rf _)⟩
  · have g6 := g_things hG (st 170 13 : Int).toNat
    refine ⟨by omega, ?_⟩
    exact hQ _ _ ⟨hG, hJ, rfl, (zV0_rf _)⟩
  · have g7 := g_yearOf hG (0 : Int).toNat
    refine ⟨by omega, ?_⟩
    exact hQ _ _ ⟨hG, hJ, rfl, (zV0_rf _)⟩
  · have g8 := g_stepMany hG (0 : Int).toNat
    refine ⟨by omega, ?_⟩
    exact hQ _ _ ⟨hG, hJ, rfl, (zV0_rf _)⟩
  · have g9 := g_shutOf hG (0 : Int).toNat
    refine ⟨by omega, ?_⟩
    refine ⟨(show -2147483648 ≤ (st 200 (0 : Int).toNat) ∧ (st 200 (0 : Int).toNat) ≤ 2147483647 from by omega), fun r2 => ?_⟩
    exact hQ _ _ ⟨hG, hJ, rfl, (zV0_rf _)⟩
  · have g10 := g_keptMany hG (0 : Int).toNat
    refine ⟨by omega, ?_⟩
    exact hQ _ _ ⟨hG, hJ, rfl, (zV0_rf _)⟩
  · have g11 := g_rows hG
    exact hQ _ _ ⟨hG, hJ, rfl, (zV0_rf _)⟩
  · have g12 := g_undos hG
    exact hQ _ _ ⟨hG, hJ, rfl, (zV0_rf _)⟩
  · have g13 := g_seeds hG
    exact hQ _ _ ⟨hG, hJ, rfl, (zV0_rf _)⟩
theorem k_has_m (hTb : aTb zSh rx_tb cl) {D : Nat} (hD : 2 ≤ D) : ∀ as st (Q Q' : zQ), (∀ r st', Q r st' → Q' r st') → k_has 62 as st Q → cl D 62 as st Q' := by
  intro as st Q Q' hQ h
  unfold k_has at h
  split at h
  · obtain ⟨rfl, h⟩ := h
    exact c_has hTb hD (ct_has_m hQ h)
  · exact h.elim
set_option maxHeartbeats 40000000 in
set_option maxRecDepth 100000 in
theorem c_street (hTb : aTb zSh rx_tb cl) {D : Nat} (hD : 2 ≤ D) {k x : Int} {st : zS} {Q : zQ} (h : ct_street k x st Q) : cl D 125 [.inr (.inr (.inl 170)), .inl k, .inl x] st Q := by
  obtain ⟨d, rfl⟩ : ∃ d, D = d + 1 := ⟨D - 1, by omega⟩
  refine hTb d 125 (rx_m125, 4, 0, 0, 1) rfl _ _ _ (Nat.le_of_ble_eq_true rfl) (fun K hcl hsf hsl => ?_)
  have hcm : zmo (wcL [(8, k_is), (201, k_has2)]) (cl d) := (wcL_m (wm_cons (k_is_m hTb (by omega)) (wm_cons (k_has2_m hTb (by omega)) wm_nil)))
  obtain ⟨hR, hQ⟩ := h
  obtain ⟨hG, hJ⟩ := hR
  have g1 := g_bank hG
  refine yr1_ok (Rt := Q) (wc := (wcL [(8, k_is), (201, k_has2)])) (stp := []) hcm hcl [] 79 ?_
  show ((0 ≤ st 170 13 ∧ st 170 13 < 2) ∧ ((-2147483648 ≤ (st 173 (st 170 13 : Int).toNat) - 1 ∧ (st 173 (st 170 13 : Int).toNat) - 1 ≤ 2147483647) ∧ (∀ (r2 : Int), en_is k (0) ((st 173 (st 170 13 : Int).toNat) - 1) st r2 → ((¬ r2 = (0 : Int) → ((-2147483648 ≤ (14 : Int) * (st 170 13) ∧ (14 : Int) * (st 170 13) ≤ 2147483647) ∧ ((-2147483648 ≤ ((14 : Int) * (st 170 13)) + k ∧ ((14 : Int) * (st 170 13)) + k ≤ 2147483647) ∧ ((¬ x = (0 : Int) → ((¬ x = (1 : Int) → ((¬ x = (2 : Int) → ((¬ x = (3 : Int) → Q (some (.inl (-1))) st) ∧ (¬ (¬ x = (3 : Int)) → ((0 ≤ (0 : Int) ∧ (0 : Int) < 22) ∧ (∀ (r3 : Int), en_has2 (st 200 (0 : Int).toNat) k st r3 → ((r3 = (0 : Int) → Q (some (.inl 0)) st) ∧ (¬ (r3 = (0 : Int)) → Q (some (.inl 1)) st))))))) ∧ (¬ (¬ x = (2 : Int)) → ((0 ≤ ((14 : Int) * (st 170 13)) + k ∧ ((14 : Int) * (st 170 13)) + k < 28) ∧ Q (some (.inl (st 176 (((14 : Int) * (st 170 13)) + k : Int).toNat))) st)))) ∧ (¬ (¬ x = (1 : Int)) → ((0 ≤ ((14 : Int) * (st 170 13)) + k ∧ ((14 : Int) * (st 170 13)) + k < 28) ∧ Q (some (.inl (st 175 (((14 : Int) * (st 170 13)) + k : Int).toNat))) st)))) ∧ (¬ (¬ x = (0 : Int)) → ((0 ≤ ((14 : Int) * (st 170 13)) + k ∧ ((14 : Int) * (st 170 13)) + k < 28) ∧ Q (some (.inl (st 174 (((14 : Int) * (st 170 13)) + k : Int).toNat))) st)))))) ∧ (¬ (¬ r2 = (0 : Int)) → Q (some (.inl (-1))) st)))))
  have g4 := g_streets hG (st 170 13 : Int).toNat
  refine ⟨by omega, ?_⟩
  refine ⟨by omega, ?_⟩
  refine fun r2 q2 => ?_
  have b2 := q2
  change (r2 = 0 ∨ r2 = 1) ∧ (r2 = 1 ↔ (0) ≤ k ∧ k ≤ ((st 173 (st 170 13 : Int).toNat) - 1)) at b2
  refine ⟨fun h5 => ?_, fun h5 => ?_⟩
  · refine ⟨by omega, ?_⟩
    refine ⟨by omega, ?_⟩
    refine ⟨fun h6 => ?_, fun h6 => ?_⟩
    · refine ⟨fun h7 => ?_, fun h7 => ?_⟩
      · refine ⟨fun h8 => ?_, fun h8 => ?_⟩
        · refine ⟨fun h9 => ?_, fun h9 => ?_⟩
          · exact hQ _ _ ⟨hG, hJ, rfl, (zV0_rf _)⟩
          · have g10 := g_shutOf hG (0 : Int).toNat
            refine ⟨by omega, ?_⟩
            refine fun r3 q3 => ?_
            have b3 := q3
            change (r3 = 0 ∨ r3 = 1) ∧ r3 = hb (st 200 (0 : Int).toNat) k at b3
            refine ⟨fun h11 => ?_, fun h11 => ?_⟩
            · exact hQ _ _ ⟨hG, hJ, rfl, (zV0_rf _)⟩
            · exact hQ _ _ ⟨hG, hJ, rfl, (zV0_rf _)⟩
        · have g12 := g_pacesOf hG (((14 : Int) * (st 170 13)) + k : Int).toNat
          refine ⟨by omega, ?_⟩
          exact hQ _ _ ⟨hG, hJ, rfl, (zV0_rf _)⟩
      · have g13 := g_toOf hG (((14 : Int) * (st 170 13)) + k : Int).toNat
        refine ⟨by omega, ?_⟩
        exact hQ _ _ ⟨hG, hJ, rfl, (zV0_rf _)⟩
    · have g14 := g_fromOf hG (((14 : Int) * (st 170 13)) + k : Int).toNat
      refine ⟨by omega, ?_⟩
      exact hQ _ _ ⟨hG, hJ, rfl, (zV0_rf _)⟩
  · exact hQ _ _ ⟨hG, hJ, rfl, (zV0_rf _)⟩
theorem k_street_m (hTb : aTb zSh rx_tb cl) {D : Nat} (hD : 2 ≤ D) : ∀ as st (Q Q' : zQ), (∀ r st', Q r st' → Q' r st') → k_street 125 as st Q → cl D 125 as st Q' := by
  intro as st Q Q' hQ h
  unfold k_street at h
  split at h
  · obtain ⟨rfl, h⟩ := h
    exact c_street hTb hD (ct_street_m hQ h)
  · exact h.elim
set_option maxHeartbeats 40000000 in
set_option maxRecDepth 100000 in
theorem c_way (hTb : aTb zSh rx_tb cl) {D : Nat} (hD : 3 ≤ D) {x y : Int} {st : zS} {Q : zQ} (h : ct_way x y st Q) : cl D 126 [.inr (.inr (.inl 170)), .inl x, .inl y] st Q := by
  obtain ⟨d, rfl⟩ : ∃ d, D = d + 1 := ⟨D - 1, by omega⟩
  refine hTb d 126 (rx_m126, 3, 0, 0, 1) rfl _ _ _ (Nat.le_of_ble_eq_true rfl) (fun K hcl hsf hsl => ?_)
  have hcm : zmo (wcL [(67, k_isPlace), (15, k_measures)]) (cl d) := (wcL_m (wm_cons (k_isPlace_m hTb (by omega)) (wm_cons (k_measures_m hTb (by omega)) wm_nil)))
  obtain ⟨hR, hQ⟩ := h
  obtain ⟨hG, hJ⟩ := hR
  have g1 := g_bank hG
  refine yr1_ok (Rt := Q) (wc := (wcL [(67, k_isPlace), (15, k_measures)])) (stp := []) hcm hcl [] 57 ?_
  show (170 = 170 ∧ (rq_isPlace x st ∧ (∀ (r2 : Int), en_isPlace x st r2 → ((r2 = (0 : Int) → Q (some (.inl (-1))) st) ∧ (¬ (r2 = (0 : Int)) → (170 = 170 ∧ (rq_isPlace y st ∧ (∀ (r3 : Int), en_isPlace y st r3 → ((¬ r3 = (0 : Int) → ((0 ≤ (0 : Int) ∧ (0 : Int) < 22) ∧ (170 = 170 ∧ (rq_measures (st 200 (0 : Int).toNat) st ∧ (∀ (s4 : zS), en_measures (st 200 (0 : Int).toNat) st s4 → ((-2147483648 ≤ (8 : Int) * x ∧ (8 : Int) * x ≤ 2147483647) ∧ ((-2147483648 ≤ ((8 : Int) * x) + y ∧ ((8 : Int) * x) + y ≤ 2147483647) ∧ ((0 ≤ ((8 : Int) * x) + y ∧ ((8 : Int) * x) + y < 64) ∧ (((100000000 : Int) ≤ s4 209 (((8 : Int) * x) + y : Int).toNat → Q (some (.inl (-1))) s4) ∧ (¬ ((100000000 : Int) ≤ s4 209 (((8 : Int) * x) + y : Int).toNat) → ((-2147483648 ≤ (8 : Int) * x ∧ (8 : Int) * x ≤ 2147483647) ∧ ((-2147483648 ≤ ((8 : Int) * x) + y ∧ ((8 : Int) * x) + y ≤ 2147483647) ∧ ((0 ≤ ((8 : Int) * x) + y ∧ ((8 : Int) * x) + y < 64) ∧ Q (some (.inl (s4 209 (((8 : Int) * x) + y : Int).toNat))) s4))))))))))))) ∧ (¬ (¬ r3 = (0 : Int)) → Q (some (.inl (-1))) st))))))))))
  refine ⟨rfl, hG, fun r2 q2 => ?_⟩
  have b2 := q2
  change (r2 = 0 ∨ r2 = 1) ∧ (r2 = 1 ↔ 0 ≤ x ∧ x < st 172 (st 170 13 : Int).toNat) at b2
  have g5 := g_places hG (st 170 13 : Int).toNat
  refine ⟨fun h6 => ?_, fun h6 => ?_⟩
  · exact hQ _ _ ⟨hG, hJ, rfl, (zV0_rf _)⟩
  · refine ⟨rfl, hG, fun r3 q3 => ?_⟩
    have b3 := q3
    change (r3 = 0 ∨ r3 = 1) ∧ (r3 = 1 ↔ 0 ≤ y ∧ y < st 172 (st 170 13 : Int).toNat) at b3
    refine ⟨fun h7 => ?_, fun h7 => ?_⟩
    · have g8 := g_shutOf hG (0 : Int).toNat
      refine ⟨by omega, ?_⟩
      refine ⟨rfl, hG, fun s4 q4 => ?_⟩
      obtain ⟨gs4, fs4, w4⟩ := q4
      change FWs (eg st (st 200 (0 : Int).toNat)) (wgt st) (s4 209) 8 at w4
      refine ⟨by omega, ?_⟩
      refine ⟨by omega, ?_⟩
      have g9 := g_distance gs4 (((8 : Int) * x) + y : Int).toNat
      refine ⟨by omega, ?_⟩
      refine ⟨fun h10 => ?_, fun h10 => ?_⟩
      · exact hQ _ _ ⟨gs4, (zJ_fr rfl fs4 hJ), (fs4 170 1 rfl rfl), (zV0_tr (zV0_rf _) (zV0_fr rfl fs4))⟩
      · refine ⟨by omega, ?_⟩
        refine ⟨by omega, ?_⟩
        refine ⟨by omega, ?_⟩
        exact hQ _ _ ⟨gs4, (zJ_fr rfl fs4 hJ), (fs4 170 1 rfl rfl), (zV0_tr (zV0_rf _) (zV0_fr rfl fs4))⟩
    · exact hQ _ _ ⟨hG, hJ, rfl, (zV0_rf _)⟩
theorem k_way_m (hTb : aTb zSh rx_tb cl) {D : Nat} (hD : 3 ≤ D) : ∀ as st (Q Q' : zQ), (∀ r st', Q r st' → Q' r st') → k_way 126 as st Q → cl D 126 as st Q' := by
  intro as st Q Q' hQ h
  unfold k_way at h
  split at h
  · obtain ⟨rfl, h⟩ := h
    exact c_way hTb hD (ct_way_m hQ h)
  · exact h.elim
set_option maxHeartbeats 40000000 in
set_option maxRecDepth 100000 in
theorem c_thing (hTb : aTb zSh rx_tb cl) {D : Nat} (hD : 2 ≤ D) {k x : Int} {st : zS} {Q : zQ} (h : ct_thing k x st Q) : cl D 127 [.inr (.inr (.inl 170)), .inl k, .inl x] st Q := by
  obtain ⟨d, rfl⟩ : ∃ d, D = d + 1 := ⟨D - 1, by omega⟩
  refine hTb d 127 (rx_m127, 3, 0, 0, 1) rfl _ _ _ (Nat.le_of_ble_eq_true rfl) (fun K hcl hsf hsl => ?_)
  have hcm : zmo (wcL [(8, k_is)]) (cl d) := (wcL_m (wm_cons (k_is_m hTb (by omega)) wm_nil))
  obtain ⟨hR, hQ⟩ := h
  obtain ⟨hG, hJ⟩ := hR
  have g1 := g_bank hG
  refine yr1_ok (Rt := Q) (wc := (wcL [(8, k_is)])) (stp := []) hcm hcl [] 55 ?_
  show ((0 ≤ st 170 13 ∧ st 170 13 < 2) ∧ ((-2147483648 ≤ (st 181 (st 170 13 : Int).toNat) - 1 ∧ (st 181 (st 170 13 : Int).toNat) - 1 ≤ 2147483647) ∧ (∀ (r2 : Int), en_is k (0) ((st 181 (st 170 13 : Int).toNat) - 1) st r2 → ((¬ r2 = (0 : Int) → ((¬ x = (0 : Int) → ((¬ x = (1 : Int) → Q (some (.inl (-1))) st) ∧ (¬ (¬ x = (1 : Int)) → ((-2147483648 ≤ (8 : Int) * (st 170 13) ∧ (8 : Int) * (st 170 13) ≤ 2147483647) ∧ ((-2147483648 ≤ ((8 : Int) * (st 170 13)) + k ∧ ((8 : Int) * (st 170 13)) + k ≤ 2147483647) ∧ ((0 ≤ ((8 : Int) * (st 170 13)) + k ∧ ((8 : Int) * (st 170 13)) + k < 16) ∧ Q (some (.inl (st 183 (((8 : Int) * (st 170 13)) + k : Int).toNat))) st)))))) ∧ (¬ (¬ x = (0 : Int)) → ((0 ≤ k ∧ k < 176) ∧ Q (some (.inl (st 201 (k : Int).toNat))) st)))) ∧ (¬ (¬ r2 = (0 : Int)) → Q (some (.inl (-1))) st)))))
  have g3 := g_things hG (st 170 13 : Int).toNat
  refine ⟨by omega, ?_⟩
  refine ⟨by omega, ?_⟩
  refine fun r2 q2 => ?_
  have b2 := q2
  change (r2 = 0 ∨ r2 = 1) ∧ (r2 = 1 ↔ (0) ≤ k ∧ k ≤ ((st 181 (st 170 13 : Int).toNat) - 1)) at b2
  refine ⟨fun h4 => ?_, fun h4 => ?_⟩
  · refine ⟨fun h5 => ?_, fun h5 => ?_⟩
    · refine ⟨fun h6 => ?_, fun h6 => ?_⟩
      · exact hQ _ _ ⟨hG, hJ, rfl, (zV0_rf _)⟩
      · refine ⟨by omega, ?_⟩
        refine ⟨by omega, ?_⟩
        have g7 := g_pullOf hG (((8 : Int) * (st 170 13)) + k : Int).toNat
        refine ⟨by omega, ?_⟩
        exact hQ _ _ ⟨hG, hJ, rfl, (zV0_rf _)⟩
    · have g8 := g_thingAt hG (k : Int).toNat
      refine ⟨by omega, ?_⟩
      exact hQ _ _ ⟨hG, hJ, rfl, (zV0_rf _)⟩
  · exact hQ _ _ ⟨hG, hJ, rfl, (zV0_rf _)⟩
theorem k_thing_m (hTb : aTb zSh rx_tb cl) {D : Nat} (hD : 2 ≤ D) : ∀ as st (Q Q' : zQ), (∀ r st', Q r st' → Q' r st') → k_thing 127 as st Q → cl D 127 as st Q' := by
  intro as st Q Q' hQ h
  unfold k_thing at h
  split at h
  · obtain ⟨rfl, h⟩ := h
    exact c_thing hTb hD (ct_thing_m hQ h)
  · exact h.elim
set_option maxHeartbeats 40000000 in
set_option maxRecDepth 100000 in
theorem c_step (hTb : aTb zSh rx_tb cl) {D : Nat} (hD : 2 ≤ D) {k x : Int} {st : zS} {Q : zQ} (h : ct_step k x st Q) : cl D 128 [.inr (.inr (.inl 170)), .inl k, .inl x] st Q := by
  obtain ⟨d, rfl⟩ : ∃ d, D = d + 1 := ⟨D - 1, by omega⟩
  refine hTb d 128 (rx_m128, 3, 0, 0, 1) rfl _ _ _ (Nat.le_of_ble_eq_true rfl) (fun K hcl hsf hsl => ?_)
  have hcm : zmo (wcL [(8, k_is)]) (cl d) := (wcL_m (wm_cons (k_is_m hTb (by omega)) wm_nil))
  obtain ⟨hR, hQ⟩ := h
  obtain ⟨hG, hJ⟩ := hR
  refine yr1_ok (Rt := Q) (wc := (wcL [(8, k_is)])) (stp := []) hcm hcl [] 49 ?_
  show ((0 ≤ (0 : Int) ∧ (0 : Int) < 22) ∧ ((-2147483648 ≤ (st 202 (0 : Int).toNat) - 1 ∧ (st 202 (0 : Int).toNat) - 1 ≤ 2147483647) ∧ (∀ (r1 : Int), en_is k (0) ((st 202 (0 : Int).toNat) - 1) st r1 → ((¬ r1 = (0 : Int) → ((¬ x = (0 : Int) → ((¬ x = (1 : Int) → Q (some (.inl (-1))) st) ∧ (¬ (¬ x = (1 : Int)) → ((0 ≤ k ∧ k < 660) ∧ Q (some (.inl (st 204 (k : Int).toNat))) st)))) ∧ (¬ (¬ x = (0 : Int)) → ((0 ≤ k ∧ k < 660) ∧ Q (some (.inl (st 203 (k : Int).toNat))) st)))) ∧ (¬ (¬ r1 = (0 : Int)) → Q (some (.inl (-1))) st)))))
  have g2 := g_stepMany hG (0 : Int).toNat
  refine ⟨by omega, ?_⟩
  refine ⟨by omega, ?_⟩
  refine fun r1 q1 => ?_
  have b1 := q1
  change (r1 = 0 ∨ r1 = 1) ∧ (r1 = 1 ↔ (0) ≤ k ∧ k ≤ ((st 202 (0 : Int).toNat) - 1)) at b1
  refine ⟨fun h3 => ?_, fun h3 => ?_⟩
  · refine ⟨fun h4 => ?_, fun h4 => ?_⟩
    · refine ⟨fun h5 => ?_, fun h5 => ?_⟩
      · exact hQ _ _ ⟨hG, hJ, rfl, (zV0_rf _)⟩
      · have g6 := g_stepMinutes hG (k : Int).toNat
        refine ⟨by omega, ?_⟩
        exact hQ _ _ ⟨hG, hJ, rfl, (zV0_rf _)⟩
    · have g7 := g_stepPlace hG (k : Int).toNat
      refine ⟨by omega, ?_⟩
      exact hQ _ _ ⟨hG, hJ, rfl, (zV0_rf _)⟩
  · exact hQ _ _ ⟨hG, hJ, rfl, (zV0_rf _)⟩
theorem k_step_m (hTb : aTb zSh rx_tb cl) {D : Nat} (hD : 2 ≤ D) : ∀ as st (Q Q' : zQ), (∀ r st', Q r st' → Q' r st') → k_step 128 as st Q → cl D 128 as st Q' := by
  intro as st Q Q' hQ h
  unfold k_step at h
  split at h
  · obtain ⟨rfl, h⟩ := h
    exact c_step hTb hD (ct_step_m hQ h)
  · exact h.elim
set_option maxHeartbeats 40000000 in
set_option maxRecDepth 100000 in
theorem c_filled (hTb : aTb zSh rx_tb cl) {D : Nat} (hD : 3 ≤ D) {n : Int} {st : zS} {Q : zQ} (h : ct_filled n st Q) : cl D 50 [.inr (.inr (.inl 170)), .inl n] st Q := by
  obtain ⟨d, rfl⟩ : ∃ d, D = d + 1 := ⟨D - 1, by omega⟩
  refine hTb d 50 (rx_m50, 2, 0, 0, 1) rfl _ _ _ (Nat.le_of_ble_eq_true rfl) (fun K hcl hsf hsl => ?_)
  have hcm : zmo (wcL [(8, k_is), (35, k_fills), (53, k_cut)]) (cl d) := (wcL_m (wm_cons (k_is_m hTb (by omega)) (wm_cons (k_fills_m hTb (by omega)) (wm_cons (k_cut_m hTb (by omega)) wm_nil))))
  obtain ⟨hR, hQ⟩ := h
  obtain ⟨hG, hJ⟩ := hR
  refine yr1_ok (Rt := Q) (wc := (wcL [(8, k_is), (35, k_fills), (53, k_cut)])) (stp := []) hcm hcl [] 32 ?_
  show (∀ (r1 : Int), en_is n (1) (20) st r1 → ((r1 = (0 : Int) → Q (some (.inl (-1))) st) ∧ (¬ (r1 = (0 : Int)) → (170 = 170 ∧ (rq_fills n st ∧ (∀ (r2 : Int) (s2 : zS), en_fills n st r2 s2 → (∀ (r3 : Int), Q (some (.inl r3)) s2)))))))
  refine fun r1 q1 => ?_
  have b1 := q1
  change (r1 = 0 ∨ r1 = 1) ∧ (r1 = 1 ↔ (1) ≤ n ∧ n ≤ (20)) at b1
  refine ⟨fun h4 => ?_, fun h4 => ?_⟩
  · exact hQ _ _ ⟨hG, hJ, rfl, (zV0_rf _)⟩
  · refine ⟨rfl, ⟨hG, (show 1 ≤ n ∧ n ≤ 20 from by omega)⟩, fun r2 s2 q2 => ?_⟩
    obtain ⟨gs2, fs2, e2, fz2, fa2⟩ := q2
    change -9223372036854775808 ≤ r2 ∧ r2 ≤ 9223372036854775807 at e2
    change FL0 s2 (npl s2) r2 at fz2
    change ¬ r2 = 0 → FLA s2 n 0 at fa2
    refine fun r3 => ?_
    exact hQ _ _ ⟨gs2, (zJ_fr rfl fs2 hJ), (fs2 170 1 rfl rfl), (zV0_tr (zV0_rf _) (zV0_fr rfl fs2))⟩
theorem k_filled_m (hTb : aTb zSh rx_tb cl) {D : Nat} (hD : 3 ≤ D) : ∀ as st (Q Q' : zQ), (∀ r st', Q r st' → Q' r st') → k_filled 50 as st Q → cl D 50 as st Q' := by
  intro as st Q Q' hQ h
  unfold k_filled at h
  split at h
  · obtain ⟨rfl, h⟩ := h
    exact c_filled hTb hD (ct_filled_m hQ h)
  · exact h.elim
set_option maxHeartbeats 40000000 in
set_option maxRecDepth 100000 in
theorem c_kept (hTb : aTb zSh rx_tb cl) {D : Nat} (hD : 2 ≤ D) {k x : Int} {st : zS} {Q : zQ} (h : ct_kept k x st Q) : cl D 136 [.inr (.inr (.inl 170)), .inl k, .inl x] st Q := by
  obtain ⟨d, rfl⟩ : ∃ d, D = d + 1 := ⟨D - 1, by omega⟩
  refine hTb d 136 (rx_m136, 3, 0, 0, 1) rfl _ _ _ (Nat.le_of_ble_eq_true rfl) (fun K hcl hsf hsl => ?_)
  have hcm : zmo (wcL [(8, k_is)]) (cl d) := (wcL_m (wm_cons (k_is_m hTb (by omega)) wm_nil))
  obtain ⟨hR, hQ⟩ := h
  obtain ⟨hG, hJ⟩ := hR
  refine yr1_ok (Rt := Q) (wc := (wcL [(8, k_is)])) (stp := []) hcm hcl [] 46 ?_
  show ((0 ≤ (0 : Int) ∧ (0 : Int) < 22) ∧ ((-2147483648 ≤ (st 205 (0 : Int).toNat) - 1 ∧ (st 205 (0 : Int).toNat) - 1 ≤ 2147483647) ∧ (∀ (r1 : Int), en_is k (0) ((st 205 (0 : Int).toNat) - 1) st r1 → ((r1 = (0 : Int) → Q (some (.inl (-1))) st) ∧ (¬ (r1 = (0 : Int)) → (∀ (r2 : Int), en_is x (0) (2) st r2 → ((r2 = (0 : Int) → Q (some (.inl (-1))) st) ∧ (¬ (r2 = (0 : Int)) → ((-2147483648 ≤ (3 : Int) * k ∧ (3 : Int) * k ≤ 2147483647) ∧ ((-2147483648 ≤ ((3 : Int) * k) + x ∧ ((3 : Int) * k) + x ≤ 2147483647) ∧ ((0 ≤ ((3 : Int) * k) + x ∧ ((3 : Int) * k) + x < 2640) ∧ Q (some (.inl (st 206 (((3 : Int) * k) + x : Int).toNat))) st)))))))))))
  have g3 := g_keptMany hG (0 : Int).toNat
  refine ⟨by omega, ?_⟩
  refine ⟨by omega, ?_⟩
  refine fun r1 q1 => ?_
  have b1 := q1
  change (r1 = 0 ∨ r1 = 1) ∧ (r1 = 1 ↔ (0) ≤ k ∧ k ≤ ((st 205 (0 : Int).toNat) - 1)) at b1
  refine ⟨fun h4 => ?_, fun h4 => ?_⟩
  · exact hQ _ _ ⟨hG, hJ, rfl, (zV0_rf _)⟩
  · refine fun r2 q2 => ?_
    have b2 := q2
    change (r2 = 0 ∨ r2 = 1) ∧ (r2 = 1 ↔ (0) ≤ x ∧ x ≤ (2)) at b2
    refine ⟨fun h5 => ?_, fun h5 => ?_⟩
    · exact hQ _ _ ⟨hG, hJ, rfl, (zV0_rf _)⟩
    · refine ⟨by omega, ?_⟩
      refine ⟨by omega, ?_⟩
      have g6 := g_keptRow hG (((3 : Int) * k) + x : Int).toNat
      refine ⟨by omega, ?_⟩
      exact hQ _ _ ⟨hG, hJ, rfl, (zV0_rf _)⟩
theorem k_kept_m (hTb : aTb zSh rx_tb cl) {D : Nat} (hD : 2 ≤ D) : ∀ as st (Q Q' : zQ), (∀ r st', Q r st' → Q' r st') → k_kept 136 as st Q → cl D 136 as st Q' := by
  intro as st Q Q' hQ h
  unfold k_kept at h
  split at h
  · obtain ⟨rfl, h⟩ := h
    exact c_kept hTb hD (ct_kept_m hQ h)
  · exact h.elim
set_option maxHeartbeats 40000000 in
set_option maxRecDepth 100000 in
theorem c_octet (hTb : aTb zSh rx_tb cl) {D : Nat} (hD : 2 ≤ D) {k : Int} {st : zS} {Q : zQ} (h : ct_octet k st Q) : cl D 137 [.inr (.inr (.inl 170)), .inl k] st Q := by
  obtain ⟨d, rfl⟩ : ∃ d, D = d + 1 := ⟨D - 1, by omega⟩
  refine hTb d 137 (rx_m137, 2, 0, 0, 1) rfl _ _ _ (Nat.le_of_ble_eq_true rfl) (fun K hcl hsf hsl => ?_)
  have hcm : zmo (wcL [(8, k_is)]) (cl d) := (wcL_m (wm_cons (k_is_m hTb (by omega)) wm_nil))
  obtain ⟨hR, hQ⟩ := h
  obtain ⟨hG, hJ⟩ := hR
  have g1 := g_outs hG
  refine yr1_ok (Rt := Q) (wc := (wcL [(8, k_is)])) (stp := []) hcm hcl [] 35 ?_
  show ((-2147483648 ≤ (st 170 77) - 1 ∧ (st 170 77) - 1 ≤ 2147483647) ∧ (∀ (r2 : Int), en_is k (0) ((st 170 77) - 1) st r2 → ((r2 = (0 : Int) → Q (some (.inl (-1))) st) ∧ (¬ (r2 = (0 : Int)) → ((0 ≤ k ∧ k < 100) ∧ Q (some (.inl (st 220 (k : Int).toNat))) st)))))
  refine ⟨by omega, ?_⟩
  refine fun r2 q2 => ?_
  have b2 := q2
  change (r2 = 0 ∨ r2 = 1) ∧ (r2 = 1 ↔ (0) ≤ k ∧ k ≤ ((st 170 77) - 1)) at b2
  refine ⟨fun h3 => ?_, fun h3 => ?_⟩
  · exact hQ _ _ ⟨hG, hJ, rfl, (zV0_rf _)⟩
  · have g4 := g_out hG (k : Int).toNat
    refine ⟨by omega, ?_⟩
    exact hQ _ _ ⟨hG, hJ, rfl, (zV0_rf _)⟩
theorem k_octet_m (hTb : aTb zSh rx_tb cl) {D : Nat} (hD : 2 ≤ D) : ∀ as st (Q Q' : zQ), (∀ r st', Q r st' → Q' r st') → k_octet 137 as st Q → cl D 137 as st Q' := by
  intro as st Q Q' hQ h
  unfold k_octet at h
  split at h
  · obtain ⟨rfl, h⟩ := h
    exact c_octet hTb hD (ct_octet_m hQ h)
  · exact h.elim
set_option maxHeartbeats 40000000 in
set_option maxRecDepth 100000 in
theorem c_status (hTb : aTb zSh rx_tb cl) {D : Nat} (hD : 2 ≤ D) {x : Int} {st : zS} {Q : zQ} (h : ct_status x st Q) : cl D 68 [.inr (.inr (.inl 170)), .inl x] st Q := by
  obtain ⟨d, rfl⟩ : ∃ d, D = d + 1 := ⟨D - 1, by omega⟩
  refine hTb d 68 (rx_m68, 2, 0, 0, 1) rfl _ _ _ (Nat.le_of_ble_eq_true rfl) (fun K hcl hsf hsl => ?_)
  have hcm : zmo (wcL [(8, k_is)]) (cl d) := (wcL_m (wm_cons (k_is_m hTb (by omega)) wm_nil))
  obtain ⟨hR, hQ⟩ := h
  obtain ⟨hG, hJ⟩ := hR
  refine yr1_ok (Rt := Q) (wc := (wcL [(8, k_is)])) (stp := []) hcm hcl [] 32 ?_
  show (∀ (r1 : Int), en_is x (0) (5) st r1 → ((r1 = (0 : Int) → Q (some (.inl (-1))) st) ∧ (¬ (r1 = (0 : Int)) → ((0 ≤ x ∧ x < 6) ∧ Q (some (.inl (st 198 (x : Int).toNat))) st))))
  refine fun r1 q1 => ?_
  have b1 := q1
  change (r1 = 0 ∨ r1 = 1) ∧ (r1 = 1 ↔ (0) ≤ x ∧ x ≤ (5)) at b1
  refine ⟨fun h2 => ?_, fun h2 => ?_⟩
  · exact hQ _ _ ⟨hG, hJ, rfl, (zV0_rf _)⟩
  · have g3 := g_refused hG (x : Int).toNat
    refine ⟨by omega, ?_⟩
    exact hQ _ _ ⟨hG, hJ, rfl, (zV0_rf _)⟩
theorem k_status_m (hTb : aTb zSh rx_tb cl) {D : Nat} (hD : 2 ≤ D) : ∀ as st (Q Q' : zQ), (∀ r st', Q r st' → Q' r st') → k_status 68 as st Q → cl D 68 as st Q' := by
  intro as st Q Q' hQ h
  unfold k_status at h
  split at h
  · obtain ⟨rfl, h⟩ := h
    exact c_status hTb hD (ct_status_m hQ h)
  · exact h.elim
set_option maxHeartbeats 40000000 in
set_option maxRecDepth 100000 in
theorem c_seed (hTb : aTb zSh rx_tb cl) {D : Nat} (hD : 2 ≤ D) {x : Int} {st : zS} {Q : zQ} (h : ct_seed x st Q) : cl D 135 [.inr (.inr (.inl 170)), .inl x] st Q := by
  obtain ⟨d, rfl⟩ : ∃ d, D = d + 1 := ⟨D - 1, by omega⟩
  refine hTb d 135 (rx_m135, 2, 0, 0, 2) rfl _ _ _ (Nat.le_of_ble_eq_true rfl) (fun K hcl hsf hsl => ?_)
  have hcm : zmo (wcL [(58, k_refuses)]) (cl d) := (wcL_m (wm_cons (k_refuses_m hTb (by omega)) wm_nil))
  obtain ⟨hR, hQ⟩ := h
  obtain ⟨hG, hJ, rx⟩ := hR
  change -2147483648 ≤ x ∧ x ≤ 2147483647 at rx
  refine yr1_ok (Rt := Q) (wc := (wcL [(58, k_refuses)])) (stp := []) hcm hcl [] 36 ?_
  show (((0 : Int) ≤ x → ((1 = (0 : Int) ∨ 1 = (1 : Int)) ∧ Q (some (.inl 1)) (zup st 170 58 x))) ∧ (¬ ((0 : Int) ≤ x) → (170 = 170 ∧ (rq_refuses (5) st ∧ (∀ (r1 : Int) (s1 : zS), en_refuses (5) st r1 s1 → ((r1 < (0 : Int) → ((0 = (0 : Int) ∨ 0 = (1 : Int)) ∧ Q (some (.inl 0)) s1)) ∧ (¬ (r1 < (0 : Int)) → ((1 = (0 : Int) ∨ 1 = (1 : Int)) ∧ Q (some (.inl 1)) s1))))))))
  refine ⟨fun h2 => ?_, fun h2 => ?_⟩
  · refine ⟨by omega, ?_⟩
    exact hQ _ _ ⟨(gInv_up hG (p_seeds (by omega))), (zJ_up rfl hJ), rfl, (zV0_up (zV0_rf _) (by first | decide | rfl)), (show (0 ≤ x → (1 : Int) = 1) ∧ (x < 0 → (1 : Int) = 0) from by omega)⟩
  · refine ⟨rfl, ⟨hG, (show 0 ≤ (5) ∧ (5) ≤ 5 from by omega)⟩, fun r1 s1 q1 => ?_⟩
    obtain ⟨gs1, fs1, e1⟩ := q1
    change r1 = -1 at e1
    refine ⟨fun h3 => ?_, fun h3 => ?_⟩
    · refine ⟨by omega, ?_⟩
      exact hQ _ _ ⟨gs1, (zJ_fr rfl fs1 hJ), (fs1 170 1 rfl rfl), (zV0_tr (zV0_rf _) (zV0_fr rfl fs1)), (show (0 ≤ x → (0 : Int) = 1) ∧ (x < 0 → (0 : Int) = 0) from by omega)⟩
    · refine ⟨by omega, ?_⟩
      exact hQ _ _ ⟨gs1, (zJ_fr rfl fs1 hJ), (fs1 170 1 rfl rfl), (zV0_tr (zV0_rf _) (zV0_fr rfl fs1)), (show (0 ≤ x → (1 : Int) = 1) ∧ (x < 0 → (1 : Int) = 0) from by omega)⟩
theorem k_seed_m (hTb : aTb zSh rx_tb cl) {D : Nat} (hD : 2 ≤ D) : ∀ as st (Q Q' : zQ), (∀ r st', Q r st' → Q' r st') → k_seed 135 as st Q → cl D 135 as st Q' := by
  intro as st Q Q' hQ h
  unfold k_seed at h
  split at h
  · obtain ⟨rfl, h⟩ := h
    exact c_seed hTb hD (ct_seed_m hQ h)
  · exact h.elim
set_option maxHeartbeats 40000000 in
set_option maxRecDepth 100000 in
theorem c_asked (hTb : aTb zSh rx_tb cl) {D : Nat} (hD : 3 ≤ D) {n x : Int} {st : zS} {Q : zQ} (h : ct_asked n x st Q) : cl D 48 [.inr (.inr (.inl 170)), .inl n, .inl x] st Q := by
  obtain ⟨d, rfl⟩ : ∃ d, D = d + 1 := ⟨D - 1, by omega⟩
  refine hTb d 48 (rx_m48, 12, 0, 0, 1) rfl _ _ _ (Nat.le_of_ble_eq_true rfl) (fun K hcl hsf hsl => ?_)
  have hcm : zmo (wcL [(8, k_is), (35, k_fills), (53, k_cut)]) (cl d) := (wcL_m (wm_cons (k_is_m hTb (by omega)) (wm_cons (k_fills_m hTb (by omega)) (wm_cons (k_cut_m hTb (by omega)) wm_nil))))
  obtain ⟨hR, hQ⟩ := h
  obtain ⟨hG, hJ⟩ := hR
  have lo : ∀ (u : Nat) (i : Int) (le : Int) (be : Int) (s_lo : zS), gInv zgt s_lo ∧ zJ s_lo ∧ s_lo 170 1 = st 170 1 ∧ zV0 st s_lo ∧ (0 ≤ i ∧ i ≤ n ∧ n ≤ 20) → (n - i).toNat = u → K (rx_find rx_m48 39) [(6, .inl i), (4, .inr (.inl le)), (3, .inl be), (0, .inr (.inr (.inl 170))), (1, .inl n), (2, .inl x)] [] s_lo := by
    intro u_lo
    induction u_lo using Nat.strongRecOn with
    | _ u_lo ih_lo =>
      intro i le be s_lo hi hu_lo
      obtain ⟨gI_lo, jI_lo, tI_lo, vI_lo, i_lo⟩ := hi
      have g1 := g_bank gI_lo
      have li : ∀ (u : Nat) (p : Int) (mo : Int), (0 ≤ p ∧ p ≤ s_lo 172 (s_lo 170 13 : Int).toNat ∧ 0 ≤ i ∧ i < n) → (s_lo 172 (s_lo 170 13 : Int).toNat - p).toNat = u → K (rx_find rx_m48 51) [(9, .inl p), (7, .inr (.inl mo)), (6, .inl i), (4, .inr (.inl le)), (3, .inl be), (0, .inr (.inr (.inl 170))), (1, .inl n), (2, .inl x)] [] s_lo := by
        intro u_li
        induction u_li using Nat.strongRecOn with
        | _ u_li ih_li =>
          intro p mo hi hu_li
          have i_li := hi
          have g2 := g_bank gI_lo
          have g3 := g_places gI_lo (s_lo 170 13 : Int).toNat
          refine yr1_ok (Rt := Q) (wc := (wcL [(8, k_is), (35, k_fills), (53, k_cut)])) (stp := [39, 51]) hcm hcl [91] 107 ?_
          show ((0 ≤ s_lo 170 13 ∧ s_lo 170 13 < 2) ∧ ((s_lo 172 (s_lo 170 13 : Int).toNat ≤ p → ((be = ((-1) : Int) → ((-2147483648 ≤ i + 1 ∧ i + 1 ≤ 2147483647) ∧ K (rx_find rx_m48 39) [(6, .inl (i + 1)), (3, .inl i), (4, .inr (.inl mo)), (9, .inl p), (7, .inr (.inl mo)), (0, .inr (.inr (.inl 170))), (1, .inl n), (2, .inl x)] [] s_lo)) ∧ (¬ (be = ((-1) : Int)) → (∀ (w4 : Int), (mo < le ∧ w4 = -1 ∨ mo = le ∧ w4 = 0 ∨ le < mo ∧ w4 = 1) → ((w4 < (0 : Int) → ((-2147483648 ≤ i + 1 ∧ i + 1 ≤ 2147483647) ∧ K (rx_find rx_m48 39) [(6, .inl (i + 1)), (3, .inl i), (4, .inr (.inl mo)), (9, .inl p), (7, .inr (.inl mo)), (0, .inr (.inr (.inl 170))), (1, .inl n), (2, .inl x)] [] s_lo)) ∧ (¬ (w4 < (0 : Int)) → ((-2147483648 ≤ i + 1 ∧ i + 1 ≤ 2147483647) ∧ K (rx_find rx_m48 39) [(6, .inl (i + 1)), (9, .inl p), (7, .inr (.inl mo)), (4, .inr (.inl le)), (3, .inl be), (0, .inr (.inr (.inl 170))), (1, .inl n), (2, .inl x)] [] s_lo))))))) ∧ (¬ (s_lo 172 (s_lo 170 13 : Int).toNat ≤ p) → ((-2147483648 ≤ (8 : Int) * i ∧ (8 : Int) * i ≤ 2147483647) ∧ ((-2147483648 ≤ ((8 : Int) * i) + p ∧ ((8 : Int) * i) + p ≤ 2147483647) ∧ ((0 ≤ ((8 : Int) * i) + p ∧ ((8 : Int) * i) + p < 160) ∧ ((-2147483648 ≤ (8 : Int) * i ∧ (8 : Int) * i ≤ 2147483647) ∧ ((-2147483648 ≤ ((8 : Int) * i) + p ∧ ((8 : Int) * i) + p ≤ 2147483647) ∧ ((0 ≤ ((8 : Int) * i) + p ∧ ((8 : Int) * i) + p < 160) ∧ (∀ (w5 : Int), (zx ((s_lo 219 (((8 : Int) * i) + p : Int).toNat) * (s_lo 218 (((8 : Int) * i) + p : Int).toNat)) < mo ∧ w5 = -1 ∨ zx ((s_lo 219 (((8 : Int) * i) + p : Int).toNat) * (s_lo 218 (((8 : Int) * i) + p : Int).toNat)) = mo ∧ w5 = 0 ∨ mo < zx ((s_lo 219 (((8 : Int) * i) + p : Int).toNat) * (s_lo 218 (((8 : Int) * i) + p : Int).toNat)) ∧ w5 = 1) → ((w5 ≤ (0 : Int) → ((-2147483648 ≤ p + 1 ∧ p + 1 ≤ 2147483647) ∧ K (rx_find rx_m48 51) [(9, .inl (p + 1)), (7, .inr (.inl mo)), (10, .inr (.inl (zx ((s_lo 219 (((8 : Int) * i) + p : Int).toNat) * (s_lo 218 (((8 : Int) * i) + p : Int).toNat))))), (6, .inl i), (4, .inr (.inl le)), (3, .inl be), (0, .inr (.inr (.inl 170))), (1, .inl n), (2, .inl x)] [] s_lo)) ∧ (¬ (w5 ≤ (0 : Int)) → ((-2147483648 ≤ p + 1 ∧ p + 1 ≤ 2147483647) ∧ K (rx_find rx_m48 51) [(9, .inl (p + 1)), (7, .inr (.inl (zx ((s_lo 219 (((8 : Int) * i) + p : Int).toNat) * (s_lo 218 (((8 : Int) * i) + p : Int).toNat))))), (10, .inr (.inl (zx ((s_lo 219 (((8 : Int) * i) + p : Int).toNat) * (s_lo 218 (((8 : Int) * i) + p : Int).toNat))))), (6, .inl i), (4, .inr (.inl le)), (3, .inl be), (0, .inr (.inr (.inl 170))), (1, .inl n), (2, .inl x)] [] s_lo)))))))))))))
          refine ⟨by omega, ?_⟩
          refine ⟨fun h6 => ?_, fun h6 => ?_⟩
          · refine ⟨fun h7 => ?_, fun h7 => ?_⟩
            · refine ⟨by omega, ?_⟩
              exact hsl _ _ _ _ _ (sb_cons (.head _) (sb_cons (.tail _ (.tail _ (.head _))) (sb_cons (.tail _ (.head _)) (sb_cons (.tail _ (.tail _ (.tail _ (.tail _ (.tail _ (.head _)))))) (sb_cons (.tail _ (.tail _ (.tail _ (.tail _ (.tail _ (.tail _ (.head _))))))) (sb_cons (.tail _ (.tail _ (.tail _ (.tail _ (.tail _ (.tail _ (.tail _ (.head _)))))))) sb_nil)))))) (ih_lo _ (show (n - (i + 1) : Int).toNat < u_lo from by omega) (i + 1) mo i s_lo ⟨gI_lo, jI_lo, tI_lo, vI_lo, (show 0 ≤ (i + 1) ∧ (i + 1) ≤ n ∧ n ≤ 20 from by omega)⟩ rfl)
            · intro w4 hw4
              refine ⟨fun h8 => ?_, fun h8 => ?_⟩
              · refine ⟨by omega, ?_⟩
                exact hsl _ _ _ _ _ (sb_cons (.head _) (sb_cons (.tail _ (.tail _ (.head _))) (sb_cons (.tail _ (.head _)) (sb_cons (.tail _ (.tail _ (.tail _ (.tail _ (.tail _ (.head _)))))) (sb_cons (.tail _ (.tail _ (.tail _ (.tail _ (.tail _ (.tail _ (.head _))))))) (sb_cons (.tail _ (.tail _ (.tail _ (.tail _ (.tail _ (.tail _ (.tail _ (.head _)))))))) sb_nil)))))) (ih_lo _ (show (n - (i + 1) : Int).toNat < u_lo from by omega) (i + 1) mo i s_lo ⟨gI_lo, jI_lo, tI_lo, vI_lo, (show 0 ≤ (i + 1) ∧ (i + 1) ≤ n ∧ n ≤ 20 from by omega)⟩ rfl)
              · refine ⟨by omega, ?_⟩
                exact hsl _ _ _ _ _ (sb_cons (.head _) (sb_cons (.tail _ (.tail _ (.tail _ (.head _)))) (sb_cons (.tail _ (.tail _ (.tail _ (.tail _ (.head _))))) (sb_cons (.tail _ (.tail _ (.tail _ (.tail _ (.tail _ (.head _)))))) (sb_cons (.tail _ (.tail _ (.tail _ (.tail _ (.tail _ (.tail _ (.head _))))))) (sb_cons (.tail _ (.tail _ (.tail _ (.tail _ (.tail _ (.tail _ (.tail _ (.head _)))))))) sb_nil)))))) (ih_lo _ (show (n - (i + 1) : Int).toNat < u_lo from by omega) (i + 1) le be s_lo ⟨gI_lo, jI_lo, tI_lo, vI_lo, (show 0 ≤ (i + 1) ∧ (i + 1) ≤ n ∧ n ≤ 20 from by omega)⟩ rfl)
          · refine ⟨by omega, ?_⟩
            refine ⟨by omega, ?_⟩
            have g9 := g_upTo gI_lo (((8 : Int) * i) + p : Int).toNat
            refine ⟨by omega, ?_⟩
            refine ⟨by omega, ?_⟩
            refine ⟨by omega, ?_⟩
            have g10 := g_onFrom gI_lo (((8 : Int) * i) + p : Int).toNat
            refine ⟨by omega, ?_⟩
            intro w5 hw5
            refine ⟨fun h11 => ?_, fun h11 => ?_⟩
            · refine ⟨by omega, ?_⟩
              exact hsl _ _ _ _ _ (sb_cons (.head _) (sb_cons (.tail _ (.head _)) (sb_cons (.tail _ (.tail _ (.tail _ (.head _)))) (sb_cons (.tail _ (.tail _ (.tail _ (.tail _ (.head _))))) (sb_cons (.tail _ (.tail _ (.tail _ (.tail _ (.tail _ (.head _)))))) (sb_cons (.tail _ (.tail _ (.tail _ (.tail _ (.tail _ (.tail _ (.head _))))))) (sb_cons (.tail _ (.tail _ (.tail _ (.tail _ (.tail _ (.tail _ (.tail _ (.head _)))))))) (sb_cons (.tail _ (.tail _ (.tail _ (.tail _ (.tail _ (.tail _ (.tail _ (.tail _ (.head _))))))))) sb_nil)))))))) (ih_li _ (show (s_lo 172 (s_lo 170 13 : Int).toNat - (p + 1) : Int).toNat < u_li from by omega) (p + 1) mo (show 0 ≤ (p + 1) ∧ (p + 1) ≤ s_lo 172 (s_lo 170 13 : Int).toNat ∧ 0 ≤ i ∧ i < n from by omega) rfl)
            · refine ⟨by omega, ?_⟩
              exact hsl _ _ _ _ _ (sb_cons (.head _) (sb_cons (.tail _ (.head _)) (sb_cons (.tail _ (.tail _ (.tail _ (.head _)))) (sb_cons (.tail _ (.tail _ (.tail _ (.tail _ (.head _))))) (sb_cons (.tail _ (.tail _ (.tail _ (.tail _ (.tail _ (.head _)))))) (sb_cons (.tail _ (.tail _ (.tail _ (.tail _ (.tail _ (.tail _ (.head _))))))) (sb_cons (.tail _ (.tail _ (.tail _ (.tail _ (.tail _ (.tail _ (.tail _ (.head _)))))))) (sb_cons (.tail _ (.tail _ (.tail _ (.tail _ (.tail _ (.tail _ (.tail _ (.tail _ (.head _))))))))) sb_nil)))))))) (ih_li _ (show (s_lo 172 (s_lo 170 13 : Int).toNat - (p + 1) : Int).toNat < u_li from by omega) (p + 1) (zx ((s_lo 219 (((8 : Int) * i) + p : Int).toNat) * (s_lo 218 (((8 : Int) * i) + p : Int).toNat))) (show 0 ≤ (p + 1) ∧ (p + 1) ≤ s_lo 172 (s_lo 170 13 : Int).toNat ∧ 0 ≤ i ∧ i < n from by omega) rfl)
      refine yr1_ok (Rt := Q) (wc := (wcL [(8, k_is), (35, k_fills), (53, k_cut)])) (stp := [39, 51]) hcm hcl [91] 107 ?_
      show ((n ≤ i → ((¬ x = (0 : Int) → (∀ (r12 : Int), Q (some (.inl r12)) s_lo)) ∧ (¬ (¬ x = (0 : Int)) → Q (some (.inl be)) s_lo))) ∧ (¬ (n ≤ i) → K (rx_find rx_m48 51) [(9, .inl 0), (7, .inr (.inl 0)), (6, .inl i), (4, .inr (.inl le)), (3, .inl be), (0, .inr (.inr (.inl 170))), (1, .inl n), (2, .inl x)] [] s_lo))
      refine ⟨fun h13 => ?_, fun h13 => ?_⟩
      · refine ⟨fun h14 => ?_, fun h14 => ?_⟩
        · refine fun r12 => ?_
          exact hQ _ _ ⟨gI_lo, jI_lo, tI_lo, vI_lo⟩
        · exact hQ _ _ ⟨gI_lo, jI_lo, tI_lo, vI_lo⟩
      · have g15 := g_places gI_lo (s_lo 170 13 : Int).toNat
        exact li _ 0 0 (show 0 ≤ (0 : Int) ∧ (0 : Int) ≤ s_lo 172 (s_lo 170 13 : Int).toNat ∧ 0 ≤ i ∧ i < n from by omega) rfl
  refine yr1_ok (Rt := Q) (wc := (wcL [(8, k_is), (35, k_fills), (53, k_cut)])) (stp := [39, 51]) hcm hcl [91] 107 ?_
  show (∀ (r16 : Int), en_is n (1) (20) st r16 → ((r16 = (0 : Int) → Q (some (.inl (-1))) st) ∧ (¬ (r16 = (0 : Int)) → (∀ (r17 : Int), en_is x (0) (1) st r17 → ((r17 = (0 : Int) → Q (some (.inl (-1))) st) ∧ (¬ (r17 = (0 : Int)) → (170 = 170 ∧ (rq_fills n st ∧ (∀ (r18 : Int) (s18 : zS), en_fills n st r18 s18 → (∀ (w19 : Int), (r18 < 0 ∧ w19 = -1 ∨ r18 = 0 ∧ w19 = 0 ∨ 0 < r18 ∧ w19 = 1) → ((¬ w19 = (0 : Int) → K (rx_find rx_m48 39) [(6, .inl 0), (4, .inr (.inl 0)), (3, .inl (-1)), (0, .inr (.inr (.inl 170))), (1, .inl n), (2, .inl x)] [] s18) ∧ (¬ (¬ w19 = (0 : Int)) → Q (some (.inl (-1))) s18))))))))))))
  refine fun r16 q16 => ?_
  have b16 := q16
  change (r16 = 0 ∨ r16 = 1) ∧ (r16 = 1 ↔ (1) ≤ n ∧ n ≤ (20)) at b16
  refine ⟨fun h20 => ?_, fun h20 => ?_⟩
  · exact hQ _ _ ⟨hG, hJ, rfl, (zV0_rf _)⟩
  · refine fun r17 q17 => ?_
    have b17 := q17
    change (r17 = 0 ∨ r17 = 1) ∧ (r17 = 1 ↔ (0) ≤ x ∧ x ≤ (1)) at b17
    refine ⟨fun h21 => ?_, fun h21 => ?_⟩
    · exact hQ _ _ ⟨hG, hJ, rfl, (zV0_rf _)⟩
    · refine ⟨rfl, ⟨hG, (show 1 ≤ n ∧ n ≤ 20 from by omega)⟩, fun r18 s18 q18 => ?_⟩
      obtain ⟨gs18, fs18, e18, fz18, fa18⟩ := q18
      change -9223372036854775808 ≤ r18 ∧ r18 ≤ 9223372036854775807 at e18
      change FL0 s18 (npl s18) r18 at fz18
      change ¬ r18 = 0 → FLA s18 n 0 at fa18
      intro w19 hw19
      refine ⟨fun h22 => ?_, fun h22 => ?_⟩
      · exact lo _ 0 0 (-1) s18 ⟨gs18, (zJ_fr rfl fs18 hJ), (fs18 170 1 rfl rfl), (zV0_tr (zV0_rf _) (zV0_fr rfl fs18)), (show 0 ≤ (0 : Int) ∧ (0 : Int) ≤ n ∧ n ≤ 20 from by omega)⟩ rfl
      · exact hQ _ _ ⟨gs18, (zJ_fr rfl fs18 hJ), (fs18 170 1 rfl rfl), (zV0_tr (zV0_rf _) (zV0_fr rfl fs18))⟩
theorem k_asked_m (hTb : aTb zSh rx_tb cl) {D : Nat} (hD : 3 ≤ D) : ∀ as st (Q Q' : zQ), (∀ r st', Q r st' → Q' r st') → k_asked 48 as st Q → cl D 48 as st Q' := by
  intro as st Q Q' hQ h
  unfold k_asked at h
  split at h
  · obtain ⟨rfl, h⟩ := h
    exact c_asked hTb hD (ct_asked_m hQ h)
  · exact h.elim
end R7n
