/-! the reference's deep invariant -/
/-- the street between two places of the town told -/
def zad (st : zS) (x y : Int) : Int := st 177 (64 * st 170 13 + 8 * x + y).toNat
def jS (st : zS) : Prop := ∀ x y : Int, 0 ≤ x → x < 8 → 0 ≤ y → y < 8 → 0 < zad st x y → y < st 172 (st 170 13).toNat ∧ 1 ≤ st 176 (14 * st 170 13 + zad st x y - 1).toNat ∧ ¬ x = y
/-- a slot's steps go along streets -/
def jgd (st : zS) (v : Int) : Prop := ∀ k : Int, 0 < k → k < st 202 v.toNat → 0 < zad st (st 203 (30 * v + k - 1).toNat) (st 203 (30 * v + k).toNat)
def jG (st : zS) : Prop := jgd st 0 ∧ ∀ k : Int, 0 ≤ k → k < st 170 57 → jgd st (2 + (st 170 56 + k) % 20)
def jdl (s : Int) : Int := if s ≤ 30 then 1 else if s = 43 then 0 else if s = 44 then -2 else -1
def jnd (s : Int) : Int := if s ≤ 30 then 0 else if s = 43 then 1 else if s = 44 then 3 else 2
/-- how deep the stack is behind n codes -/
noncomputable def jdp (st : zS) (c : Int) (n : Nat) : Int := Nat.rec 0 (fun n ih => ih + jdl (st 188 (c + (n : Int)).toNat)) n
def jcg (st : zS) (c e : Int) : Prop := ∀ n : Nat, c + (n : Int) < e → (0 ≤ st 188 (c + (n : Int)).toNat ∧ (st 188 (c + (n : Int)).toNat ≤ 9 ∨ 30 ≤ st 188 (c + (n : Int)).toNat) ∧ st 188 (c + (n : Int)).toNat ≤ 44) ∧ jnd (st 188 (c + (n : Int)).toNat) ≤ jdp st c n ∧ jdp st c n ≤ 400
def jC (st : zS) : Prop := ∀ w : Int, 0 ≤ w → w ≤ 1 → ¬ st 186 (2 * st 170 13 + w).toNat = -1 → jcg st (1600 * st 170 13 + st 186 (2 * st 170 13 + w).toNat) (1600 * st 170 13 + st 187 (2 * st 170 13 + w).toNat)
def zJ (st : zS) : Prop := jS st ∧ jG st ∧ jC st
def jcell (c i : Nat) : Bool := cond (Nat.beq c 170) (Nat.beq i 13 || (Nat.beq i 56 || Nat.beq i 57)) (Nat.beq c 172 || (Nat.beq c 176 || (Nat.beq c 177 || (Nat.beq c 186 || (Nat.beq c 187 || (Nat.beq c 188 || (Nat.beq c 202 || Nat.beq c 203)))))))
def zrest (st : zS) : zS := fun c i => cond (jcell c i) (st c i) 0
theorem zrest_eq {s st : zS} (h : ∀ c i, jcell c i = true → s c i = st c i) : zrest s = zrest st := by
  funext c i
  unfold zrest
  cases e : jcell c i with
  | true => exact h c i e
  | false => rfl
theorem jS_r (st : zS) : jS (zrest st) ↔ jS st := Iff.rfl
theorem jgd_r (st : zS) (v : Int) : jgd (zrest st) v ↔ jgd st v := Iff.rfl
theorem jG_r (st : zS) : jG (zrest st) ↔ jG st := Iff.rfl
theorem jC_r (st : zS) : jC (zrest st) ↔ jC st := Iff.rfl
theorem zJ_of {s st : zS} (h : ∀ c i, jcell c i = true → s c i = st c i) (hJ : zJ st) : zJ s := by
  have e := zrest_eq h
  have h1 : zJ (zrest st) := hJ
  rw [← e] at h1
  exact h1
theorem jgd_of {s st : zS} (h : ∀ c i, jcell c i = true → s c i = st c i) {v : Int} (hJ : jgd st v) : jgd s v := by
  have e := zrest_eq h
  have h1 : jgd (zrest st) v := hJ
  rw [← e] at h1
  exact h1
theorem zJ_up {st : zS} {c i : Nat} {z : Int} (hc : jcell c i = false) (hJ : zJ st) : zJ (zup st c i z) := by
  refine zJ_of (fun c' i' e => ?_) hJ
  refine zup_ne _ _ (fun q => ?_)
  rw [q.1, q.2, hc] at e
  cases e
theorem jgd_up {st : zS} {c i : Nat} {z v : Int} (hc : jcell c i = false) (hJ : jgd st v) : jgd (zup st c i z) v := by
  refine jgd_of (fun c' i' e => ?_) hJ
  refine zup_ne _ _ (fun q => ?_)
  rw [q.1, q.2, hc] at e
  cases e
/-- both -/
def zI (st : zS) : Prop := gInv zgt st ∧ zJ st
theorem zI_up {st : zS} {c i : Nat} {z : Int} (h : zI st) (hc : jcell c i = false) (hz : gok zgt c i z) : zI (zup st c i z) := ⟨gInv_up h.1 hz, zJ_up hc h.2⟩
theorem gof {st : zS} {c i : Nat} {lo hi : Int} (h : ∃ b ∈ ([(lo, hi)] : List aB), b.1 ≤ st c i ∧ st c i ≤ b.2) : lo ≤ st c i ∧ st c i ≤ hi := by
  obtain ⟨b, hb, hz⟩ := h
  rcases List.mem_singleton.mp hb with rfl
  exact hz
theorem g_tape {st : zS} (h : gInv zgt st) (i : Nat) : (0 : Int) ≤ st 171 i ∧ st 171 i ≤ 255 := h 171 i
theorem p_tape {i : Nat} {z : Int} (h : (0 : Int) ≤ z ∧ z ≤ 255) : gok zgt 171 i z := h
theorem g_taped {st : zS} (h : gInv zgt st) : (0 : Int) ≤ st 170 1 ∧ st 170 1 ≤ 1600 := gof (lo := 0) (hi := 1600) (h 170 1)
theorem p_taped {z : Int} (h : (0 : Int) ≤ z ∧ z ≤ 1600) : gok zgt 170 1 z := ⟨(.ofNat 0, .ofNat 1600), List.mem_singleton.mpr rfl, h.1, h.2⟩
theorem g_size {st : zS} (h : gInv zgt st) : (0 : Int) ≤ st 170 2 ∧ st 170 2 ≤ 1600 := gof (lo := 0) (hi := 1600) (h 170 2)
theorem p_size {z : Int} (h : (0 : Int) ≤ z ∧ z ≤ 1600) : gok zgt 170 2 z := ⟨(.ofNat 0, .ofNat 1600), List.mem_singleton.mpr rfl, h.1, h.2⟩
theorem g_sign {st : zS} (h : gInv zgt st) : (0 : Int) ≤ st 170 3 ∧ st 170 3 ≤ 3 := gof (lo := 0) (hi := 3) (h 170 3)
theorem p_sign {z : Int} (h : (0 : Int) ≤ z ∧ z ≤ 3) : gok zgt 170 3 z := ⟨(.ofNat 0, .ofNat 3), List.mem_singleton.mpr rfl, h.1, h.2⟩
theorem g_signAt {st : zS} (h : gInv zgt st) : (0 : Int) ≤ st 170 4 ∧ st 170 4 ≤ 1600 := gof (lo := 0) (hi := 1600) (h 170 4)
theorem p_signAt {z : Int} (h : (0 : Int) ≤ z ∧ z ≤ 1600) : gok zgt 170 4 z := ⟨(.ofNat 0, .ofNat 1600), List.mem_singleton.mpr rfl, h.1, h.2⟩
theorem g_signEnd {st : zS} (h : gInv zgt st) : (0 : Int) ≤ st 170 5 ∧ st 170 5 ≤ 1600 := gof (lo := 0) (hi := 1600) (h 170 5)
theorem p_signEnd {z : Int} (h : (0 : Int) ≤ z ∧ z ≤ 1600) : gok zgt 170 5 z := ⟨(.ofNat 0, .ofNat 1600), List.mem_singleton.mpr rfl, h.1, h.2⟩
theorem g_value {st : zS} (h : gInv zgt st) : (-2147483648 : Int) ≤ st 170 6 ∧ st 170 6 ≤ 2147483647 := gof (lo := -2147483648) (hi := 2147483647) (h 170 6)
theorem p_value {z : Int} (h : (-2147483648 : Int) ≤ z ∧ z ≤ 2147483647) : gok zgt 170 6 z := ⟨(.negSucc 2147483647, .ofNat 2147483647), List.mem_singleton.mpr rfl, h.1, h.2⟩
theorem g_word {st : zS} (h : gInv zgt st) : (-9223372036854775808 : Int) ≤ st 170 7 ∧ st 170 7 ≤ 9223372036854775807 := gof (lo := -9223372036854775808) (hi := 9223372036854775807) (h 170 7)
theorem p_word {z : Int} (h : (-9223372036854775808 : Int) ≤ z ∧ z ≤ 9223372036854775807) : gok zgt 170 7 z := ⟨(.negSucc 9223372036854775807, .ofNat 9223372036854775807), List.mem_singleton.mpr rfl, h.1, h.2⟩
theorem g_faultKind {st : zS} (h : gInv zgt st) : (0 : Int) ≤ st 170 8 ∧ st 170 8 ≤ 6 := gof (lo := 0) (hi := 6) (h 170 8)
theorem p_faultKind {z : Int} (h : (0 : Int) ≤ z ∧ z ≤ 6) : gok zgt 170 8 z := ⟨(.ofNat 0, .ofNat 6), List.mem_singleton.mpr rfl, h.1, h.2⟩
theorem g_faultPlace {st : zS} (h : gInv zgt st) : (-2147483648 : Int) ≤ st 170 9 ∧ st 170 9 ≤ 2147483647 := gof (lo := -2147483648) (hi := 2147483647) (h 170 9)
theorem p_faultPlace {z : Int} (h : (-2147483648 : Int) ≤ z ∧ z ≤ 2147483647) : gok zgt 170 9 z := ⟨(.negSucc 2147483647, .ofNat 2147483647), List.mem_singleton.mpr rfl, h.1, h.2⟩
theorem g_toldKind {st : zS} (h : gInv zgt st) : (-2147483648 : Int) ≤ st 170 10 ∧ st 170 10 ≤ 2147483647 := gof (lo := -2147483648) (hi := 2147483647) (h 170 10)
theorem p_toldKind {z : Int} (h : (-2147483648 : Int) ≤ z ∧ z ≤ 2147483647) : gok zgt 170 10 z := ⟨(.negSucc 2147483647, .ofNat 2147483647), List.mem_singleton.mpr rfl, h.1, h.2⟩
theorem g_toldPlace {st : zS} (h : gInv zgt st) : (-2147483648 : Int) ≤ st 170 11 ∧ st 170 11 ≤ 2147483647 := gof (lo := -2147483648) (hi := 2147483647) (h 170 11)
theorem p_toldPlace {z : Int} (h : (-2147483648 : Int) ≤ z ∧ z ≤ 2147483647) : gok zgt 170 11 z := ⟨(.negSucc 2147483647, .ofNat 2147483647), List.mem_singleton.mpr rfl, h.1, h.2⟩
theorem g_lexAt {st : zS} (h : gInv zgt st) : (-2147483648 : Int) ≤ st 170 12 ∧ st 170 12 ≤ 2147483647 := gof (lo := -2147483648) (hi := 2147483647) (h 170 12)
theorem p_lexAt {z : Int} (h : (-2147483648 : Int) ≤ z ∧ z ≤ 2147483647) : gok zgt 170 12 z := ⟨(.negSucc 2147483647, .ofNat 2147483647), List.mem_singleton.mpr rfl, h.1, h.2⟩
theorem g_bank {st : zS} (h : gInv zgt st) : (0 : Int) ≤ st 170 13 ∧ st 170 13 ≤ 1 := gof (lo := 0) (hi := 1) (h 170 13)
theorem p_bank {z : Int} (h : (0 : Int) ≤ z ∧ z ≤ 1) : gok zgt 170 13 z := ⟨(.ofNat 0, .ofNat 1), List.mem_singleton.mpr rfl, h.1, h.2⟩
theorem g_places {st : zS} (h : gInv zgt st) (i : Nat) : (0 : Int) ≤ st 172 i ∧ st 172 i ≤ 8 := h 172 i
theorem p_places {i : Nat} {z : Int} (h : (0 : Int) ≤ z ∧ z ≤ 8) : gok zgt 172 i z := h
theorem g_streets {st : zS} (h : gInv zgt st) (i : Nat) : (0 : Int) ≤ st 173 i ∧ st 173 i ≤ 14 := h 173 i
theorem p_streets {i : Nat} {z : Int} (h : (0 : Int) ≤ z ∧ z ≤ 14) : gok zgt 173 i z := h
theorem g_fromOf {st : zS} (h : gInv zgt st) (i : Nat) : (-2147483648 : Int) ≤ st 174 i ∧ st 174 i ≤ 2147483647 := h 174 i
theorem p_fromOf {i : Nat} {z : Int} (h : (-2147483648 : Int) ≤ z ∧ z ≤ 2147483647) : gok zgt 174 i z := h
theorem g_toOf {st : zS} (h : gInv zgt st) (i : Nat) : (-2147483648 : Int) ≤ st 175 i ∧ st 175 i ≤ 2147483647 := h 175 i
theorem p_toOf {i : Nat} {z : Int} (h : (-2147483648 : Int) ≤ z ∧ z ≤ 2147483647) : gok zgt 175 i z := h
theorem g_pacesOf {st : zS} (h : gInv zgt st) (i : Nat) : (0 : Int) ≤ st 176 i ∧ st 176 i ≤ 99 := h 176 i
theorem p_pacesOf {i : Nat} {z : Int} (h : (0 : Int) ≤ z ∧ z ≤ 99) : gok zgt 176 i z := h
theorem g_streetAt {st : zS} (h : gInv zgt st) (i : Nat) : (0 : Int) ≤ st 177 i ∧ st 177 i ≤ 14 := h 177 i
theorem p_streetAt {i : Nat} {z : Int} (h : (0 : Int) ≤ z ∧ z ≤ 14) : gok zgt 177 i z := h
theorem g_steps {st : zS} (h : gInv zgt st) (i : Nat) : (0 : Int) ≤ st 178 i ∧ st 178 i ≤ 20 := h 178 i
theorem p_steps {i : Nat} {z : Int} (h : (0 : Int) ≤ z ∧ z ≤ 20) : gok zgt 178 i z := h
theorem g_stepTold {st : zS} (h : gInv zgt st) (i : Nat) : (0 : Int) ≤ st 179 i ∧ st 179 i ≤ 7 := h 179 i
theorem p_stepTold {i : Nat} {z : Int} (h : (0 : Int) ≤ z ∧ z ≤ 7) : gok zgt 179 i z := h
theorem g_minutesTold {st : zS} (h : gInv zgt st) (i : Nat) : (-2147483648 : Int) ≤ st 180 i ∧ st 180 i ≤ 2147483647 := h 180 i
theorem p_minutesTold {i : Nat} {z : Int} (h : (-2147483648 : Int) ≤ z ∧ z ≤ 2147483647) : gok zgt 180 i z := h
theorem g_things {st : zS} (h : gInv zgt st) (i : Nat) : (0 : Int) ≤ st 181 i ∧ st 181 i ≤ 8 := h 181 i
theorem p_things {i : Nat} {z : Int} (h : (0 : Int) ≤ z ∧ z ≤ 8) : gok zgt 181 i z := h
theorem g_thingTold {st : zS} (h : gInv zgt st) (i : Nat) : (-2147483648 : Int) ≤ st 182 i ∧ st 182 i ≤ 2147483647 := h 182 i
theorem p_thingTold {i : Nat} {z : Int} (h : (-2147483648 : Int) ≤ z ∧ z ≤ 2147483647) : gok zgt 182 i z := h
theorem g_pullOf {st : zS} (h : gInv zgt st) (i : Nat) : (-2147483648 : Int) ≤ st 183 i ∧ st 183 i ≤ 2147483647 := h 183 i
theorem p_pullOf {i : Nat} {z : Int} (h : (-2147483648 : Int) ≤ z ∧ z ≤ 2147483647) : gok zgt 183 i z := h
theorem g_heatTold {st : zS} (h : gInv zgt st) (i : Nat) : (-2147483648 : Int) ≤ st 184 i ∧ st 184 i ≤ 2147483647 := h 184 i
theorem p_heatTold {i : Nat} {z : Int} (h : (-2147483648 : Int) ≤ z ∧ z ≤ 2147483647) : gok zgt 184 i z := h
theorem g_hotTold {st : zS} (h : gInv zgt st) (i : Nat) : (-2147483648 : Int) ≤ st 185 i ∧ st 185 i ≤ 2147483647 := h 185 i
theorem p_hotTold {i : Nat} {z : Int} (h : (-2147483648 : Int) ≤ z ∧ z ≤ 2147483647) : gok zgt 185 i z := h
theorem g_sumFrom {st : zS} (h : gInv zgt st) (i : Nat) : (-1 : Int) ≤ st 186 i ∧ st 186 i ≤ 1600 := h 186 i
theorem p_sumFrom {i : Nat} {z : Int} (h : (-1 : Int) ≤ z ∧ z ≤ 1600) : gok zgt 186 i z := h
theorem g_sumBehind {st : zS} (h : gInv zgt st) (i : Nat) : (0 : Int) ≤ st 187 i ∧ st 187 i ≤ 1600 := h 187 i
theorem p_sumBehind {i : Nat} {z : Int} (h : (0 : Int) ≤ z ∧ z ≤ 1600) : gok zgt 187 i z := h
theorem g_codeSort {st : zS} (h : gInv zgt st) (i : Nat) : (-2147483648 : Int) ≤ st 188 i ∧ st 188 i ≤ 2147483647 := h 188 i
theorem p_codeSort {i : Nat} {z : Int} (h : (-2147483648 : Int) ≤ z ∧ z ≤ 2147483647) : gok zgt 188 i z := h
theorem g_codeValue {st : zS} (h : gInv zgt st) (i : Nat) : (-2147483648 : Int) ≤ st 189 i ∧ st 189 i ≤ 2147483647 := h 189 i
theorem p_codeValue {i : Nat} {z : Int} (h : (-2147483648 : Int) ≤ z ∧ z ≤ 2147483647) : gok zgt 189 i z := h
theorem g_placeName {st : zS} (h : gInv zgt st) (i : Nat) : (-9223372036854775808 : Int) ≤ st 190 i ∧ st 190 i ≤ 9223372036854775807 := h 190 i
theorem p_placeName {i : Nat} {z : Int} (h : (-9223372036854775808 : Int) ≤ z ∧ z ≤ 9223372036854775807) : gok zgt 190 i z := h
theorem g_thingName {st : zS} (h : gInv zgt st) (i : Nat) : (-9223372036854775808 : Int) ≤ st 191 i ∧ st 191 i ≤ 9223372036854775807 := h 191 i
theorem p_thingName {i : Nat} {z : Int} (h : (-9223372036854775808 : Int) ≤ z ∧ z ≤ 9223372036854775807) : gok zgt 191 i z := h
theorem g_codes {st : zS} (h : gInv zgt st) : (0 : Int) ≤ st 170 34 ∧ st 170 34 ≤ 1600 := gof (lo := 0) (hi := 1600) (h 170 34)
theorem p_codes {z : Int} (h : (0 : Int) ≤ z ∧ z ≤ 1600) : gok zgt 170 34 z := ⟨(.ofNat 0, .ofNat 1600), List.mem_singleton.mpr rfl, h.1, h.2⟩
theorem g_in {st : zS} (h : gInv zgt st) : (0 : Int) ≤ st 170 35 ∧ st 170 35 ≤ 1 := gof (lo := 0) (hi := 1) (h 170 35)
theorem p_in {z : Int} (h : (0 : Int) ≤ z ∧ z ≤ 1) : gok zgt 170 35 z := ⟨(.ofNat 0, .ofNat 1), List.mem_singleton.mpr rfl, h.1, h.2⟩
theorem g_isClever {st : zS} (h : gInv zgt st) : (0 : Int) ≤ st 170 36 ∧ st 170 36 ≤ 1 := gof (lo := 0) (hi := 1) (h 170 36)
theorem p_isClever {z : Int} (h : (0 : Int) ≤ z ∧ z ≤ 1) : gok zgt 170 36 z := ⟨(.ofNat 0, .ofNat 1), List.mem_singleton.mpr rfl, h.1, h.2⟩
theorem g_frame {st : zS} (h : gInv zgt st) (i : Nat) : (-2147483648 : Int) ≤ st 192 i ∧ st 192 i ≤ 2147483647 := h 192 i
theorem p_frame {i : Nat} {z : Int} (h : (-2147483648 : Int) ≤ z ∧ z ≤ 2147483647) : gok zgt 192 i z := h
theorem g_phase {st : zS} (h : gInv zgt st) (i : Nat) : (-2147483648 : Int) ≤ st 193 i ∧ st 193 i ≤ 2147483647 := h 193 i
theorem p_phase {i : Nat} {z : Int} (h : (-2147483648 : Int) ≤ z ∧ z ≤ 2147483647) : gok zgt 193 i z := h
theorem g_begins {st : zS} (h : gInv zgt st) (i : Nat) : (0 : Int) ≤ st 194 i ∧ st 194 i ≤ 1 := h 194 i
theorem p_begins {i : Nat} {z : Int} (h : (0 : Int) ≤ z ∧ z ≤ 1) : gok zgt 194 i z := h
theorem g_pair {st : zS} (h : gInv zgt st) (i : Nat) : (-2147483648 : Int) ≤ st 195 i ∧ st 195 i ≤ 2147483647 := h 195 i
theorem p_pair {i : Nat} {z : Int} (h : (-2147483648 : Int) ≤ z ∧ z ≤ 2147483647) : gok zgt 195 i z := h
theorem g_base {st : zS} (h : gInv zgt st) (i : Nat) : (-2147483648 : Int) ≤ st 196 i ∧ st 196 i ≤ 2147483647 := h 196 i
theorem p_base {i : Nat} {z : Int} (h : (-2147483648 : Int) ≤ z ∧ z ≤ 2147483647) : gok zgt 196 i z := h
theorem g_deep {st : zS} (h : gInv zgt st) : (-2147483648 : Int) ≤ st 170 42 ∧ st 170 42 ≤ 2147483647 := gof (lo := -2147483648) (hi := 2147483647) (h 170 42)
theorem p_deep {z : Int} (h : (-2147483648 : Int) ≤ z ∧ z ≤ 2147483647) : gok zgt 170 42 z := ⟨(.negSucc 2147483647, .ofNat 2147483647), List.mem_singleton.mpr rfl, h.1, h.2⟩
theorem g_open {st : zS} (h : gInv zgt st) : (-2147483648 : Int) ≤ st 170 43 ∧ st 170 43 ≤ 2147483647 := gof (lo := -2147483648) (hi := 2147483647) (h 170 43)
theorem p_open {z : Int} (h : (-2147483648 : Int) ≤ z ∧ z ≤ 2147483647) : gok zgt 170 43 z := ⟨(.negSucc 2147483647, .ofNat 2147483647), List.mem_singleton.mpr rfl, h.1, h.2⟩
theorem g_ops {st : zS} (h : gInv zgt st) (i : Nat) : (-2147483648 : Int) ≤ st 197 i ∧ st 197 i ≤ 2147483647 := h 197 i
theorem p_ops {i : Nat} {z : Int} (h : (-2147483648 : Int) ≤ z ∧ z ≤ 2147483647) : gok zgt 197 i z := h
theorem g_opMany {st : zS} (h : gInv zgt st) : (-2147483648 : Int) ≤ st 170 45 ∧ st 170 45 ≤ 2147483647 := gof (lo := -2147483648) (hi := 2147483647) (h 170 45)
theorem p_opMany {z : Int} (h : (-2147483648 : Int) ≤ z ∧ z ≤ 2147483647) : gok zgt 170 45 z := ⟨(.negSucc 2147483647, .ofNat 2147483647), List.mem_singleton.mpr rfl, h.1, h.2⟩
theorem g_operand {st : zS} (h : gInv zgt st) : (0 : Int) ≤ st 170 46 ∧ st 170 46 ≤ 1 := gof (lo := 0) (hi := 1) (h 170 46)
theorem p_operand {z : Int} (h : (0 : Int) ≤ z ∧ z ≤ 1) : gok zgt 170 46 z := ⟨(.ofNat 0, .ofNat 1), List.mem_singleton.mpr rfl, h.1, h.2⟩
theorem g_refused {st : zS} (h : gInv zgt st) (i : Nat) : (-2147483648 : Int) ≤ st 198 i ∧ st 198 i ≤ 2147483647 := h 198 i
theorem p_refused {i : Nat} {z : Int} (h : (-2147483648 : Int) ≤ z ∧ z ≤ 2147483647) : gok zgt 198 i z := h
theorem g_yearOf {st : zS} (h : gInv zgt st) (i : Nat) : (-2147483648 : Int) ≤ st 199 i ∧ st 199 i ≤ 2147483647 := h 199 i
theorem p_yearOf {i : Nat} {z : Int} (h : (-2147483648 : Int) ≤ z ∧ z ≤ 2147483647) : gok zgt 199 i z := h
theorem g_shutOf {st : zS} (h : gInv zgt st) (i : Nat) : (-2147483648 : Int) ≤ st 200 i ∧ st 200 i ≤ 2147483647 := h 200 i
theorem p_shutOf {i : Nat} {z : Int} (h : (-2147483648 : Int) ≤ z ∧ z ≤ 2147483647) : gok zgt 200 i z := h
theorem g_thingAt {st : zS} (h : gInv zgt st) (i : Nat) : (-2147483648 : Int) ≤ st 201 i ∧ st 201 i ≤ 2147483647 := h 201 i
theorem p_thingAt {i : Nat} {z : Int} (h : (-2147483648 : Int) ≤ z ∧ z ≤ 2147483647) : gok zgt 201 i z := h
theorem g_stepMany {st : zS} (h : gInv zgt st) (i : Nat) : (0 : Int) ≤ st 202 i ∧ st 202 i ≤ 30 := h 202 i
theorem p_stepMany {i : Nat} {z : Int} (h : (0 : Int) ≤ z ∧ z ≤ 30) : gok zgt 202 i z := h
theorem g_stepPlace {st : zS} (h : gInv zgt st) (i : Nat) : (0 : Int) ≤ st 203 i ∧ st 203 i ≤ 7 := h 203 i
theorem p_stepPlace {i : Nat} {z : Int} (h : (0 : Int) ≤ z ∧ z ≤ 7) : gok zgt 203 i z := h
theorem g_stepMinutes {st : zS} (h : gInv zgt st) (i : Nat) : (-2147483648 : Int) ≤ st 204 i ∧ st 204 i ≤ 2147483647 := h 204 i
theorem p_stepMinutes {i : Nat} {z : Int} (h : (-2147483648 : Int) ≤ z ∧ z ≤ 2147483647) : gok zgt 204 i z := h
theorem g_keptMany {st : zS} (h : gInv zgt st) (i : Nat) : (0 : Int) ≤ st 205 i ∧ st 205 i ≤ 40 := h 205 i
theorem p_keptMany {i : Nat} {z : Int} (h : (0 : Int) ≤ z ∧ z ≤ 40) : gok zgt 205 i z := h
theorem g_keptRow {st : zS} (h : gInv zgt st) (i : Nat) : (-2147483648 : Int) ≤ st 206 i ∧ st 206 i ≤ 2147483647 := h 206 i
theorem p_keptRow {i : Nat} {z : Int} (h : (-2147483648 : Int) ≤ z ∧ z ≤ 2147483647) : gok zgt 206 i z := h
theorem g_undoFirst {st : zS} (h : gInv zgt st) : (0 : Int) ≤ st 170 56 ∧ st 170 56 ≤ 19 := gof (lo := 0) (hi := 19) (h 170 56)
theorem p_undoFirst {z : Int} (h : (0 : Int) ≤ z ∧ z ≤ 19) : gok zgt 170 56 z := ⟨(.ofNat 0, .ofNat 19), List.mem_singleton.mpr rfl, h.1, h.2⟩
theorem g_undos {st : zS} (h : gInv zgt st) : (0 : Int) ≤ st 170 57 ∧ st 170 57 ≤ 20 := gof (lo := 0) (hi := 20) (h 170 57)
theorem p_undos {z : Int} (h : (0 : Int) ≤ z ∧ z ≤ 20) : gok zgt 170 57 z := ⟨(.ofNat 0, .ofNat 20), List.mem_singleton.mpr rfl, h.1, h.2⟩
theorem g_seeds {st : zS} (h : gInv zgt st) : (0 : Int) ≤ st 170 58 ∧ st 170 58 ≤ 2147483647 := gof (lo := 0) (hi := 2147483647) (h 170 58)
theorem p_seeds {z : Int} (h : (0 : Int) ≤ z ∧ z ≤ 2147483647) : gok zgt 170 58 z := ⟨(.ofNat 0, .ofNat 2147483647), List.mem_singleton.mpr rfl, h.1, h.2⟩
theorem g_stack {st : zS} (h : gInv zgt st) (i : Nat) : (-9223372036854775808 : Int) ≤ st 207 i ∧ st 207 i ≤ 9223372036854775807 := h 207 i
theorem p_stack {i : Nat} {z : Int} (h : (-9223372036854775808 : Int) ≤ z ∧ z ≤ 9223372036854775807) : gok zgt 207 i z := h
theorem g_askedOf {st : zS} (h : gInv zgt st) (i : Nat) : (-2147483648 : Int) ≤ st 208 i ∧ st 208 i ≤ 2147483647 := h 208 i
theorem p_askedOf {i : Nat} {z : Int} (h : (-2147483648 : Int) ≤ z ∧ z ≤ 2147483647) : gok zgt 208 i z := h
theorem g_distance {st : zS} (h : gInv zgt st) (i : Nat) : (0 : Int) ≤ st 209 i ∧ st 209 i ≤ 100000000 := h 209 i
theorem p_distance {i : Nat} {z : Int} (h : (0 : Int) ≤ z ∧ z ≤ 100000000) : gok zgt 209 i z := h
theorem g_goMany {st : zS} (h : gInv zgt st) : (0 : Int) ≤ st 170 62 ∧ st 170 62 ≤ 30 := gof (lo := 0) (hi := 30) (h 170 62)
theorem p_goMany {z : Int} (h : (0 : Int) ≤ z ∧ z ≤ 30) : gok zgt 170 62 z := ⟨(.ofNat 0, .ofNat 30), List.mem_singleton.mpr rfl, h.1, h.2⟩
theorem g_goPlace {st : zS} (h : gInv zgt st) (i : Nat) : (0 : Int) ≤ st 210 i ∧ st 210 i ≤ 7 := h 210 i
theorem p_goPlace {i : Nat} {z : Int} (h : (0 : Int) ≤ z ∧ z ≤ 7) : gok zgt 210 i z := h
theorem g_goTold {st : zS} (h : gInv zgt st) (i : Nat) : (-2147483648 : Int) ≤ st 211 i ∧ st 211 i ≤ 2147483647 := h 211 i
theorem p_goTold {i : Nat} {z : Int} (h : (-2147483648 : Int) ≤ z ∧ z ≤ 2147483647) : gok zgt 211 i z := h
theorem g_goStands {st : zS} (h : gInv zgt st) (i : Nat) : (-2147483648 : Int) ≤ st 212 i ∧ st 212 i ≤ 2147483647 := h 212 i
theorem p_goStands {i : Nat} {z : Int} (h : (-2147483648 : Int) ≤ z ∧ z ≤ 2147483647) : gok zgt 212 i z := h
theorem g_goTime {st : zS} (h : gInv zgt st) (i : Nat) : (-2147483648 : Int) ≤ st 213 i ∧ st 213 i ≤ 2147483647 := h 213 i
theorem p_goTime {i : Nat} {z : Int} (h : (-2147483648 : Int) ≤ z ∧ z ≤ 2147483647) : gok zgt 213 i z := h
theorem g_time {st : zS} (h : gInv zgt st) : (-2147483648 : Int) ≤ st 170 67 ∧ st 170 67 ≤ 2147483647 := gof (lo := -2147483648) (hi := 2147483647) (h 170 67)
theorem p_time {z : Int} (h : (-2147483648 : Int) ≤ z ∧ z ≤ 2147483647) : gok zgt 170 67 z := ⟨(.negSucc 2147483647, .ofNat 2147483647), List.mem_singleton.mpr rfl, h.1, h.2⟩
theorem g_wasMany {st : zS} (h : gInv zgt st) : (0 : Int) ≤ st 170 68 ∧ st 170 68 ≤ 30 := gof (lo := 0) (hi := 30) (h 170 68)
theorem p_wasMany {z : Int} (h : (0 : Int) ≤ z ∧ z ≤ 30) : gok zgt 170 68 z := ⟨(.ofNat 0, .ofNat 30), List.mem_singleton.mpr rfl, h.1, h.2⟩
theorem g_wasPlace {st : zS} (h : gInv zgt st) (i : Nat) : (-2147483648 : Int) ≤ st 214 i ∧ st 214 i ≤ 2147483647 := h 214 i
theorem p_wasPlace {i : Nat} {z : Int} (h : (-2147483648 : Int) ≤ z ∧ z ≤ 2147483647) : gok zgt 214 i z := h
theorem g_wasMinutes {st : zS} (h : gInv zgt st) (i : Nat) : (-2147483648 : Int) ≤ st 215 i ∧ st 215 i ≤ 2147483647 := h 215 i
theorem p_wasMinutes {i : Nat} {z : Int} (h : (-2147483648 : Int) ≤ z ∧ z ≤ 2147483647) : gok zgt 215 i z := h
theorem g_rows {st : zS} (h : gInv zgt st) : (0 : Int) ≤ st 170 71 ∧ st 170 71 ≤ 20 := gof (lo := 0) (hi := 20) (h 170 71)
theorem p_rows {z : Int} (h : (0 : Int) ≤ z ∧ z ≤ 20) : gok zgt 170 71 z := ⟨(.ofNat 0, .ofNat 20), List.mem_singleton.mpr rfl, h.1, h.2⟩
theorem g_rowNumber {st : zS} (h : gInv zgt st) (i : Nat) : (-2147483648 : Int) ≤ st 216 i ∧ st 216 i ≤ 2147483647 := h 216 i
theorem p_rowNumber {i : Nat} {z : Int} (h : (-2147483648 : Int) ≤ z ∧ z ≤ 2147483647) : gok zgt 216 i z := h
theorem g_rowPlace {st : zS} (h : gInv zgt st) (i : Nat) : (-2147483648 : Int) ≤ st 217 i ∧ st 217 i ≤ 2147483647 := h 217 i
theorem p_rowPlace {i : Nat} {z : Int} (h : (-2147483648 : Int) ≤ z ∧ z ≤ 2147483647) : gok zgt 217 i z := h
theorem g_onFrom {st : zS} (h : gInv zgt st) (i : Nat) : (-9223372036854775808 : Int) ≤ st 218 i ∧ st 218 i ≤ 9223372036854775807 := h 218 i
theorem p_onFrom {i : Nat} {z : Int} (h : (-9223372036854775808 : Int) ≤ z ∧ z ≤ 9223372036854775807) : gok zgt 218 i z := h
theorem g_upTo {st : zS} (h : gInv zgt st) (i : Nat) : (-9223372036854775808 : Int) ≤ st 219 i ∧ st 219 i ≤ 9223372036854775807 := h 219 i
theorem p_upTo {i : Nat} {z : Int} (h : (-9223372036854775808 : Int) ≤ z ∧ z ≤ 9223372036854775807) : gok zgt 219 i z := h
theorem g_out {st : zS} (h : gInv zgt st) (i : Nat) : (-2147483648 : Int) ≤ st 220 i ∧ st 220 i ≤ 2147483647 := h 220 i
theorem p_out {i : Nat} {z : Int} (h : (-2147483648 : Int) ≤ z ∧ z ≤ 2147483647) : gok zgt 220 i z := h
theorem g_outs {st : zS} (h : gInv zgt st) : (0 : Int) ≤ st 170 77 ∧ st 170 77 ≤ 100 := gof (lo := 0) (hi := 100) (h 170 77)
theorem p_outs {z : Int} (h : (0 : Int) ≤ z ∧ z ≤ 100) : gok zgt 170 77 z := ⟨(.ofNat 0, .ofNat 100), List.mem_singleton.mpr rfl, h.1, h.2⟩
