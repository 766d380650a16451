/-! printed by wip/p4/py/c2.py: the class's reader of sums, town 122 -/
theorem g_f122_0 {st : zS} (h : gInv zgt st) : (-2147483648 : Int) ≤ st 122 0 ∧ st 122 0 ≤ 2147483647 := gof (lo := -2147483648) (hi := 2147483647) (h 122 0)
theorem p_f122_0 {z : Int} (h : (-2147483648 : Int) ≤ z ∧ z ≤ 2147483647) : gok zgt 122 0 z := ⟨(.negSucc 2147483647, .ofNat 2147483647), List.mem_singleton.mpr rfl, h.1, h.2⟩
theorem g_f122_1 {st : zS} (h : gInv zgt st) : (0 : Int) ≤ st 122 1 ∧ st 122 1 ≤ 8 := gof (lo := 0) (hi := 8) (h 122 1)
theorem p_f122_1 {z : Int} (h : (0 : Int) ≤ z ∧ z ≤ 8) : gok zgt 122 1 z := ⟨(.ofNat 0, .ofNat 8), List.mem_singleton.mpr rfl, h.1, h.2⟩
theorem g_f122_3 {st : zS} (h : gInv zgt st) : (0 : Int) ≤ st 122 3 ∧ st 122 3 ≤ 14 := gof (lo := 0) (hi := 14) (h 122 3)
theorem p_f122_3 {z : Int} (h : (0 : Int) ≤ z ∧ z ≤ 14) : gok zgt 122 3 z := ⟨(.ofNat 0, .ofNat 14), List.mem_singleton.mpr rfl, h.1, h.2⟩
theorem g_f122_8 {st : zS} (h : gInv zgt st) : (0 : Int) ≤ st 122 8 ∧ st 122 8 ≤ 8 := gof (lo := 0) (hi := 8) (h 122 8)
theorem p_f122_8 {z : Int} (h : (0 : Int) ≤ z ∧ z ≤ 8) : gok zgt 122 8 z := ⟨(.ofNat 0, .ofNat 8), List.mem_singleton.mpr rfl, h.1, h.2⟩
theorem g_f122_13 {st : zS} (h : gInv zgt st) : (-2147483648 : Int) ≤ st 122 13 ∧ st 122 13 ≤ 2147483647 := gof (lo := -2147483648) (hi := 2147483647) (h 122 13)
theorem p_f122_13 {z : Int} (h : (-2147483648 : Int) ≤ z ∧ z ≤ 2147483647) : gok zgt 122 13 z := ⟨(.negSucc 2147483647, .ofNat 2147483647), List.mem_singleton.mpr rfl, h.1, h.2⟩
theorem g_f122_14 {st : zS} (h : gInv zgt st) : (-2147483648 : Int) ≤ st 122 14 ∧ st 122 14 ≤ 2147483647 := gof (lo := -2147483648) (hi := 2147483647) (h 122 14)
theorem p_f122_14 {z : Int} (h : (-2147483648 : Int) ≤ z ∧ z ≤ 2147483647) : gok zgt 122 14 z := ⟨(.negSucc 2147483647, .ofNat 2147483647), List.mem_singleton.mpr rfl, h.1, h.2⟩
theorem g_f122_16 {st : zS} (h : gInv zgt st) : (0 : Int) ≤ st 122 16 ∧ st 122 16 ≤ 1600 := gof (lo := 0) (hi := 1600) (h 122 16)
theorem p_f122_16 {z : Int} (h : (0 : Int) ≤ z ∧ z ≤ 1600) : gok zgt 122 16 z := ⟨(.ofNat 0, .ofNat 1600), List.mem_singleton.mpr rfl, h.1, h.2⟩
theorem g_f122_17 {st : zS} (h : gInv zgt st) : (-1 : Int) ≤ st 122 17 ∧ st 122 17 ≤ 1600 := gof (lo := -1) (hi := 1600) (h 122 17)
theorem p_f122_17 {z : Int} (h : (-1 : Int) ≤ z ∧ z ≤ 1600) : gok zgt 122 17 z := ⟨(.negSucc 0, .ofNat 1600), List.mem_singleton.mpr rfl, h.1, h.2⟩
theorem g_f122_18 {st : zS} (h : gInv zgt st) : (-1 : Int) ≤ st 122 18 ∧ st 122 18 ≤ 1600 := gof (lo := -1) (hi := 1600) (h 122 18)
theorem p_f122_18 {z : Int} (h : (-1 : Int) ≤ z ∧ z ≤ 1600) : gok zgt 122 18 z := ⟨(.negSucc 0, .ofNat 1600), List.mem_singleton.mpr rfl, h.1, h.2⟩
theorem g_a123 {st : zS} (h : gInv zgt st) (i : Nat) : (-2147483648 : Int) ≤ st 123 i ∧ st 123 i ≤ 2147483647 := h 123 i
theorem p_a123 {i : Nat} {z : Int} (h : (-2147483648 : Int) ≤ z ∧ z ≤ 2147483647) : gok zgt 123 i z := h
theorem g_a124 {st : zS} (h : gInv zgt st) (i : Nat) : (0 : Int) ≤ st 124 i ∧ st 124 i ≤ 7 := h 124 i
theorem p_a124 {i : Nat} {z : Int} (h : (0 : Int) ≤ z ∧ z ≤ 7) : gok zgt 124 i z := h
theorem g_a125 {st : zS} (h : gInv zgt st) (i : Nat) : (0 : Int) ≤ st 125 i ∧ st 125 i ≤ 7 := h 125 i
theorem p_a125 {i : Nat} {z : Int} (h : (0 : Int) ≤ z ∧ z ≤ 7) : gok zgt 125 i z := h
theorem g_a126 {st : zS} (h : gInv zgt st) (i : Nat) : (-2147483648 : Int) ≤ st 126 i ∧ st 126 i ≤ 2147483647 := h 126 i
theorem p_a126 {i : Nat} {z : Int} (h : (-2147483648 : Int) ≤ z ∧ z ≤ 2147483647) : gok zgt 126 i z := h
theorem g_a127 {st : zS} (h : gInv zgt st) (i : Nat) : (-1 : Int) ≤ st 127 i ∧ st 127 i ≤ 13 := h 127 i
theorem p_a127 {i : Nat} {z : Int} (h : (-1 : Int) ≤ z ∧ z ≤ 13) : gok zgt 127 i z := h
theorem g_a128 {st : zS} (h : gInv zgt st) (i : Nat) : (-2147483648 : Int) ≤ st 128 i ∧ st 128 i ≤ 2147483647 := h 128 i
theorem p_a128 {i : Nat} {z : Int} (h : (-2147483648 : Int) ≤ z ∧ z ≤ 2147483647) : gok zgt 128 i z := h
theorem g_a129 {st : zS} (h : gInv zgt st) (i : Nat) : (0 : Int) ≤ st 129 i ∧ st 129 i ≤ 7 := h 129 i
theorem p_a129 {i : Nat} {z : Int} (h : (0 : Int) ≤ z ∧ z ≤ 7) : gok zgt 129 i z := h
theorem g_a130 {st : zS} (h : gInv zgt st) (i : Nat) : (-2147483648 : Int) ≤ st 130 i ∧ st 130 i ≤ 2147483647 := h 130 i
theorem p_a130 {i : Nat} {z : Int} (h : (-2147483648 : Int) ≤ z ∧ z ≤ 2147483647) : gok zgt 130 i z := h
theorem g_f131_2 {st : zS} (h : gInv zgt st) : (0 : Int) ≤ st 131 2 ∧ st 131 2 ≤ 30 := gof (lo := 0) (hi := 30) (h 131 2)
theorem p_f131_2 {z : Int} (h : (0 : Int) ≤ z ∧ z ≤ 30) : gok zgt 131 2 z := ⟨(.ofNat 0, .ofNat 30), List.mem_singleton.mpr rfl, h.1, h.2⟩
theorem g_a132 {st : zS} (h : gInv zgt st) (i : Nat) : (0 : Int) ≤ st 132 i ∧ st 132 i ≤ 7 := h 132 i
theorem p_a132 {i : Nat} {z : Int} (h : (0 : Int) ≤ z ∧ z ≤ 7) : gok zgt 132 i z := h
theorem g_a133 {st : zS} (h : gInv zgt st) (i : Nat) : (-2147483648 : Int) ≤ st 133 i ∧ st 133 i ≤ 2147483647 := h 133 i
theorem p_a133 {i : Nat} {z : Int} (h : (-2147483648 : Int) ≤ z ∧ z ≤ 2147483647) : gok zgt 133 i z := h
theorem g_a134 {st : zS} (h : gInv zgt st) (i : Nat) : (-2147483648 : Int) ≤ st 134 i ∧ st 134 i ≤ 2147483647 := h 134 i
theorem p_a134 {i : Nat} {z : Int} (h : (-2147483648 : Int) ≤ z ∧ z ≤ 2147483647) : gok zgt 134 i z := h
theorem cenc_num (v : Int) : 65536 * 200 + v = cenc (64 * v) := by
  unfold cenc
  rw [if_pos (show 64 * v % 64 = 0 by omega)]
  omega
theorem cenc_a {v : Int} (h : v = 43 ∨ v = 45) : 65536 * v + 0 = cenc (sop v) := by rcases h with rfl | rfl <;> rfl
theorem cenc_m {v : Int} (h : v = 42 ∨ v = 47 ∨ v = 37) : 65536 * v + 0 = cenc (sop v) := by rcases h with rfl | rfl | rfl <;> rfl
theorem cenc_c {v : Int} (h : v = 60 ∨ v = 61 ∨ v = 62) : 65536 * v + 0 = cenc (sop v) := by rcases h with rfl | rfl | rfl <;> rfl
theorem cenc_t {w : Int} (h : w = 24 ∨ w = 25) : 65536 * w + 0 = cenc (twoS (owv w.toNat)) := by rcases h with rfl | rfl <;> rfl
theorem cenc_f {w : Int} (h : w = 11 ∨ w = 13 ∨ w = 14 ∨ w = 8 ∨ w = 4 ∨ w = 15 ∨ w = 16 ∨ w = 17 ∨ w = 18) : 65536 * 201 + w = cenc (figS (owv w.toNat)) := by rcases h with rfl | rfl | rfl | rfl | rfl | rfl | rfl | rfl | rfl <;> rfl
theorem pkd_bb {t : Int → Int} {s : Int} : ∀ m : Nat, (∀ j : Int, s ≤ j → j < s + (m : Int) → wdi (t j)) → 0 ≤ pkd t s m ∧ pkd t s m < 10 ^ m := by
  intro m
  induction m with
  | zero => intro _; exact ⟨Int.le_refl _, by show (0 : Int) < 1; omega⟩
  | succ m ih =>
    intro h
    have z := ih (fun j a b => h j a (by omega))
    have d := h (s + (m : Int)) (by omega) (by omega)
    unfold wdi at d
    rw [pkd_s, Int.pow_succ]
    omega
theorem TK_num {t : Int → Int} {n p k v s e : Int} (h : TK t n p k v s e) (hk : k = 2) : 0 ≤ v ∧ v ≤ 9999 := by
  obtain ⟨-, h2⟩ := h
  rcases h2 with ⟨a1, a2, a3, a4⟩ | ⟨a1, a2, m, hm, a3⟩ | ⟨a1, a2, m, hm, a3⟩ | ⟨a1, a2, a3, a4, a5, a6⟩
  · omega
  · omega
  · rcases a3 with ⟨b1, b2, b3, b4⟩ | ⟨b1, b2, b3, b4, b5⟩
    · omega
    · have h1 := hm.1
      have z := pkd_bb (t := t) (s := s) (m - s).toNat (fun j c d => by
        have q : wdi (tcc t n j) := hm.2.1 j c (by omega)
        rw [(tcc_di q).2] at q
        exact q)
      have z2 := d10b (l := m - s) (pa := pkd t s (m - s).toNat) ⟨by omega, b2⟩ z.2
      rw [b4]
      omega
  · omega
theorem RDc_num {st : zS} (h : RDc st) (hk : st 149 3 = 3) : 0 ≤ st 149 4 ∧ st 149 4 ≤ 9999 := by
  obtain ⟨-, k, v, e, h1, h2⟩ := h
  have h3 := h2.2
  rcases h3 with ⟨a1, a2, a3⟩ | ⟨a1, a2, x, hx, a3⟩ | ⟨a1, a2, a3, a4⟩ | ⟨a1, a2, a3, a4⟩ | ⟨a1, a2⟩
  · omega
  · rcases a3 with a3 | a3 <;> omega
  · rw [a3]; exact TK_num h1 a1
  · omega
  · omega
theorem two_v {w : Int} (h : w = 24 ∨ w = 25) : owv w.toNat = 7170414 ∨ owv w.toNat = 7168376 := by
  rcases h with rfl | rfl
  · exact Or.inl rfl
  · exact Or.inr rfl
theorem nx_two {st s : zS} {w : Int} (h : RDc st) (ho : cOW st) (hn : NX st s) (hk : st 149 3 = 2) (hv : st 149 4 = w) (hw : w = 24 ∨ w = 25) : tk (ctx st) (st 1 1) (st 149 5) 1 (owv w.toNat) (s 149 5) := by
  have z := (nx_own h ho hn hk).2
  rw [hv] at z
  exact z
theorem nx_sgx {st s : zS} {x : Int} (h : RDc st) (ho : cOW st) (hn : NX st s) (hk : st 149 3 = 4) (hv : st 149 4 = x) : tk (ctx st) (st 1 1) (st 149 5) 3 x (s 149 5) := by
  have z := nx_sig h ho hn hk
  rw [hv] at z
  exact z
def m_cAddCodeA : aM := ([(122, 16)], [134])
def rq_cAddCodeA (w : Int) (a : Int) (st : zS) : Prop := gInv zgt st ∧ ((0 ≤ w ∧ w ≤ 255) ∧ 0 ≤ a ∧ a ≤ 9999) ∧ (st 122 16 ≤ 1599)
def en_cAddCodeA (w : Int) (a : Int) (st : zS) (s1 : zS) : Prop := gInv zgt s1 ∧ aFr m_cAddCodeA st s1 ∧ (s1 122 16 = st 122 16 + 1) ∧ ((s1 134) = up1 (st 134) (st 122 16).toNat (65536 * w + a))
def ct_cAddCodeA (w : Int) (a : Int) (st : zS) (Q : zQ) : Prop := rq_cAddCodeA w a st ∧ (∀ (s1 : zS), en_cAddCodeA w a st s1 → Q none s1)
theorem ct_cAddCodeA_m {w a : Int} {st : zS} {Q Q' : zQ} (hQ : ∀ r st', Q r st' → Q' r st') (h : ct_cAddCodeA w a st Q) : ct_cAddCodeA w a st Q' := ⟨h.1, fun x0 x1 => hQ _ _ (h.2 x0 x1)⟩
def k_cAddCodeA : zCall := fun _ as st Q => match as with
  | [.inr (.inr (.inl z_o)), .inl w, .inl a] => z_o = 122 ∧ ct_cAddCodeA w a st Q
  | _ => False
def m_cFigureA : aM := ([(122, 16), (148, 3), (148, 4), (149, 2), (149, 3), (149, 4), (149, 5), (149, 6)], [134])
def rq_cFigureA (w : Int) (fh : Int) (st : zS) : Prop := gInv zgt st ∧ (RDc st) ∧ (cOW st) ∧ (st 148 1 = 122) ∧ (st 122 16 + 1 ≤ st 149 5) ∧ (st 149 3 = 2 ∧ st 149 4 = w ∧ 0 ≤ w ∧ w < 26 ∧ (fh = 0 ∨ fh = 1))
def en_cFigureA (w : Int) (fh : Int) (st : zS) (r : Int) (s1 : zS) : Prop := gInv zgt s1 ∧ aFr m_cFigureA st s1 ∧ ((r = 1 ∧ fh = 1 ∧ RDc s1 ∧ NX st s1 ∧ s1 122 16 = st 122 16 + 1 ∧ (s1 134) = up1 (st 134) (st 122 16).toNat (65536 * 201 + w)) ∨ (r = 0 ∧ fh = 0))
def ct_cFigureA (w : Int) (fh : Int) (st : zS) (Q : zQ) : Prop := rq_cFigureA w fh st ∧ (∀ (r : Int) (s1 : zS), en_cFigureA w fh st r s1 → Q (some (.inl r)) s1)
theorem ct_cFigureA_m {w fh : Int} {st : zS} {Q Q' : zQ} (hQ : ∀ r st', Q r st' → Q' r st') (h : ct_cFigureA w fh st Q) : ct_cFigureA w fh st Q' := ⟨h.1, fun x0 x1 x2 => hQ _ _ (h.2 x0 x1 x2)⟩
def k_cFigureA : zCall := fun _ as st Q => match as with
  | [.inr (.inr (.inl z_o)), .inl w, .inl fh] => z_o = 148 ∧ ct_cFigureA w fh st Q
  | _ => False
def m_cTestA : aM := ([(122, 16), (148, 3), (148, 4), (149, 2), (149, 3), (149, 4), (149, 5), (149, 6)], [134])
def rq_cTestA (m : Nat) (o : Int) (st : zS) : Prop := gInv zgt st ∧ (RDc st) ∧ (cOW st) ∧ (st 148 1 = 122) ∧ (st 122 16 + 1 ≤ st 149 5) ∧ (8 + 12 * (7 - o) ≤ (m : Int)) ∧ (0 ≤ o ∧ o ≤ 7)
def en_cTestA (m : Nat) (o : Int) (st : zS) (r : Int) (s1 : zS) : Prop := gInv zgt s1 ∧ aFr m_cTestA st s1 ∧ ((r = 1 ∧ ∃ c : List Int, GrS st 5 o (st 149 5) (s1 149 5) c ∧ RDc s1 ∧ CDA (st 122 16) (s1 122 16) (st 134) (s1 134) c) ∨ (r = 0 ∧ FlS st 5 o (st 149 5)))
def ct_cTestA (m : Nat) (o : Int) (st : zS) (Q : zQ) : Prop := rq_cTestA m o st ∧ (∀ (r : Int) (s1 : zS), en_cTestA m o st r s1 → Q (some (.inl r)) s1)
theorem ct_cTestA_m {m : Nat} {o : Int} {st : zS} {Q Q' : zQ} (hQ : ∀ r st', Q r st' → Q' r st') (h : ct_cTestA m o st Q) : ct_cTestA m o st Q' := ⟨h.1, fun x0 x1 x2 => hQ _ _ (h.2 x0 x1 x2)⟩
def k_cTestA (m : Nat) : zCall := fun _ as st Q => match as with
  | [.inr (.inr (.inl z_o)), .inl o] => z_o = 148 ∧ ct_cTestA m o st Q
  | _ => False
def m_cBothA : aM := ([(122, 16), (148, 3), (148, 4), (149, 2), (149, 3), (149, 4), (149, 5), (149, 6)], [134])
def rq_cBothA (m : Nat) (o : Int) (st : zS) : Prop := gInv zgt st ∧ (RDc st) ∧ (cOW st) ∧ (st 148 1 = 122) ∧ (st 122 16 + 1 ≤ st 149 5) ∧ (7 + 12 * (7 - o) ≤ (m : Int)) ∧ (0 ≤ o ∧ o ≤ 7)
def en_cBothA (m : Nat) (o : Int) (st : zS) (r : Int) (s1 : zS) : Prop := gInv zgt s1 ∧ aFr m_cBothA st s1 ∧ ((r = 1 ∧ ∃ c : List Int, GrS st 7 o (st 149 5) (s1 149 5) c ∧ RDc s1 ∧ CDA (st 122 16) (s1 122 16) (st 134) (s1 134) c) ∨ (r = 0 ∧ FlS st 7 o (st 149 5)))
def ct_cBothA (m : Nat) (o : Int) (st : zS) (Q : zQ) : Prop := rq_cBothA m o st ∧ (∀ (r : Int) (s1 : zS), en_cBothA m o st r s1 → Q (some (.inl r)) s1)
theorem ct_cBothA_m {m : Nat} {o : Int} {st : zS} {Q Q' : zQ} (hQ : ∀ r st', Q r st' → Q' r st') (h : ct_cBothA m o st Q) : ct_cBothA m o st Q' := ⟨h.1, fun x0 x1 x2 => hQ _ _ (h.2 x0 x1 x2)⟩
def k_cBothA (m : Nat) : zCall := fun _ as st Q => match as with
  | [.inr (.inr (.inl z_o)), .inl o] => z_o = 148 ∧ ct_cBothA m o st Q
  | _ => False
def m_cFactA : aM := ([(122, 16), (148, 3), (148, 4), (149, 2), (149, 3), (149, 4), (149, 5), (149, 6)], [134])
def rq_cFactA (m : Nat) (o : Int) (st : zS) : Prop := gInv zgt st ∧ (RDc st) ∧ (cOW st) ∧ (st 148 1 = 122) ∧ (st 122 16 + 1 ≤ st 149 5) ∧ (6 + 12 * (7 - o) ≤ (m : Int)) ∧ (0 ≤ o ∧ o ≤ 7)
def en_cFactA (m : Nat) (o : Int) (st : zS) (r : Int) (s1 : zS) : Prop := gInv zgt s1 ∧ aFr m_cFactA st s1 ∧ ((r = 1 ∧ ∃ c : List Int, GrS st 9 o (st 149 5) (s1 149 5) c ∧ RDc s1 ∧ CDA (st 122 16) (s1 122 16) (st 134) (s1 134) c) ∨ (r = 0 ∧ FlS st 9 o (st 149 5)))
def ct_cFactA (m : Nat) (o : Int) (st : zS) (Q : zQ) : Prop := rq_cFactA m o st ∧ (∀ (r : Int) (s1 : zS), en_cFactA m o st r s1 → Q (some (.inl r)) s1)
theorem ct_cFactA_m {m : Nat} {o : Int} {st : zS} {Q Q' : zQ} (hQ : ∀ r st', Q r st' → Q' r st') (h : ct_cFactA m o st Q) : ct_cFactA m o st Q' := ⟨h.1, fun x0 x1 x2 => hQ _ _ (h.2 x0 x1 x2)⟩
def k_cFactA (m : Nat) : zCall := fun _ as st Q => match as with
  | [.inr (.inr (.inl z_o)), .inl o] => z_o = 148 ∧ ct_cFactA m o st Q
  | _ => False
def m_cCompA : aM := ([(122, 16), (148, 3), (148, 4), (149, 2), (149, 3), (149, 4), (149, 5), (149, 6)], [134])
def rq_cCompA (m : Nat) (o : Int) (st : zS) : Prop := gInv zgt st ∧ (RDc st) ∧ (cOW st) ∧ (st 148 1 = 122) ∧ (st 122 16 + 1 ≤ st 149 5) ∧ (5 + 12 * (7 - o) ≤ (m : Int)) ∧ (0 ≤ o ∧ o ≤ 7)
def en_cCompA (m : Nat) (o : Int) (st : zS) (r : Int) (s1 : zS) : Prop := gInv zgt s1 ∧ aFr m_cCompA st s1 ∧ ((r = 1 ∧ ∃ c : List Int, GrS st 10 o (st 149 5) (s1 149 5) c ∧ RDc s1 ∧ CDA (st 122 16) (s1 122 16) (st 134) (s1 134) c) ∨ (r = 0 ∧ FlS st 10 o (st 149 5)))
def ct_cCompA (m : Nat) (o : Int) (st : zS) (Q : zQ) : Prop := rq_cCompA m o st ∧ (∀ (r : Int) (s1 : zS), en_cCompA m o st r s1 → Q (some (.inl r)) s1)
theorem ct_cCompA_m {m : Nat} {o : Int} {st : zS} {Q Q' : zQ} (hQ : ∀ r st', Q r st' → Q' r st') (h : ct_cCompA m o st Q) : ct_cCompA m o st Q' := ⟨h.1, fun x0 x1 x2 => hQ _ _ (h.2 x0 x1 x2)⟩
def k_cCompA (m : Nat) : zCall := fun _ as st Q => match as with
  | [.inr (.inr (.inl z_o)), .inl o] => z_o = 148 ∧ ct_cCompA m o st Q
  | _ => False
def m_cSumA : aM := ([(122, 16), (148, 3), (148, 4), (149, 2), (149, 3), (149, 4), (149, 5), (149, 6)], [134])
def rq_cSumA (m : Nat) (o : Int) (st : zS) : Prop := gInv zgt st ∧ (RDc st) ∧ (cOW st) ∧ (st 148 1 = 122) ∧ (st 122 16 + 1 ≤ st 149 5) ∧ (4 + 12 * (7 - o) ≤ (m : Int)) ∧ (0 ≤ o ∧ o ≤ 7)
def en_cSumA (m : Nat) (o : Int) (st : zS) (r : Int) (s1 : zS) : Prop := gInv zgt s1 ∧ aFr m_cSumA st s1 ∧ ((r = 1 ∧ ∃ c : List Int, GrS st 0 o (st 149 5) (s1 149 5) c ∧ RDc s1 ∧ CDA (st 122 16) (s1 122 16) (st 134) (s1 134) c) ∨ (r = 0 ∧ FlS st 0 o (st 149 5)))
def ct_cSumA (m : Nat) (o : Int) (st : zS) (Q : zQ) : Prop := rq_cSumA m o st ∧ (∀ (r : Int) (s1 : zS), en_cSumA m o st r s1 → Q (some (.inl r)) s1)
theorem ct_cSumA_m {m : Nat} {o : Int} {st : zS} {Q Q' : zQ} (hQ : ∀ r st', Q r st' → Q' r st') (h : ct_cSumA m o st Q) : ct_cSumA m o st Q' := ⟨h.1, fun x0 x1 x2 => hQ _ _ (h.2 x0 x1 x2)⟩
def k_cSumA (m : Nat) : zCall := fun _ as st Q => match as with
  | [.inr (.inr (.inl z_o)), .inl o] => z_o = 148 ∧ ct_cSumA m o st Q
  | _ => False
def m_cProdA : aM := ([(122, 16), (148, 3), (148, 4), (149, 2), (149, 3), (149, 4), (149, 5), (149, 6)], [134])
def rq_cProdA (m : Nat) (o : Int) (st : zS) : Prop := gInv zgt st ∧ (RDc st) ∧ (cOW st) ∧ (st 148 1 = 122) ∧ (st 122 16 + 1 ≤ st 149 5) ∧ (3 + 12 * (7 - o) ≤ (m : Int)) ∧ (0 ≤ o ∧ o ≤ 7)
def en_cProdA (m : Nat) (o : Int) (st : zS) (r : Int) (s1 : zS) : Prop := gInv zgt s1 ∧ aFr m_cProdA st s1 ∧ ((r = 1 ∧ ∃ c : List Int, GrS st 2 o (st 149 5) (s1 149 5) c ∧ RDc s1 ∧ CDA (st 122 16) (s1 122 16) (st 134) (s1 134) c) ∨ (r = 0 ∧ FlS st 2 o (st 149 5)))
def ct_cProdA (m : Nat) (o : Int) (st : zS) (Q : zQ) : Prop := rq_cProdA m o st ∧ (∀ (r : Int) (s1 : zS), en_cProdA m o st r s1 → Q (some (.inl r)) s1)
theorem ct_cProdA_m {m : Nat} {o : Int} {st : zS} {Q Q' : zQ} (hQ : ∀ r st', Q r st' → Q' r st') (h : ct_cProdA m o st Q) : ct_cProdA m o st Q' := ⟨h.1, fun x0 x1 x2 => hQ _ _ (h.2 x0 x1 x2)⟩
def k_cProdA (m : Nat) : zCall := fun _ as st Q => match as with
  | [.inr (.inr (.inl z_o)), .inl o] => z_o = 148 ∧ ct_cProdA m o st Q
  | _ => False
def m_cPartA : aM := ([(122, 16), (148, 3), (148, 4), (149, 2), (149, 3), (149, 4), (149, 5), (149, 6)], [134])
def rq_cPartA (m : Nat) (o : Int) (st : zS) : Prop := gInv zgt st ∧ (RDc st) ∧ (cOW st) ∧ (st 148 1 = 122) ∧ (st 122 16 + 1 ≤ st 149 5) ∧ (2 + 12 * (7 - o) ≤ (m : Int)) ∧ (0 ≤ o ∧ o ≤ 7)
def en_cPartA (m : Nat) (o : Int) (st : zS) (r : Int) (s1 : zS) : Prop := gInv zgt s1 ∧ aFr m_cPartA st s1 ∧ ((r = 1 ∧ ∃ c : List Int, GrS st 4 o (st 149 5) (s1 149 5) c ∧ RDc s1 ∧ CDA (st 122 16) (s1 122 16) (st 134) (s1 134) c) ∨ (r = 0 ∧ FlS st 4 o (st 149 5)))
def ct_cPartA (m : Nat) (o : Int) (st : zS) (Q : zQ) : Prop := rq_cPartA m o st ∧ (∀ (r : Int) (s1 : zS), en_cPartA m o st r s1 → Q (some (.inl r)) s1)
theorem ct_cPartA_m {m : Nat} {o : Int} {st : zS} {Q Q' : zQ} (hQ : ∀ r st', Q r st' → Q' r st') (h : ct_cPartA m o st Q) : ct_cPartA m o st Q' := ⟨h.1, fun x0 x1 x2 => hQ _ _ (h.2 x0 x1 x2)⟩
def k_cPartA (m : Nat) : zCall := fun _ as st Q => match as with
  | [.inr (.inr (.inl z_o)), .inl o] => z_o = 148 ∧ ct_cPartA m o st Q
  | _ => False
def m_cOfTwoA : aM := ([(122, 16), (148, 3), (148, 4), (149, 2), (149, 3), (149, 4), (149, 5), (149, 6)], [134])
def rq_cOfTwoA (m : Nat) (w : Int) (o : Int) (st : zS) : Prop := gInv zgt st ∧ (RDc st) ∧ (cOW st) ∧ (st 148 1 = 122) ∧ (st 122 16 + 1 ≤ st 149 5) ∧ (1 + 12 * (7 - o) ≤ (m : Int)) ∧ (0 ≤ o ∧ o ≤ 7) ∧ (st 149 3 = 2 ∧ st 149 4 = w ∧ (w = 24 ∨ w = 25))
def en_cOfTwoA (m : Nat) (w : Int) (o : Int) (st : zS) (r : Int) (s1 : zS) : Prop := gInv zgt s1 ∧ aFr m_cOfTwoA st s1 ∧ ((r = 1 ∧ ∃ c : List Int, GrS st 4 o (st 149 5) (s1 149 5) c ∧ RDc s1 ∧ CDA (st 122 16) (s1 122 16) (st 134) (s1 134) c) ∨ (r = 0 ∧ FlS st 4 o (st 149 5)))
def ct_cOfTwoA (m : Nat) (w : Int) (o : Int) (st : zS) (Q : zQ) : Prop := rq_cOfTwoA m w o st ∧ (∀ (r : Int) (s1 : zS), en_cOfTwoA m w o st r s1 → Q (some (.inl r)) s1)
theorem ct_cOfTwoA_m {m : Nat} {w o : Int} {st : zS} {Q Q' : zQ} (hQ : ∀ r st', Q r st' → Q' r st') (h : ct_cOfTwoA m w o st Q) : ct_cOfTwoA m w o st Q' := ⟨h.1, fun x0 x1 x2 => hQ _ _ (h.2 x0 x1 x2)⟩
def k_cOfTwoA (m : Nat) : zCall := fun _ as st Q => match as with
  | [.inr (.inr (.inl z_o)), .inl w, .inl o] => z_o = 148 ∧ ct_cOfTwoA m w o st Q
  | _ => False
def m_cIfA : aM := ([(122, 16), (148, 3), (148, 4), (149, 2), (149, 3), (149, 4), (149, 5), (149, 6)], [134])
def rq_cIfA (m : Nat) (o : Int) (st : zS) : Prop := gInv zgt st ∧ (RDc st) ∧ (cOW st) ∧ (st 148 1 = 122) ∧ (st 122 16 + 1 ≤ st 149 5) ∧ (1 + 12 * (7 - o) ≤ (m : Int)) ∧ (0 ≤ o ∧ o ≤ 7) ∧ (st 149 3 = 2 ∧ st 149 4 = 19)
def en_cIfA (m : Nat) (o : Int) (st : zS) (r : Int) (s1 : zS) : Prop := gInv zgt s1 ∧ aFr m_cIfA st s1 ∧ ((r = 1 ∧ ∃ c : List Int, GrS st 4 o (st 149 5) (s1 149 5) c ∧ RDc s1 ∧ CDA (st 122 16) (s1 122 16) (st 134) (s1 134) c) ∨ (r = 0 ∧ FlS st 4 o (st 149 5)))
def ct_cIfA (m : Nat) (o : Int) (st : zS) (Q : zQ) : Prop := rq_cIfA m o st ∧ (∀ (r : Int) (s1 : zS), en_cIfA m o st r s1 → Q (some (.inl r)) s1)
theorem ct_cIfA_m {m : Nat} {o : Int} {st : zS} {Q Q' : zQ} (hQ : ∀ r st', Q r st' → Q' r st') (h : ct_cIfA m o st Q) : ct_cIfA m o st Q' := ⟨h.1, fun x0 x1 x2 => hQ _ _ (h.2 x0 x1 x2)⟩
def k_cIfA (m : Nat) : zCall := fun _ as st Q => match as with
  | [.inr (.inr (.inl z_o)), .inl o] => z_o = 148 ∧ ct_cIfA m o st Q
  | _ => False
def BNDA (cl : Nat → zCall) (m : Nat) : Prop := ∀ d : Nat, m + 20 ≤ d → (∀ as st (Q Q' : zQ), (∀ r st', Q r st' → Q' r st') → k_cTestA m 259 as st Q → cl d 259 as st Q') ∧ (∀ as st (Q Q' : zQ), (∀ r st', Q r st' → Q' r st') → k_cBothA m 260 as st Q → cl d 260 as st Q') ∧ (∀ as st (Q Q' : zQ), (∀ r st', Q r st' → Q' r st') → k_cFactA m 261 as st Q → cl d 261 as st Q') ∧ (∀ as st (Q Q' : zQ), (∀ r st', Q r st' → Q' r st') → k_cCompA m 262 as st Q → cl d 262 as st Q') ∧ (∀ as st (Q Q' : zQ), (∀ r st', Q r st' → Q' r st') → k_cSumA m 253 as st Q → cl d 253 as st Q') ∧ (∀ as st (Q Q' : zQ), (∀ r st', Q r st' → Q' r st') → k_cProdA m 254 as st Q → cl d 254 as st Q') ∧ (∀ as st (Q Q' : zQ), (∀ r st', Q r st' → Q' r st') → k_cPartA m 255 as st Q → cl d 255 as st Q') ∧ (∀ as st (Q Q' : zQ), (∀ r st', Q r st' → Q' r st') → k_cOfTwoA m 257 as st Q → cl d 257 as st Q') ∧ (∀ as st (Q Q' : zQ), (∀ r st', Q r st' → Q' r st') → k_cIfA m 258 as st Q → cl d 258 as st Q')
section R9i
variable {cl : Nat → zCall}
set_option maxHeartbeats 4000000 in
set_option maxRecDepth 100000 in
theorem c_cAddCodeA (hTb : aTb zSh rx_tb cl) {D : Nat} (hD : 2 ≤ D) {w a : Int} {st : zS} {Q : zQ} (h : ct_cAddCodeA w a st Q) : cl D 282 [.inr (.inr (.inl 122)), .inl w, .inl a] st Q := by
  obtain ⟨d, rfl⟩ : ∃ d, D = d + 1 := ⟨D - 1, by omega⟩
  refine hTb d 282 (rx_m282, 3, 0, 0, 0) rfl _ _ _ (Nat.le_of_ble_eq_true rfl) (fun K hcl hsf hsl => ?_)
  have hcm : zmo (wcL [(272, k_cCodeOf)]) (cl d) := (wcL_m (wm_cons (k_cCodeOf_m hTb (by omega)) wm_nil))
  obtain ⟨hR, hQ⟩ := h
  obtain ⟨hG, q, cb⟩ := hR
  change (0 ≤ w ∧ w ≤ 255) ∧ 0 ≤ a ∧ a ≤ 9999 at q
  change st 122 16 ≤ 1599 at cb
  have g1 := g_f122_16 hG
  refine yr1_ok (Rt := Q) (wc := (wcL [(272, k_cCodeOf)])) (stp := []) hcm hcl [] 41 ?_
  show (((1600 : Int) ≤ st 122 16 → Q none st) ∧ (¬ ((1600 : Int) ≤ st 122 16) → (rq_cCodeOf w a st ∧ (∀ (r2 : Int), en_cCodeOf w a st r2 → ((0 ≤ st 122 16 ∧ st 122 16 < 1600) ∧ ((-2147483648 ≤ (st 122 16) + 1 ∧ (st 122 16) + 1 ≤ 2147483647) ∧ Q none (zup (zup st 134 (st 122 16 : Int).toNat r2) 122 16 ((st 122 16) + 1))))))))
  refine ⟨fun h3 => ?_, fun h3 => ?_⟩
  · exact hQ _ ⟨hG, (fr_rf _ _), (show st 122 16 = st 122 16 + 1 from by omega), (show (st 134) = up1 (st 134) (st 122 16).toNat (65536 * w + a) from (by exfalso; omega))⟩
  · refine ⟨(show (0 ≤ w ∧ w ≤ 255) ∧ 0 ≤ a ∧ a ≤ 9999 from by omega), fun r2 q2 => ?_⟩
    have e2 := q2
    change r2 = 65536 * w + a at e2
    refine ⟨by omega, ?_⟩
    refine ⟨by omega, ?_⟩
    exact hQ _ ⟨(gInv_up (gInv_up hG (p_a134 (by omega))) (p_f122_16 (by omega))), (fr_f (fr_a (fr_rf _ _) rfl) rfl), (show ((st 122 16) + 1) = st 122 16 + 1 from by omega), (show (up1 (st 134) (st 122 16 : Int).toNat r2) = up1 (st 134) (st 122 16).toNat (65536 * w + a) from (by rw [← e2]; try rfl))⟩
theorem k_cAddCodeA_m (hTb : aTb zSh rx_tb cl) {D : Nat} (hD : 2 ≤ D) : ∀ as st (Q Q' : zQ), (∀ r st', Q r st' → Q' r st') → k_cAddCodeA 282 as st Q → cl D 282 as st Q' := by
  intro as st Q Q' hQ h
  unfold k_cAddCodeA at h
  split at h
  · obtain ⟨rfl, h⟩ := h
    exact c_cAddCodeA hTb hD (ct_cAddCodeA_m hQ h)
  · exact h.elim
set_option maxHeartbeats 4000000 in
set_option maxRecDepth 100000 in
theorem c_cFigureA (hTb : aTb zSh rx_tb cl) {D : Nat} (hD : 4 ≤ D) {w fh : Int} {st : zS} {Q : zQ} (h : ct_cFigureA w fh st Q) : cl D 256 [.inr (.inr (.inl 148)), .inl w, .inl fh] st Q := by
  obtain ⟨d, rfl⟩ : ∃ d, D = d + 1 := ⟨D - 1, by omega⟩
  refine hTb d 256 (rx_m256, 3, 0, 0, 2) rfl _ _ _ (Nat.le_of_ble_eq_true rfl) (fun K hcl hsf hsl => ?_)
  have hcm : zmo (wcL [(236, k_cUnfit), (282, k_cAddCodeA), (143, k_cNext)]) (cl d) := (wcL_m (wm_cons (k_cUnfit_m hTb (by omega)) (wm_cons (k_cAddCodeA_m hTb (by omega)) (wm_cons (k_cNext_m hTb (by omega)) wm_nil))))
  obtain ⟨hR, hQ⟩ := h
  obtain ⟨hG, rd, ow, tw, cb, k⟩ := hR
  change RDc st at rd
  change cOW st at ow
  change st 148 1 = 122 at tw
  change st 122 16 + 1 ≤ st 149 5 at cb
  change st 149 3 = 2 ∧ st 149 4 = w ∧ 0 ≤ w ∧ w < 26 ∧ (fh = 0 ∨ fh = 1) at k
  have g1 := g_f148_1 hG
  have g2 := g_f122_16 hG
  have g3 := g_wStart hG
  have g4 := g_wKind hG
  have g5 := g_wValue hG
  have g6 := g_tsize hG
  have rb := rd.1
  refine dr1_ok (Rt := Q) (wc := (wcL [(236, k_cUnfit), (282, k_cAddCodeA), (143, k_cNext)])) (stp := []) hcm hcl [(10, 122)] [] 35 ?_
  show ((¬ fh = (0 : Int) → ((st 148 1 = (122 : Int)) ∧ (122 = 122 ∧ (rq_cAddCodeA (201) w st ∧ (∀ (s7 : zS), en_cAddCodeA (201) w st s7 → (149 = 149 ∧ (rq_cNext  s7 ∧ (∀ (s8 : zS), en_cNext  s7 s8 → ((1 = (0 : Int) ∨ 1 = (1 : Int)) ∧ Q (some (.inl 1)) s8))))))))) ∧ (¬ (¬ fh = (0 : Int)) → (148 = 148 ∧ (rq_cUnfit  st ∧ (((0 = (0 : Int) ∨ 0 = (1 : Int)) ∧ Q (some (.inl 0)) (zup (zup st 148 3 1) 148 4 (st 149 6))))))))
  refine ⟨fun h10 => ?_, fun h10 => ?_⟩
  · refine ⟨by omega, ?_⟩
    refine ⟨rfl, ⟨hG, (show (0 ≤ (201) ∧ (201) ≤ 255) ∧ 0 ≤ w ∧ w ≤ 9999 from by omega), (show st 122 16 ≤ 1599 from by omega)⟩, fun s7 q7 => ?_⟩
    obtain ⟨gs7, fs7, cc7, cf7⟩ := q7
    change s7 122 16 = st 122 16 + 1 at cc7
    have g11 := g_f122_16 gs7
    change (s7 134) = up1 (st 134) (st 122 16).toNat (65536 * (201) + w) at cf7
    have e12 : s7 149 3 = st 149 3 := fs7 149 3 rfl rfl
    refine ⟨rfl, ⟨gs7, (show RDc s7 from (RDc_of (fun i => fs7 2 i rfl rfl) (fs7 1 1 rfl rfl) (fs7 149 2 rfl rfl) (fs7 149 3 rfl rfl) (fs7 149 4 rfl rfl) (fs7 149 5 rfl rfl) (fun i => fs7 150 i rfl rfl) rd)), (show 1 ≤ s7 149 3 ∧ s7 149 3 ≤ 4 from by omega)⟩, fun s8 q8 => ?_⟩
    obtain ⟨gs8, fs8, rd8, nx8⟩ := q8
    change RDc s8 at rd8
    change NX s7 s8 at nx8
    refine ⟨by omega, ?_⟩
    have e13 : s8 122 16 = s7 122 16 := fs8 122 16 rfl rfl
    exact hQ _ _ ⟨gs8, (fr_tr (fr_tr (fr_rf _ _) fs7 rfl) fs8 rfl), (show ((1 : Int) = 1 ∧ fh = 1 ∧ RDc s8 ∧ NX st s8 ∧ s8 122 16 = st 122 16 + 1 ∧ (s8 134) = up1 (st 134) (st 122 16).toNat (65536 * 201 + w)) ∨ ((1 : Int) = 0 ∧ fh = 0) from Or.inl ⟨rfl, by omega, rd8, NX_e (sT_of (fun i => (show aFr m_cFigureA st s7 from (fr_tr (fr_rf _ _) fs7 rfl)) 2 i rfl rfl) ((show aFr m_cFigureA st s7 from (fr_tr (fr_rf _ _) fs7 rfl)) 1 1 rfl rfl) ((show aFr m_cFigureA st s7 from (fr_tr (fr_rf _ _) fs7 rfl)) 148 2 rfl rfl)) (fs7 149 5 rfl rfl) nx8, (fs8 122 16 rfl rfl).trans cc7, (funext (fun i => fs8 134 i rfl rfl)).trans cf7⟩)⟩
  · have g14 := g_wSpot hG
    refine ⟨rfl, hG, ?_⟩
    refine ⟨by omega, ?_⟩
    exact hQ _ _ ⟨(gInv_up (gInv_up hG (p_rFault (by omega))) (p_rFaultAt (by omega))), (fr_f (fr_f (fr_rf _ _) rfl) rfl), (show ((0 : Int) = 1 ∧ fh = 1 ∧ RDc (zup (zup st 148 3 1) 148 4 (st 149 6)) ∧ NX st (zup (zup st 148 3 1) 148 4 (st 149 6)) ∧ st 122 16 = st 122 16 + 1 ∧ (st 134) = up1 (st 134) (st 122 16).toNat (65536 * 201 + w)) ∨ ((0 : Int) = 0 ∧ fh = 0) from Or.inr ⟨rfl, by omega⟩)⟩
theorem k_cFigureA_m (hTb : aTb zSh rx_tb cl) {D : Nat} (hD : 4 ≤ D) : ∀ as st (Q Q' : zQ), (∀ r st', Q r st' → Q' r st') → k_cFigureA 256 as st Q → cl D 256 as st Q' := by
  intro as st Q Q' hQ h
  unfold k_cFigureA at h
  split at h
  · obtain ⟨rfl, h⟩ := h
    exact c_cFigureA hTb hD (ct_cFigureA_m hQ h)
  · exact h.elim
set_option maxHeartbeats 4000000 in
set_option maxRecDepth 100000 in
theorem c_cSumA (hTb : aTb zSh rx_tb cl) {m : Nat} (hB : BNDA cl m) {D : Nat} (hD : m + 21 ≤ D) {o : Int} {st : zS} {Q : zQ} (h : ct_cSumA (m + 1) o st Q) : cl D 253 [.inr (.inr (.inl 148)), .inl o] st Q := by
  obtain ⟨d, rfl⟩ : ∃ d, D = d + 1 := ⟨D - 1, by omega⟩
  refine hTb d 253 (rx_m253, 4, 0, 0, 2) rfl _ _ _ (Nat.le_of_ble_eq_true rfl) (fun K hcl hsf hsl => ?_)
  have hcm : zmo (wcL [(254, k_cProdA m), (302, k_cIsSign), (143, k_cNext), (282, k_cAddCodeA), (236, k_cUnfit)]) (cl d) := (wcL_m (wm_cons ((hB d (by omega)).2.2.2.2.2.1) (wm_cons (k_cIsSign_m hTb (by omega)) (wm_cons (k_cNext_m hTb (by omega)) (wm_cons (k_cAddCodeA_m hTb (by omega)) (wm_cons (k_cUnfit_m hTb (by omega)) wm_nil))))))
  obtain ⟨hR, hQ⟩ := h
  obtain ⟨hG, rd, ow, tw, cb, dd, oo⟩ := hR
  change RDc st at rd
  change cOW st at ow
  change st 148 1 = 122 at tw
  change st 122 16 + 1 ≤ st 149 5 at cb
  change 0 ≤ o ∧ o ≤ 7 at oo
  have rb := rd.1
  have g1 := g_f148_1 hG
  have g2 := g_f122_16 hG
  have g3 := g_wStart hG
  have g4 := g_wKind hG
  have g5 := g_wValue hG
  have g6 := g_tsize hG
  have lp : ∀ (u : Nat) (i : Int) (s_lp : zS), gInv zgt s_lp ∧ aFr m_cSumA st s_lp ∧ (RDc s_lp) ∧ (∃ c : List Int, CDA (st 122 16) (s_lp 122 16) (st 134) (s_lp 134) c ∧ (∀ (r : Int) (c2 : List Int), GrS st 1 o (s_lp 149 5) r c2 → GrS st 0 o (st 149 5) r (c ++ c2)) ∧ (FlS st 1 o (s_lp 149 5) → FlS st 0 o (st 149 5))) ∧ (s_lp 122 16 + 1 ≤ s_lp 149 5 ∧ 0 ≤ i ∧ i + 1 ≤ s_lp 149 5) → (1600 - i).toNat = u → K (rx_find rx_m253 12) [(2, .inl i), (0, .inr (.inr (.inl 148))), (1, .inl o)] [] s_lp := by
    intro u
    induction u using Nat.strongRecOn with
    | _ u ih =>
      intro i s_lp hi hu
      obtain ⟨gI_lp, fI_lp, rd_lp, o_lp, cb_lp⟩ := hi
      obtain ⟨cl_lp, cd_lp, K1_lp, K2_lp⟩ := o_lp
      have rb_lp := rd_lp.1
      have rt_lp := g_tsize gI_lp
      have g7 := g_f122_16 hG
      have g8 := g_f122_16 gI_lp
      have g9 := g_wStart gI_lp
      have g10 := g_wStart hG
      have g11 := g_wKind gI_lp
      have g12 := g_wValue gI_lp
      refine dr1_ok (Rt := Q) (wc := (wcL [(254, k_cProdA m), (302, k_cIsSign), (143, k_cNext), (282, k_cAddCodeA), (236, k_cUnfit)])) (stp := [12]) hcm hcl [(71, 122)] [] 66 ?_
      show (((1600 : Int) ≤ i → (148 = 148 ∧ (rq_cUnfit  s_lp ∧ (((0 = (0 : Int) ∨ 0 = (1 : Int)) ∧ Q (some (.inl 0)) (zup (zup s_lp 148 3 1) 148 4 (s_lp 149 6))))))) ∧ (¬ ((1600 : Int) ≤ i) → (149 = 149 ∧ (∀ (r14 : Int), en_cIsSign (43) s_lp r14 → ((¬ r14 = (0 : Int) → (149 = 149 ∧ (rq_cNext  s_lp ∧ (∀ (s15 : zS), en_cNext  s_lp s15 → (148 = 148 ∧ (rq_cProdA m o s15 ∧ (∀ (r16 : Int) (s16 : zS), en_cProdA m o s15 r16 s16 → ((¬ r16 = (0 : Int) → ((s16 148 1 = (122 : Int)) ∧ (122 = 122 ∧ (rq_cAddCodeA (s_lp 149 4) (0) s16 ∧ (∀ (s17 : zS), en_cAddCodeA (s_lp 149 4) (0) s16 s17 → ((-2147483648 ≤ i + 1 ∧ i + 1 ≤ 2147483647) ∧ K (rx_find rx_m253 12) [(2, .inl (i + 1)), (3, .inl (s_lp 149 4)), (0, .inr (.inr (.inl 148))), (1, .inl o)] [] s17)))))) ∧ (¬ (¬ r16 = (0 : Int)) → ((0 = (0 : Int) ∨ 0 = (1 : Int)) ∧ Q (some (.inl 0)) s16)))))))))) ∧ (¬ (¬ r14 = (0 : Int)) → (149 = 149 ∧ (∀ (r18 : Int), en_cIsSign (45) s_lp r18 → ((¬ r18 = (0 : Int) → (149 = 149 ∧ (rq_cNext  s_lp ∧ (∀ (s19 : zS), en_cNext  s_lp s19 → (148 = 148 ∧ (rq_cProdA m o s19 ∧ (∀ (r20 : Int) (s20 : zS), en_cProdA m o s19 r20 s20 → ((¬ r20 = (0 : Int) → ((s20 148 1 = (122 : Int)) ∧ (122 = 122 ∧ (rq_cAddCodeA (s_lp 149 4) (0) s20 ∧ (∀ (s21 : zS), en_cAddCodeA (s_lp 149 4) (0) s20 s21 → ((-2147483648 ≤ i + 1 ∧ i + 1 ≤ 2147483647) ∧ K (rx_find rx_m253 12) [(2, .inl (i + 1)), (3, .inl (s_lp 149 4)), (0, .inr (.inr (.inl 148))), (1, .inl o)] [] s21)))))) ∧ (¬ (¬ r20 = (0 : Int)) → ((0 = (0 : Int) ∨ 0 = (1 : Int)) ∧ Q (some (.inl 0)) s20)))))))))) ∧ (¬ (¬ r18 = (0 : Int)) → ((1 = (0 : Int) ∨ 1 = (1 : Int)) ∧ Q (some (.inl 1)) s_lp)))))))))))
      refine ⟨fun h22 => ?_, fun h22 => ?_⟩
      · have g23 := g_wSpot gI_lp
        refine ⟨rfl, gI_lp, ?_⟩
        refine ⟨by omega, ?_⟩
        exact hQ _ _ ⟨(gInv_up (gInv_up gI_lp (p_rFault (by omega))) (p_rFaultAt (by omega))), (fr_f (fr_f fI_lp rfl) rfl), (show ((0 : Int) = 1 ∧ ∃ c : List Int, GrS st 0 o (st 149 5) (s_lp 149 5) c ∧ RDc (zup (zup s_lp 148 3 1) 148 4 (s_lp 149 6)) ∧ CDA (st 122 16) (s_lp 122 16) (st 134) (s_lp 134) c) ∨ ((0 : Int) = 0 ∧ FlS st 0 o (st 149 5)) from (by exfalso; have z1 := rd_lp.1; have z2 := g_tsize gI_lp; omega))⟩
      · refine ⟨rfl, fun r14 q14 => ?_⟩
        have b14 := q14
        change (r14 = 0 ∨ r14 = 1) ∧ (r14 = 1 ↔ s_lp 149 3 = 4 ∧ s_lp 149 4 = (43)) at b14
        refine ⟨fun h24 => ?_, fun h24 => ?_⟩
        · refine ⟨rfl, ⟨gI_lp, (show RDc s_lp from rd_lp), (show 1 ≤ s_lp 149 3 ∧ s_lp 149 3 ≤ 4 from by omega)⟩, fun s15 q15 => ?_⟩
          obtain ⟨gs15, fs15, rd15, nx15⟩ := q15
          change RDc s15 at rd15
          change NX s_lp s15 at nx15
          have g27 := g_f148_1 hG
          have e26 : s_lp 148 1 = st 148 1 := fI_lp 148 1 rfl rfl
          have e25 : s15 148 1 = s_lp 148 1 := fs15 148 1 rfl rfl
          have e28 : s15 122 16 = s_lp 122 16 := fs15 122 16 rfl rfl
          have g29 := g_wStart gs15
          refine ⟨rfl, ⟨gs15, (show RDc s15 from rd15), (show cOW s15 from (fun i hi => ((show aFr m_cSumA st s15 from (fr_tr fI_lp fs15 rfl)) 150 i rfl rfl).trans (ow i hi))), (show s15 148 1 = 122 from by omega), (show s15 122 16 + 1 ≤ s15 149 5 from by have z1 := tk_lt (tkS_e (sT_of (fun i => (show aFr m_cSumA st s_lp from fI_lp) 2 i rfl rfl) ((show aFr m_cSumA st s_lp from fI_lp) 1 1 rfl rfl) ((show aFr m_cSumA st s_lp from fI_lp) 148 2 rfl rfl)) (nx_sig rd_lp (fun i hi => ((show aFr m_cSumA st s_lp from fI_lp) 150 i rfl rfl).trans (ow i hi)) nx15 (by omega))) rd_lp.1.1 (by omega); omega), (show 3 + 12 * (7 - o) ≤ (m : Int) from by omega), (show 0 ≤ o ∧ o ≤ 7 from by omega)⟩, fun r16 s16 q16 => ?_⟩
          obtain ⟨gs16, fs16, o16⟩ := q16
          change (r16 = 1 ∧ ∃ c : List Int, GrS s15 2 o (s15 149 5) (s16 149 5) c ∧ RDc s16 ∧ CDA (s15 122 16) (s16 122 16) (s15 134) (s16 134) c) ∨ (r16 = 0 ∧ FlS s15 2 o (s15 149 5)) at o16
          have g30 := g_wStart gs16
          have g31 := g_f122_16 gs16
          rcases o16 with ⟨y16, c16, g16, rd16, cd16⟩ | ⟨y16, l16⟩
          · have gl16 := Gr_len g16 rd15.1.1
            have cn16 := cd16.2.1
            have rb16 := rd16.1
            have rt16 := g_tsize gs16
            refine ⟨fun h32 => ?_, fun h32 => (by exfalso; omega)⟩
            have e33 : s16 148 1 = s15 148 1 := fs16 148 1 rfl rfl
            refine ⟨by omega, ?_⟩
            refine ⟨rfl, ⟨gs16, (show (0 ≤ (s_lp 149 4) ∧ (s_lp 149 4) ≤ 255) ∧ 0 ≤ (0) ∧ (0) ≤ 9999 from by omega), (show s16 122 16 ≤ 1599 from by have z1 := tk_lt (tkS_e (sT_of (fun i => (show aFr m_cSumA st s_lp from fI_lp) 2 i rfl rfl) ((show aFr m_cSumA st s_lp from fI_lp) 1 1 rfl rfl) ((show aFr m_cSumA st s_lp from fI_lp) 148 2 rfl rfl)) (nx_sig rd_lp (fun i hi => ((show aFr m_cSumA st s_lp from fI_lp) 150 i rfl rfl).trans (ow i hi)) nx15 (by omega))) rd_lp.1.1 (by omega); omega)⟩, fun s17 q17 => ?_⟩
            obtain ⟨gs17, fs17, cc17, cf17⟩ := q17
            change s17 122 16 = s16 122 16 + 1 at cc17
            have g34 := g_f122_16 gs17
            change (s17 134) = up1 (s16 134) (s16 122 16).toNat (65536 * (s_lp 149 4) + (0)) at cf17
            refine ⟨by omega, ?_⟩
            have e35 : s17 149 5 = s16 149 5 := fs17 149 5 rfl rfl
            exact hsl _ _ _ _ _ (sb_cons (.head _) (sb_cons (.tail _ (.tail _ (.head _))) (sb_cons (.tail _ (.tail _ (.tail _ (.head _)))) sb_nil))) (ih _ (show (1600 - (i + 1) : Int).toNat < u from by omega) (i + 1) s17 ⟨gs17, (fr_tr (fr_tr (fr_tr fI_lp fs15 rfl) fs16 rfl) fs17 rfl), (show RDc s17 from (RDc_of (fun i => fs17 2 i rfl rfl) (fs17 1 1 rfl rfl) (fs17 149 2 rfl rfl) (fs17 149 3 rfl rfl) (fs17 149 4 rfl rfl) (fs17 149 5 rfl rfl) (fun i => fs17 150 i rfl rfl) rd16)), (show ∃ c : List Int, CDA (st 122 16) (s17 122 16) (st 134) (s17 134) c ∧ (∀ (r : Int) (c2 : List Int), GrS st 1 o (s17 149 5) r c2 → GrS st 0 o (st 149 5) r (c ++ c2)) ∧ (FlS st 1 o (s17 149 5) → FlS st 0 o (st 149 5)) from ⟨cl_lp ++ (c16 ++ [sop (s_lp 149 4)]), CDA_c (CDA_tr (CDA_tr (CDA_f cd_lp (fs15 122 16 rfl rfl) (funext (fun i => fs15 134 i rfl rfl))) cd16) (CDA_one (y := sop (s_lp 149 4)) (g_f122_16 gs16).1 cc17 cf17 (cenc_a (by omega)))) (by simp only [List.nil_append, List.append_assoc, List.cons_append, List.append_nil]), fun r c2 h => (by
              rw [show s17 149 5 = s16 149 5 from fs17 149 5 rfl rfl] at h
              have z := K1_lp r (c16 ++ sop (s_lp 149 4) :: c2) (Gr_sumM (tkS_e (sT_of (fun i => (show aFr m_cSumA st s_lp from fI_lp) 2 i rfl rfl) ((show aFr m_cSumA st s_lp from fI_lp) 1 1 rfl rfl) ((show aFr m_cSumA st s_lp from fI_lp) 148 2 rfl rfl)) (nx_sig rd_lp (fun i hi => ((show aFr m_cSumA st s_lp from fI_lp) 150 i rfl rfl).trans (ow i hi)) nx15 (by omega))) (by omega) (GrS_e (sT_of (fun i => (show aFr m_cSumA st s15 from (fr_tr fI_lp fs15 rfl)) 2 i rfl rfl) ((show aFr m_cSumA st s15 from (fr_tr fI_lp fs15 rfl)) 1 1 rfl rfl) ((show aFr m_cSumA st s15 from (fr_tr fI_lp fs15 rfl)) 148 2 rfl rfl)) g16) h)
              simp only [List.nil_append, List.append_assoc, List.cons_append, List.append_nil] at z ⊢
              exact z), fun h => (by
              rw [show s17 149 5 = s16 149 5 from fs17 149 5 rfl rfl] at h
              exact K2_lp (Fl_sumM2 (tkS_e (sT_of (fun i => (show aFr m_cSumA st s_lp from fI_lp) 2 i rfl rfl) ((show aFr m_cSumA st s_lp from fI_lp) 1 1 rfl rfl) ((show aFr m_cSumA st s_lp from fI_lp) 148 2 rfl rfl)) (nx_sig rd_lp (fun i hi => ((show aFr m_cSumA st s_lp from fI_lp) 150 i rfl rfl).trans (ow i hi)) nx15 (by omega))) (by omega) (GrS_e (sT_of (fun i => (show aFr m_cSumA st s15 from (fr_tr fI_lp fs15 rfl)) 2 i rfl rfl) ((show aFr m_cSumA st s15 from (fr_tr fI_lp fs15 rfl)) 1 1 rfl rfl) ((show aFr m_cSumA st s15 from (fr_tr fI_lp fs15 rfl)) 148 2 rfl rfl)) g16) h))⟩), (show s17 122 16 + 1 ≤ s17 149 5 ∧ 0 ≤ (i + 1) ∧ (i + 1) + 1 ≤ s17 149 5 from by have z1 := tk_lt (tkS_e (sT_of (fun i => (show aFr m_cSumA st s_lp from fI_lp) 2 i rfl rfl) ((show aFr m_cSumA st s_lp from fI_lp) 1 1 rfl rfl) ((show aFr m_cSumA st s_lp from fI_lp) 148 2 rfl rfl)) (nx_sig rd_lp (fun i hi => ((show aFr m_cSumA st s_lp from fI_lp) 150 i rfl rfl).trans (ow i hi)) nx15 (by omega))) rd_lp.1.1 (by omega); omega)⟩ rfl)
          · refine ⟨fun h36 => (by exfalso; omega), fun h36 => ?_⟩
            refine ⟨by omega, ?_⟩
            exact hQ _ _ ⟨gs16, (fr_tr (fr_tr fI_lp fs15 rfl) fs16 rfl), (show ((0 : Int) = 1 ∧ ∃ c : List Int, GrS st 0 o (st 149 5) (s16 149 5) c ∧ RDc s16 ∧ CDA (st 122 16) (s16 122 16) (st 134) (s16 134) c) ∨ ((0 : Int) = 0 ∧ FlS st 0 o (st 149 5)) from Or.inr ⟨rfl, K2_lp (Fl_sumM1 (tkS_e (sT_of (fun i => (show aFr m_cSumA st s_lp from fI_lp) 2 i rfl rfl) ((show aFr m_cSumA st s_lp from fI_lp) 1 1 rfl rfl) ((show aFr m_cSumA st s_lp from fI_lp) 148 2 rfl rfl)) (nx_sig rd_lp (fun i hi => ((show aFr m_cSumA st s_lp from fI_lp) 150 i rfl rfl).trans (ow i hi)) nx15 (by omega))) (by omega) (FlS_e (sT_of (fun i => (show aFr m_cSumA st s15 from (fr_tr fI_lp fs15 rfl)) 2 i rfl rfl) ((show aFr m_cSumA st s15 from (fr_tr fI_lp fs15 rfl)) 1 1 rfl rfl) ((show aFr m_cSumA st s15 from (fr_tr fI_lp fs15 rfl)) 148 2 rfl rfl)) l16))⟩)⟩
        · refine ⟨rfl, fun r18 q18 => ?_⟩
          have b18 := q18
          change (r18 = 0 ∨ r18 = 1) ∧ (r18 = 1 ↔ s_lp 149 3 = 4 ∧ s_lp 149 4 = (45)) at b18
          refine ⟨fun h37 => ?_, fun h37 => ?_⟩
          · refine ⟨rfl, ⟨gI_lp, (show RDc s_lp from rd_lp), (show 1 ≤ s_lp 149 3 ∧ s_lp 149 3 ≤ 4 from by omega)⟩, fun s19 q19 => ?_⟩
            obtain ⟨gs19, fs19, rd19, nx19⟩ := q19
            change RDc s19 at rd19
            change NX s_lp s19 at nx19
            have g40 := g_f148_1 hG
            have e39 : s_lp 148 1 = st 148 1 := fI_lp 148 1 rfl rfl
            have e38 : s19 148 1 = s_lp 148 1 := fs19 148 1 rfl rfl
            have e41 : s19 122 16 = s_lp 122 16 := fs19 122 16 rfl rfl
            have g42 := g_wStart gs19
            refine ⟨rfl, ⟨gs19, (show RDc s19 from rd19), (show cOW s19 from (fun i hi => ((show aFr m_cSumA st s19 from (fr_tr fI_lp fs19 rfl)) 150 i rfl rfl).trans (ow i hi))), (show s19 148 1 = 122 from by omega), (show s19 122 16 + 1 ≤ s19 149 5 from by have z1 := tk_lt (tkS_e (sT_of (fun i => (show aFr m_cSumA st s_lp from fI_lp) 2 i rfl rfl) ((show aFr m_cSumA st s_lp from fI_lp) 1 1 rfl rfl) ((show aFr m_cSumA st s_lp from fI_lp) 148 2 rfl rfl)) (nx_sig rd_lp (fun i hi => ((show aFr m_cSumA st s_lp from fI_lp) 150 i rfl rfl).trans (ow i hi)) nx19 (by omega))) rd_lp.1.1 (by omega); omega), (show 3 + 12 * (7 - o) ≤ (m : Int) from by omega), (show 0 ≤ o ∧ o ≤ 7 from by omega)⟩, fun r20 s20 q20 => ?_⟩
            obtain ⟨gs20, fs20, o20⟩ := q20
            change (r20 = 1 ∧ ∃ c : List Int, GrS s19 2 o (s19 149 5) (s20 149 5) c ∧ RDc s20 ∧ CDA (s19 122 16) (s20 122 16) (s19 134) (s20 134) c) ∨ (r20 = 0 ∧ FlS s19 2 o (s19 149 5)) at o20
            have g43 := g_wStart gs20
            have g44 := g_f122_16 gs20
            rcases o20 with ⟨y20, c20, g20, rd20, cd20⟩ | ⟨y20, l20⟩
            · have gl20 := Gr_len g20 rd19.1.1
              have cn20 := cd20.2.1
              have rb20 := rd20.1
              have rt20 := g_tsize gs20
              refine ⟨fun h45 => ?_, fun h45 => (by exfalso; omega)⟩
              have e46 : s20 148 1 = s19 148 1 := fs20 148 1 rfl rfl
              refine ⟨by omega, ?_⟩
              refine ⟨rfl, ⟨gs20, (show (0 ≤ (s_lp 149 4) ∧ (s_lp 149 4) ≤ 255) ∧ 0 ≤ (0) ∧ (0) ≤ 9999 from by omega), (show s20 122 16 ≤ 1599 from by have z1 := tk_lt (tkS_e (sT_of (fun i => (show aFr m_cSumA st s_lp from fI_lp) 2 i rfl rfl) ((show aFr m_cSumA st s_lp from fI_lp) 1 1 rfl rfl) ((show aFr m_cSumA st s_lp from fI_lp) 148 2 rfl rfl)) (nx_sig rd_lp (fun i hi => ((show aFr m_cSumA st s_lp from fI_lp) 150 i rfl rfl).trans (ow i hi)) nx19 (by omega))) rd_lp.1.1 (by omega); omega)⟩, fun s21 q21 => ?_⟩
              obtain ⟨gs21, fs21, cc21, cf21⟩ := q21
              change s21 122 16 = s20 122 16 + 1 at cc21
              have g47 := g_f122_16 gs21
              change (s21 134) = up1 (s20 134) (s20 122 16).toNat (65536 * (s_lp 149 4) + (0)) at cf21
              refine ⟨by omega, ?_⟩
              have e48 : s21 149 5 = s20 149 5 := fs21 149 5 rfl rfl
              exact hsl _ _ _ _ _ (sb_cons (.head _) (sb_cons (.tail _ (.tail _ (.head _))) (sb_cons (.tail _ (.tail _ (.tail _ (.head _)))) sb_nil))) (ih _ (show (1600 - (i + 1) : Int).toNat < u from by omega) (i + 1) s21 ⟨gs21, (fr_tr (fr_tr (fr_tr fI_lp fs19 rfl) fs20 rfl) fs21 rfl), (show RDc s21 from (RDc_of (fun i => fs21 2 i rfl rfl) (fs21 1 1 rfl rfl) (fs21 149 2 rfl rfl) (fs21 149 3 rfl rfl) (fs21 149 4 rfl rfl) (fs21 149 5 rfl rfl) (fun i => fs21 150 i rfl rfl) rd20)), (show ∃ c : List Int, CDA (st 122 16) (s21 122 16) (st 134) (s21 134) c ∧ (∀ (r : Int) (c2 : List Int), GrS st 1 o (s21 149 5) r c2 → GrS st 0 o (st 149 5) r (c ++ c2)) ∧ (FlS st 1 o (s21 149 5) → FlS st 0 o (st 149 5)) from ⟨cl_lp ++ (c20 ++ [sop (s_lp 149 4)]), CDA_c (CDA_tr (CDA_tr (CDA_f cd_lp (fs19 122 16 rfl rfl) (funext (fun i => fs19 134 i rfl rfl))) cd20) (CDA_one (y := sop (s_lp 149 4)) (g_f122_16 gs20).1 cc21 cf21 (cenc_a (by omega)))) (by simp only [List.nil_append, List.append_assoc, List.cons_append, List.append_nil]), fun r c2 h => (by
              rw [show s21 149 5 = s20 149 5 from fs21 149 5 rfl rfl] at h
              have z := K1_lp r (c20 ++ sop (s_lp 149 4) :: c2) (Gr_sumM (tkS_e (sT_of (fun i => (show aFr m_cSumA st s_lp from fI_lp) 2 i rfl rfl) ((show aFr m_cSumA st s_lp from fI_lp) 1 1 rfl rfl) ((show aFr m_cSumA st s_lp from fI_lp) 148 2 rfl rfl)) (nx_sig rd_lp (fun i hi => ((show aFr m_cSumA st s_lp from fI_lp) 150 i rfl rfl).trans (ow i hi)) nx19 (by omega))) (by omega) (GrS_e (sT_of (fun i => (show aFr m_cSumA st s19 from (fr_tr fI_lp fs19 rfl)) 2 i rfl rfl) ((show aFr m_cSumA st s19 from (fr_tr fI_lp fs19 rfl)) 1 1 rfl rfl) ((show aFr m_cSumA st s19 from (fr_tr fI_lp fs19 rfl)) 148 2 rfl rfl)) g20) h)
              simp only [List.nil_append, List.append_assoc, List.cons_append, List.append_nil] at z ⊢
              exact z), fun h => (by
              rw [show s21 149 5 = s20 149 5 from fs21 149 5 rfl rfl] at h
              exact K2_lp (Fl_sumM2 (tkS_e (sT_of (fun i => (show aFr m_cSumA st s_lp from fI_lp) 2 i rfl rfl) ((show aFr m_cSumA st s_lp from fI_lp) 1 1 rfl rfl) ((show aFr m_cSumA st s_lp from fI_lp) 148 2 rfl rfl)) (nx_sig rd_lp (fun i hi => ((show aFr m_cSumA st s_lp from fI_lp) 150 i rfl rfl).trans (ow i hi)) nx19 (by omega))) (by omega) (GrS_e (sT_of (fun i => (show aFr m_cSumA st s19 from (fr_tr fI_lp fs19 rfl)) 2 i rfl rfl) ((show aFr m_cSumA st s19 from (fr_tr fI_lp fs19 rfl)) 1 1 rfl rfl) ((show aFr m_cSumA st s19 from (fr_tr fI_lp fs19 rfl)) 148 2 rfl rfl)) g20) h))⟩), (show s21 122 16 + 1 ≤ s21 149 5 ∧ 0 ≤ (i + 1) ∧ (i + 1) + 1 ≤ s21 149 5 from by have z1 := tk_lt (tkS_e (sT_of (fun i => (show aFr m_cSumA st s_lp from fI_lp) 2 i rfl rfl) ((show aFr m_cSumA st s_lp from fI_lp) 1 1 rfl rfl) ((show aFr m_cSumA st s_lp from fI_lp) 148 2 rfl rfl)) (nx_sig rd_lp (fun i hi => ((show aFr m_cSumA st s_lp from fI_lp) 150 i rfl rfl).trans (ow i hi)) nx19 (by omega))) rd_lp.1.1 (by omega); omega)⟩ rfl)
            · refine ⟨fun h49 => (by exfalso; omega), fun h49 => ?_⟩
              refine ⟨by omega, ?_⟩
              exact hQ _ _ ⟨gs20, (fr_tr (fr_tr fI_lp fs19 rfl) fs20 rfl), (show ((0 : Int) = 1 ∧ ∃ c : List Int, GrS st 0 o (st 149 5) (s20 149 5) c ∧ RDc s20 ∧ CDA (st 122 16) (s20 122 16) (st 134) (s20 134) c) ∨ ((0 : Int) = 0 ∧ FlS st 0 o (st 149 5)) from Or.inr ⟨rfl, K2_lp (Fl_sumM1 (tkS_e (sT_of (fun i => (show aFr m_cSumA st s_lp from fI_lp) 2 i rfl rfl) ((show aFr m_cSumA st s_lp from fI_lp) 1 1 rfl rfl) ((show aFr m_cSumA st s_lp from fI_lp) 148 2 rfl rfl)) (nx_sig rd_lp (fun i hi => ((show aFr m_cSumA st s_lp from fI_lp) 150 i rfl rfl).trans (ow i hi)) nx19 (by omega))) (by omega) (FlS_e (sT_of (fun i => (show aFr m_cSumA st s19 from (fr_tr fI_lp fs19 rfl)) 2 i rfl rfl) ((show aFr m_cSumA st s19 from (fr_tr fI_lp fs19 rfl)) 1 1 rfl rfl) ((show aFr m_cSumA st s19 from (fr_tr fI_lp fs19 rfl)) 148 2 rfl rfl)) l20))⟩)⟩
          · refine ⟨by omega, ?_⟩
            exact hQ _ _ ⟨gI_lp, fI_lp, (show ((1 : Int) = 1 ∧ ∃ c : List Int, GrS st 0 o (st 149 5) (s_lp 149 5) c ∧ RDc s_lp ∧ CDA (st 122 16) (s_lp 122 16) (st 134) (s_lp 134) c) ∨ ((1 : Int) = 0 ∧ FlS st 0 o (st 149 5)) from (by
            obtain ⟨tk_, tv_, te_, ht_, hv_⟩ := rd_tk rd_lp (fun i hi => ((show aFr m_cSumA st s_lp from fI_lp) 150 i rfl rfl).trans (ow i hi))
            have z := K1_lp _ [] (Gr_sumE (tkS_e (sT_of (fun i => (show aFr m_cSumA st s_lp from fI_lp) 2 i rfl rfl) ((show aFr m_cSumA st s_lp from fI_lp) 1 1 rfl rfl) ((show aFr m_cSumA st s_lp from fI_lp) 148 2 rfl rfl)) ht_) (fun z => by have z0 := tv_s hv_ 43; have z1 := tv_s hv_ 45; omega))
            exact Or.inl ⟨rfl, _, z, rd_lp, CDA_c cd_lp (by simp only [List.nil_append, List.append_assoc, List.cons_append, List.append_nil])⟩))⟩
  refine dr1_ok (Rt := Q) (wc := (wcL [(254, k_cProdA m), (302, k_cIsSign), (143, k_cNext), (282, k_cAddCodeA), (236, k_cUnfit)])) (stp := [12]) hcm hcl [(71, 122)] [] 66 ?_
  show (148 = 148 ∧ (rq_cProdA m o st ∧ (∀ (r50 : Int) (s50 : zS), en_cProdA m o st r50 s50 → ((¬ r50 = (0 : Int) → K (rx_find rx_m253 12) [(2, .inl 0), (0, .inr (.inr (.inl 148))), (1, .inl o)] [] s50) ∧ (¬ (¬ r50 = (0 : Int)) → ((0 = (0 : Int) ∨ 0 = (1 : Int)) ∧ Q (some (.inl 0)) s50))))))
  refine ⟨rfl, ⟨hG, (show RDc st from rd), (show cOW st from ow), (show st 148 1 = 122 from by omega), (show st 122 16 + 1 ≤ st 149 5 from by omega), (show 3 + 12 * (7 - o) ≤ (m : Int) from by omega), (show 0 ≤ o ∧ o ≤ 7 from by omega)⟩, fun r50 s50 q50 => ?_⟩
  obtain ⟨gs50, fs50, o50⟩ := q50
  change (r50 = 1 ∧ ∃ c : List Int, GrS st 2 o (st 149 5) (s50 149 5) c ∧ RDc s50 ∧ CDA (st 122 16) (s50 122 16) (st 134) (s50 134) c) ∨ (r50 = 0 ∧ FlS st 2 o (st 149 5)) at o50
  have g51 := g_wStart gs50
  have g52 := g_f122_16 gs50
  rcases o50 with ⟨y50, c50, g50, rd50, cd50⟩ | ⟨y50, l50⟩
  · have gl50 := Gr_len g50 rd.1.1
    have cn50 := cd50.2.1
    have rb50 := rd50.1
    have rt50 := g_tsize gs50
    refine ⟨fun h53 => ?_, fun h53 => (by exfalso; omega)⟩
    exact lp _ 0 s50 ⟨gs50, (fr_tr (fr_rf _ _) fs50 rfl), (show RDc s50 from rd50), (show ∃ c : List Int, CDA (st 122 16) (s50 122 16) (st 134) (s50 134) c ∧ (∀ (r : Int) (c2 : List Int), GrS st 1 o (s50 149 5) r c2 → GrS st 0 o (st 149 5) r (c ++ c2)) ∧ (FlS st 1 o (s50 149 5) → FlS st 0 o (st 149 5)) from ⟨c50, CDA_c (CDA_tr (CDA_nil (st 134) (g_f122_16 hG).1) cd50) (by simp only [List.nil_append, List.append_assoc, List.cons_append, List.append_nil]), fun r c2 h => Gr_sum g50 h, fun h => Fl_sum2 g50 h⟩), (show s50 122 16 + 1 ≤ s50 149 5 ∧ 0 ≤ (0 : Int) ∧ (0 : Int) + 1 ≤ s50 149 5 from by omega)⟩ rfl
  · refine ⟨fun h54 => (by exfalso; omega), fun h54 => ?_⟩
    refine ⟨by omega, ?_⟩
    exact hQ _ _ ⟨gs50, (fr_tr (fr_rf _ _) fs50 rfl), (show ((0 : Int) = 1 ∧ ∃ c : List Int, GrS st 0 o (st 149 5) (s50 149 5) c ∧ RDc s50 ∧ CDA (st 122 16) (s50 122 16) (st 134) (s50 134) c) ∨ ((0 : Int) = 0 ∧ FlS st 0 o (st 149 5)) from Or.inr ⟨rfl, Fl_sum1 l50⟩)⟩
theorem k_cSumA_m (hTb : aTb zSh rx_tb cl) {m : Nat} (hB : BNDA cl m) {D : Nat} (hD : m + 21 ≤ D) : ∀ as st (Q Q' : zQ), (∀ r st', Q r st' → Q' r st') → k_cSumA (m + 1) 253 as st Q → cl D 253 as st Q' := by
  intro as st Q Q' hQ h
  unfold k_cSumA at h
  split at h
  · obtain ⟨rfl, h⟩ := h
    exact c_cSumA hTb hB hD (ct_cSumA_m hQ h)
  · exact h.elim
set_option maxHeartbeats 4000000 in
set_option maxRecDepth 100000 in
theorem c_cProdA (hTb : aTb zSh rx_tb cl) {m : Nat} (hB : BNDA cl m) {D : Nat} (hD : m + 21 ≤ D) {o : Int} {st : zS} {Q : zQ} (h : ct_cProdA (m + 1) o st Q) : cl D 254 [.inr (.inr (.inl 148)), .inl o] st Q := by
  obtain ⟨d, rfl⟩ : ∃ d, D = d + 1 := ⟨D - 1, by omega⟩
  refine hTb d 254 (rx_m254, 4, 0, 0, 2) rfl _ _ _ (Nat.le_of_ble_eq_true rfl) (fun K hcl hsf hsl => ?_)
  have hcm : zmo (wcL [(255, k_cPartA m), (302, k_cIsSign), (143, k_cNext), (282, k_cAddCodeA), (236, k_cUnfit)]) (cl d) := (wcL_m (wm_cons ((hB d (by omega)).2.2.2.2.2.2.1) (wm_cons (k_cIsSign_m hTb (by omega)) (wm_cons (k_cNext_m hTb (by omega)) (wm_cons (k_cAddCodeA_m hTb (by omega)) (wm_cons (k_cUnfit_m hTb (by omega)) wm_nil))))))
  obtain ⟨hR, hQ⟩ := h
  obtain ⟨hG, rd, ow, tw, cb, dd, oo⟩ := hR
  change RDc st at rd
  change cOW st at ow
  change st 148 1 = 122 at tw
  change st 122 16 + 1 ≤ st 149 5 at cb
  change 0 ≤ o ∧ o ≤ 7 at oo
  have rb := rd.1
  have g1 := g_f148_1 hG
  have g2 := g_f122_16 hG
  have g3 := g_wStart hG
  have g4 := g_wKind hG
  have g5 := g_wValue hG
  have g6 := g_tsize hG
  have lp : ∀ (u : Nat) (i : Int) (s_lp : zS), gInv zgt s_lp ∧ aFr m_cProdA st s_lp ∧ (RDc s_lp) ∧ (∃ c : List Int, CDA (st 122 16) (s_lp 122 16) (st 134) (s_lp 134) c ∧ (∀ (r : Int) (c2 : List Int), GrS st 3 o (s_lp 149 5) r c2 → GrS st 2 o (st 149 5) r (c ++ c2)) ∧ (FlS st 3 o (s_lp 149 5) → FlS st 2 o (st 149 5))) ∧ (s_lp 122 16 + 1 ≤ s_lp 149 5 ∧ 0 ≤ i ∧ i + 1 ≤ s_lp 149 5) → (1600 - i).toNat = u → K (rx_find rx_m254 12) [(2, .inl i), (0, .inr (.inr (.inl 148))), (1, .inl o)] [] s_lp := by
    intro u
    induction u using Nat.strongRecOn with
    | _ u ih =>
      intro i s_lp hi hu
      obtain ⟨gI_lp, fI_lp, rd_lp, o_lp, cb_lp⟩ := hi
      obtain ⟨cl_lp, cd_lp, K1_lp, K2_lp⟩ := o_lp
      have rb_lp := rd_lp.1
      have rt_lp := g_tsize gI_lp
      have g7 := g_f122_16 hG
      have g8 := g_f122_16 gI_lp
      have g9 := g_wStart gI_lp
      have g10 := g_wStart hG
      have g11 := g_wKind gI_lp
      have g12 := g_wValue gI_lp
      refine dr1_ok (Rt := Q) (wc := (wcL [(255, k_cPartA m), (302, k_cIsSign), (143, k_cNext), (282, k_cAddCodeA), (236, k_cUnfit)])) (stp := [12]) hcm hcl [(83, 122)] [] 71 ?_
      show (((1600 : Int) ≤ i → (148 = 148 ∧ (rq_cUnfit  s_lp ∧ (((0 = (0 : Int) ∨ 0 = (1 : Int)) ∧ Q (some (.inl 0)) (zup (zup s_lp 148 3 1) 148 4 (s_lp 149 6))))))) ∧ (¬ ((1600 : Int) ≤ i) → (149 = 149 ∧ (∀ (r14 : Int), en_cIsSign (42) s_lp r14 → ((¬ r14 = (0 : Int) → (149 = 149 ∧ (rq_cNext  s_lp ∧ (∀ (s15 : zS), en_cNext  s_lp s15 → (148 = 148 ∧ (rq_cPartA m o s15 ∧ (∀ (r16 : Int) (s16 : zS), en_cPartA m o s15 r16 s16 → ((¬ r16 = (0 : Int) → ((s16 148 1 = (122 : Int)) ∧ (122 = 122 ∧ (rq_cAddCodeA (s_lp 149 4) (0) s16 ∧ (∀ (s17 : zS), en_cAddCodeA (s_lp 149 4) (0) s16 s17 → ((-2147483648 ≤ i + 1 ∧ i + 1 ≤ 2147483647) ∧ K (rx_find rx_m254 12) [(2, .inl (i + 1)), (3, .inl (s_lp 149 4)), (0, .inr (.inr (.inl 148))), (1, .inl o)] [] s17)))))) ∧ (¬ (¬ r16 = (0 : Int)) → ((0 = (0 : Int) ∨ 0 = (1 : Int)) ∧ Q (some (.inl 0)) s16)))))))))) ∧ (¬ (¬ r14 = (0 : Int)) → (149 = 149 ∧ (∀ (r18 : Int), en_cIsSign (47) s_lp r18 → ((¬ r18 = (0 : Int) → (149 = 149 ∧ (rq_cNext  s_lp ∧ (∀ (s19 : zS), en_cNext  s_lp s19 → (148 = 148 ∧ (rq_cPartA m o s19 ∧ (∀ (r20 : Int) (s20 : zS), en_cPartA m o s19 r20 s20 → ((¬ r20 = (0 : Int) → ((s20 148 1 = (122 : Int)) ∧ (122 = 122 ∧ (rq_cAddCodeA (s_lp 149 4) (0) s20 ∧ (∀ (s21 : zS), en_cAddCodeA (s_lp 149 4) (0) s20 s21 → ((-2147483648 ≤ i + 1 ∧ i + 1 ≤ 2147483647) ∧ K (rx_find rx_m254 12) [(2, .inl (i + 1)), (3, .inl (s_lp 149 4)), (0, .inr (.inr (.inl 148))), (1, .inl o)] [] s21)))))) ∧ (¬ (¬ r20 = (0 : Int)) → ((0 = (0 : Int) ∨ 0 = (1 : Int)) ∧ Q (some (.inl 0)) s20)))))))))) ∧ (¬ (¬ r18 = (0 : Int)) → (149 = 149 ∧ (∀ (r22 : Int), en_cIsSign (37) s_lp r22 → ((¬ r22 = (0 : Int) → (149 = 149 ∧ (rq_cNext  s_lp ∧ (∀ (s23 : zS), en_cNext  s_lp s23 → (148 = 148 ∧ (rq_cPartA m o s23 ∧ (∀ (r24 : Int) (s24 : zS), en_cPartA m o s23 r24 s24 → ((¬ r24 = (0 : Int) → ((s24 148 1 = (122 : Int)) ∧ (122 = 122 ∧ (rq_cAddCodeA (s_lp 149 4) (0) s24 ∧ (∀ (s25 : zS), en_cAddCodeA (s_lp 149 4) (0) s24 s25 → ((-2147483648 ≤ i + 1 ∧ i + 1 ≤ 2147483647) ∧ K (rx_find rx_m254 12) [(2, .inl (i + 1)), (3, .inl (s_lp 149 4)), (0, .inr (.inr (.inl 148))), (1, .inl o)] [] s25)))))) ∧ (¬ (¬ r24 = (0 : Int)) → ((0 = (0 : Int) ∨ 0 = (1 : Int)) ∧ Q (some (.inl 0)) s24)))))))))) ∧ (¬ (¬ r22 = (0 : Int)) → ((1 = (0 : Int) ∨ 1 = (1 : Int)) ∧ Q (some (.inl 1)) s_lp)))))))))))))))
      refine ⟨fun h26 => ?_, fun h26 => ?_⟩
      · have g27 := g_wSpot gI_lp
        refine ⟨rfl, gI_lp, ?_⟩
        refine ⟨by omega, ?_⟩
        exact hQ _ _ ⟨(gInv_up (gInv_up gI_lp (p_rFault (by omega))) (p_rFaultAt (by omega))), (fr_f (fr_f fI_lp rfl) rfl), (show ((0 : Int) = 1 ∧ ∃ c : List Int, GrS st 2 o (st 149 5) (s_lp 149 5) c ∧ RDc (zup (zup s_lp 148 3 1) 148 4 (s_lp 149 6)) ∧ CDA (st 122 16) (s_lp 122 16) (st 134) (s_lp 134) c) ∨ ((0 : Int) = 0 ∧ FlS st 2 o (st 149 5)) from (by exfalso; have z1 := rd_lp.1; have z2 := g_tsize gI_lp; omega))⟩
      · refine ⟨rfl, fun r14 q14 => ?_⟩
        have b14 := q14
        change (r14 = 0 ∨ r14 = 1) ∧ (r14 = 1 ↔ s_lp 149 3 = 4 ∧ s_lp 149 4 = (42)) at b14
        refine ⟨fun h28 => ?_, fun h28 => ?_⟩
        · refine ⟨rfl, ⟨gI_lp, (show RDc s_lp from rd_lp), (show 1 ≤ s_lp 149 3 ∧ s_lp 149 3 ≤ 4 from by omega)⟩, fun s15 q15 => ?_⟩
          obtain ⟨gs15, fs15, rd15, nx15⟩ := q15
          change RDc s15 at rd15
          change NX s_lp s15 at nx15
          have g31 := g_f148_1 hG
          have e30 : s_lp 148 1 = st 148 1 := fI_lp 148 1 rfl rfl
          have e29 : s15 148 1 = s_lp 148 1 := fs15 148 1 rfl rfl
          have e32 : s15 122 16 = s_lp 122 16 := fs15 122 16 rfl rfl
          have g33 := g_wStart gs15
          refine ⟨rfl, ⟨gs15, (show RDc s15 from rd15), (show cOW s15 from (fun i hi => ((show aFr m_cProdA st s15 from (fr_tr fI_lp fs15 rfl)) 150 i rfl rfl).trans (ow i hi))), (show s15 148 1 = 122 from by omega), (show s15 122 16 + 1 ≤ s15 149 5 from by have z1 := tk_lt (tkS_e (sT_of (fun i => (show aFr m_cProdA st s_lp from fI_lp) 2 i rfl rfl) ((show aFr m_cProdA st s_lp from fI_lp) 1 1 rfl rfl) ((show aFr m_cProdA st s_lp from fI_lp) 148 2 rfl rfl)) (nx_sig rd_lp (fun i hi => ((show aFr m_cProdA st s_lp from fI_lp) 150 i rfl rfl).trans (ow i hi)) nx15 (by omega))) rd_lp.1.1 (by omega); omega), (show 2 + 12 * (7 - o) ≤ (m : Int) from by omega), (show 0 ≤ o ∧ o ≤ 7 from by omega)⟩, fun r16 s16 q16 => ?_⟩
          obtain ⟨gs16, fs16, o16⟩ := q16
          change (r16 = 1 ∧ ∃ c : List Int, GrS s15 4 o (s15 149 5) (s16 149 5) c ∧ RDc s16 ∧ CDA (s15 122 16) (s16 122 16) (s15 134) (s16 134) c) ∨ (r16 = 0 ∧ FlS s15 4 o (s15 149 5)) at o16
          have g34 := g_wStart gs16
          have g35 := g_f122_16 gs16
          rcases o16 with ⟨y16, c16, g16, rd16, cd16⟩ | ⟨y16, l16⟩
          · have gl16 := Gr_len g16 rd15.1.1
            have cn16 := cd16.2.1
            have rb16 := rd16.1
            have rt16 := g_tsize gs16
            refine ⟨fun h36 => ?_, fun h36 => (by exfalso; omega)⟩
            have e37 : s16 148 1 = s15 148 1 := fs16 148 1 rfl rfl
            refine ⟨by omega, ?_⟩
            refine ⟨rfl, ⟨gs16, (show (0 ≤ (s_lp 149 4) ∧ (s_lp 149 4) ≤ 255) ∧ 0 ≤ (0) ∧ (0) ≤ 9999 from by omega), (show s16 122 16 ≤ 1599 from by have z1 := tk_lt (tkS_e (sT_of (fun i => (show aFr m_cProdA st s_lp from fI_lp) 2 i rfl rfl) ((show aFr m_cProdA st s_lp from fI_lp) 1 1 rfl rfl) ((show aFr m_cProdA st s_lp from fI_lp) 148 2 rfl rfl)) (nx_sig rd_lp (fun i hi => ((show aFr m_cProdA st s_lp from fI_lp) 150 i rfl rfl).trans (ow i hi)) nx15 (by omega))) rd_lp.1.1 (by omega); omega)⟩, fun s17 q17 => ?_⟩
            obtain ⟨gs17, fs17, cc17, cf17⟩ := q17
            change s17 122 16 = s16 122 16 + 1 at cc17
            have g38 := g_f122_16 gs17
            change (s17 134) = up1 (s16 134) (s16 122 16).toNat (65536 * (s_lp 149 4) + (0)) at cf17
            refine ⟨by omega, ?_⟩
            have e39 : s17 149 5 = s16 149 5 := fs17 149 5 rfl rfl
            exact hsl _ _ _ _ _ (sb_cons (.head _) (sb_cons (.tail _ (.tail _ (.head _))) (sb_cons (.tail _ (.tail _ (.tail _ (.head _)))) sb_nil))) (ih _ (show (1600 - (i + 1) : Int).toNat < u from by omega) (i + 1) s17 ⟨gs17, (fr_tr (fr_tr (fr_tr fI_lp fs15 rfl) fs16 rfl) fs17 rfl), (show RDc s17 from (RDc_of (fun i => fs17 2 i rfl rfl) (fs17 1 1 rfl rfl) (fs17 149 2 rfl rfl) (fs17 149 3 rfl rfl) (fs17 149 4 rfl rfl) (fs17 149 5 rfl rfl) (fun i => fs17 150 i rfl rfl) rd16)), (show ∃ c : List Int, CDA (st 122 16) (s17 122 16) (st 134) (s17 134) c ∧ (∀ (r : Int) (c2 : List Int), GrS st 3 o (s17 149 5) r c2 → GrS st 2 o (st 149 5) r (c ++ c2)) ∧ (FlS st 3 o (s17 149 5) → FlS st 2 o (st 149 5)) from ⟨cl_lp ++ (c16 ++ [sop (s_lp 149 4)]), CDA_c (CDA_tr (CDA_tr (CDA_f cd_lp (fs15 122 16 rfl rfl) (funext (fun i => fs15 134 i rfl rfl))) cd16) (CDA_one (y := sop (s_lp 149 4)) (g_f122_16 gs16).1 cc17 cf17 (cenc_m (by omega)))) (by simp only [List.nil_append, List.append_assoc, List.cons_append, List.append_nil]), fun r c2 h => (by
              rw [show s17 149 5 = s16 149 5 from fs17 149 5 rfl rfl] at h
              have z := K1_lp r (c16 ++ sop (s_lp 149 4) :: c2) (Gr_prdM (tkS_e (sT_of (fun i => (show aFr m_cProdA st s_lp from fI_lp) 2 i rfl rfl) ((show aFr m_cProdA st s_lp from fI_lp) 1 1 rfl rfl) ((show aFr m_cProdA st s_lp from fI_lp) 148 2 rfl rfl)) (nx_sig rd_lp (fun i hi => ((show aFr m_cProdA st s_lp from fI_lp) 150 i rfl rfl).trans (ow i hi)) nx15 (by omega))) (by omega) (GrS_e (sT_of (fun i => (show aFr m_cProdA st s15 from (fr_tr fI_lp fs15 rfl)) 2 i rfl rfl) ((show aFr m_cProdA st s15 from (fr_tr fI_lp fs15 rfl)) 1 1 rfl rfl) ((show aFr m_cProdA st s15 from (fr_tr fI_lp fs15 rfl)) 148 2 rfl rfl)) g16) h)
              simp only [List.nil_append, List.append_assoc, List.cons_append, List.append_nil] at z ⊢
              exact z), fun h => (by
              rw [show s17 149 5 = s16 149 5 from fs17 149 5 rfl rfl] at h
              exact K2_lp (Fl_prdM2 (tkS_e (sT_of (fun i => (show aFr m_cProdA st s_lp from fI_lp) 2 i rfl rfl) ((show aFr m_cProdA st s_lp from fI_lp) 1 1 rfl rfl) ((show aFr m_cProdA st s_lp from fI_lp) 148 2 rfl rfl)) (nx_sig rd_lp (fun i hi => ((show aFr m_cProdA st s_lp from fI_lp) 150 i rfl rfl).trans (ow i hi)) nx15 (by omega))) (by omega) (GrS_e (sT_of (fun i => (show aFr m_cProdA st s15 from (fr_tr fI_lp fs15 rfl)) 2 i rfl rfl) ((show aFr m_cProdA st s15 from (fr_tr fI_lp fs15 rfl)) 1 1 rfl rfl) ((show aFr m_cProdA st s15 from (fr_tr fI_lp fs15 rfl)) 148 2 rfl rfl)) g16) h))⟩), (show s17 122 16 + 1 ≤ s17 149 5 ∧ 0 ≤ (i + 1) ∧ (i + 1) + 1 ≤ s17 149 5 from by have z1 := tk_lt (tkS_e (sT_of (fun i => (show aFr m_cProdA st s_lp from fI_lp) 2 i rfl rfl) ((show aFr m_cProdA st s_lp from fI_lp) 1 1 rfl rfl) ((show aFr m_cProdA st s_lp from fI_lp) 148 2 rfl rfl)) (nx_sig rd_lp (fun i hi => ((show aFr m_cProdA st s_lp from fI_lp) 150 i rfl rfl).trans (ow i hi)) nx15 (by omega))) rd_lp.1.1 (by omega); omega)⟩ rfl)
          · refine ⟨fun h40 => (by exfalso; omega), fun h40 => ?_⟩
            refine ⟨by omega, ?_⟩
            exact hQ _ _ ⟨gs16, (fr_tr (fr_tr fI_lp fs15 rfl) fs16 rfl), (show ((0 : Int) = 1 ∧ ∃ c : List Int, GrS st 2 o (st 149 5) (s16 149 5) c ∧ RDc s16 ∧ CDA (st 122 16) (s16 122 16) (st 134) (s16 134) c) ∨ ((0 : Int) = 0 ∧ FlS st 2 o (st 149 5)) from Or.inr ⟨rfl, K2_lp (Fl_prdM1 (tkS_e (sT_of (fun i => (show aFr m_cProdA st s_lp from fI_lp) 2 i rfl rfl) ((show aFr m_cProdA st s_lp from fI_lp) 1 1 rfl rfl) ((show aFr m_cProdA st s_lp from fI_lp) 148 2 rfl rfl)) (nx_sig rd_lp (fun i hi => ((show aFr m_cProdA st s_lp from fI_lp) 150 i rfl rfl).trans (ow i hi)) nx15 (by omega))) (by omega) (FlS_e (sT_of (fun i => (show aFr m_cProdA st s15 from (fr_tr fI_lp fs15 rfl)) 2 i rfl rfl) ((show aFr m_cProdA st s15 from (fr_tr fI_lp fs15 rfl)) 1 1 rfl rfl) ((show aFr m_cProdA st s15 from (fr_tr fI_lp fs15 rfl)) 148 2 rfl rfl)) l16))⟩)⟩
        · refine ⟨rfl, fun r18 q18 => ?_⟩
          have b18 := q18
          change (r18 = 0 ∨ r18 = 1) ∧ (r18 = 1 ↔ s_lp 149 3 = 4 ∧ s_lp 149 4 = (47)) at b18
          refine ⟨fun h41 => ?_, fun h41 => ?_⟩
          · refine ⟨rfl, ⟨gI_lp, (show RDc s_lp from rd_lp), (show 1 ≤ s_lp 149 3 ∧ s_lp 149 3 ≤ 4 from by omega)⟩, fun s19 q19 => ?_⟩
            obtain ⟨gs19, fs19, rd19, nx19⟩ := q19
            change RDc s19 at rd19
            change NX s_lp s19 at nx19
            have g44 := g_f148_1 hG
            have e43 : s_lp 148 1 = st 148 1 := fI_lp 148 1 rfl rfl
            have e42 : s19 148 1 = s_lp 148 1 := fs19 148 1 rfl rfl
            have e45 : s19 122 16 = s_lp 122 16 := fs19 122 16 rfl rfl
            have g46 := g_wStart gs19
            refine ⟨rfl, ⟨gs19, (show RDc s19 from rd19), (show cOW s19 from (fun i hi => ((show aFr m_cProdA st s19 from (fr_tr fI_lp fs19 rfl)) 150 i rfl rfl).trans (ow i hi))), (show s19 148 1 = 122 from by omega), (show s19 122 16 + 1 ≤ s19 149 5 from by have z1 := tk_lt (tkS_e (sT_of (fun i => (show aFr m_cProdA st s_lp from fI_lp) 2 i rfl rfl) ((show aFr m_cProdA st s_lp from fI_lp) 1 1 rfl rfl) ((show aFr m_cProdA st s_lp from fI_lp) 148 2 rfl rfl)) (nx_sig rd_lp (fun i hi => ((show aFr m_cProdA st s_lp from fI_lp) 150 i rfl rfl).trans (ow i hi)) nx19 (by omega))) rd_lp.1.1 (by omega); omega), (show 2 + 12 * (7 - o) ≤ (m : Int) from by omega), (show 0 ≤ o ∧ o ≤ 7 from by omega)⟩, fun r20 s20 q20 => ?_⟩
            obtain ⟨gs20, fs20, o20⟩ := q20
            change (r20 = 1 ∧ ∃ c : List Int, GrS s19 4 o (s19 149 5) (s20 149 5) c ∧ RDc s20 ∧ CDA (s19 122 16) (s20 122 16) (s19 134) (s20 134) c) ∨ (r20 = 0 ∧ FlS s19 4 o (s19 149 5)) at o20
            have g47 := g_wStart gs20
            have g48 := g_f122_16 gs20
            rcases o20 with ⟨y20, c20, g20, rd20, cd20⟩ | ⟨y20, l20⟩
            · have gl20 := Gr_len g20 rd19.1.1
              have cn20 := cd20.2.1
              have rb20 := rd20.1
              have rt20 := g_tsize gs20
              refine ⟨fun h49 => ?_, fun h49 => (by exfalso; omega)⟩
              have e50 : s20 148 1 = s19 148 1 := fs20 148 1 rfl rfl
              refine ⟨by omega, ?_⟩
              refine ⟨rfl, ⟨gs20, (show (0 ≤ (s_lp 149 4) ∧ (s_lp 149 4) ≤ 255) ∧ 0 ≤ (0) ∧ (0) ≤ 9999 from by omega), (show s20 122 16 ≤ 1599 from by have z1 := tk_lt (tkS_e (sT_of (fun i => (show aFr m_cProdA st s_lp from fI_lp) 2 i rfl rfl) ((show aFr m_cProdA st s_lp from fI_lp) 1 1 rfl rfl) ((show aFr m_cProdA st s_lp from fI_lp) 148 2 rfl rfl)) (nx_sig rd_lp (fun i hi => ((show aFr m_cProdA st s_lp from fI_lp) 150 i rfl rfl).trans (ow i hi)) nx19 (by omega))) rd_lp.1.1 (by omega); omega)⟩, fun s21 q21 => ?_⟩
              obtain ⟨gs21, fs21, cc21, cf21⟩ := q21
              change s21 122 16 = s20 122 16 + 1 at cc21
              have g51 := g_f122_16 gs21
              change (s21 134) = up1 (s20 134) (s20 122 16).toNat (65536 * (s_lp 149 4) + (0)) at cf21
              refine ⟨by omega, ?_⟩
              have e52 : s21 149 5 = s20 149 5 := fs21 149 5 rfl rfl
              exact hsl _ _ _ _ _ (sb_cons (.head _) (sb_cons (.tail _ (.tail _ (.head _))) (sb_cons (.tail _ (.tail _ (.tail _ (.head _)))) sb_nil))) (ih _ (show (1600 - (i + 1) : Int).toNat < u from by omega) (i + 1) s21 ⟨gs21, (fr_tr (fr_tr (fr_tr fI_lp fs19 rfl) fs20 rfl) fs21 rfl), (show RDc s21 from (RDc_of (fun i => fs21 2 i rfl rfl) (fs21 1 1 rfl rfl) (fs21 149 2 rfl rfl) (fs21 149 3 rfl rfl) (fs21 149 4 rfl rfl) (fs21 149 5 rfl rfl) (fun i => fs21 150 i rfl rfl) rd20)), (show ∃ c : List Int, CDA (st 122 16) (s21 122 16) (st 134) (s21 134) c ∧ (∀ (r : Int) (c2 : List Int), GrS st 3 o (s21 149 5) r c2 → GrS st 2 o (st 149 5) r (c ++ c2)) ∧ (FlS st 3 o (s21 149 5) → FlS st 2 o (st 149 5)) from ⟨cl_lp ++ (c20 ++ [sop (s_lp 149 4)]), CDA_c (CDA_tr (CDA_tr (CDA_f cd_lp (fs19 122 16 rfl rfl) (funext (fun i => fs19 134 i rfl rfl))) cd20) (CDA_one (y := sop (s_lp 149 4)) (g_f122_16 gs20).1 cc21 cf21 (cenc_m (by omega)))) (by simp only [List.nil_append, List.append_assoc, List.cons_append, List.append_nil]), fun r c2 h => (by
              rw [show s21 149 5 = s20 149 5 from fs21 149 5 rfl rfl] at h
              have z := K1_lp r (c20 ++ sop (s_lp 149 4) :: c2) (Gr_prdM (tkS_e (sT_of (fun i => (show aFr m_cProdA st s_lp from fI_lp) 2 i rfl rfl) ((show aFr m_cProdA st s_lp from fI_lp) 1 1 rfl rfl) ((show aFr m_cProdA st s_lp from fI_lp) 148 2 rfl rfl)) (nx_sig rd_lp (fun i hi => ((show aFr m_cProdA st s_lp from fI_lp) 150 i rfl rfl).trans (ow i hi)) nx19 (by omega))) (by omega) (GrS_e (sT_of (fun i => (show aFr m_cProdA st s19 from (fr_tr fI_lp fs19 rfl)) 2 i rfl rfl) ((show aFr m_cProdA st s19 from (fr_tr fI_lp fs19 rfl)) 1 1 rfl rfl) ((show aFr m_cProdA st s19 from (fr_tr fI_lp fs19 rfl)) 148 2 rfl rfl)) g20) h)
              simp only [List.nil_append, List.append_assoc, List.cons_append, List.append_nil] at z ⊢
              exact z), fun h => (by
              rw [show s21 149 5 = s20 149 5 from fs21 149 5 rfl rfl] at h
              exact K2_lp (Fl_prdM2 (tkS_e (sT_of (fun i => (show aFr m_cProdA st s_lp from fI_lp) 2 i rfl rfl) ((show aFr m_cProdA st s_lp from fI_lp) 1 1 rfl rfl) ((show aFr m_cProdA st s_lp from fI_lp) 148 2 rfl rfl)) (nx_sig rd_lp (fun i hi => ((show aFr m_cProdA st s_lp from fI_lp) 150 i rfl rfl).trans (ow i hi)) nx19 (by omega))) (by omega) (GrS_e (sT_of (fun i => (show aFr m_cProdA st s19 from (fr_tr fI_lp fs19 rfl)) 2 i rfl rfl) ((show aFr m_cProdA st s19 from (fr_tr fI_lp fs19 rfl)) 1 1 rfl rfl) ((show aFr m_cProdA st s19 from (fr_tr fI_lp fs19 rfl)) 148 2 rfl rfl)) g20) h))⟩), (show s21 122 16 + 1 ≤ s21 149 5 ∧ 0 ≤ (i + 1) ∧ (i + 1) + 1 ≤ s21 149 5 from by have z1 := tk_lt (tkS_e (sT_of (fun i => (show aFr m_cProdA st s_lp from fI_lp) 2 i rfl rfl) ((show aFr m_cProdA st s_lp from fI_lp) 1 1 rfl rfl) ((show aFr m_cProdA st s_lp from fI_lp) 148 2 rfl rfl)) (nx_sig rd_lp (fun i hi => ((show aFr m_cProdA st s_lp from fI_lp) 150 i rfl rfl).trans (ow i hi)) nx19 (by omega))) rd_lp.1.1 (by omega); omega)⟩ rfl)
            · refine ⟨fun h53 => (by exfalso; omega), fun h53 => ?_⟩
              refine ⟨by omega, ?_⟩
              exact hQ _ _ ⟨gs20, (fr_tr (fr_tr fI_lp fs19 rfl) fs20 rfl), (show ((0 : Int) = 1 ∧ ∃ c : List Int, GrS st 2 o (st 149 5) (s20 149 5) c ∧ RDc s20 ∧ CDA (st 122 16) (s20 122 16) (st 134) (s20 134) c) ∨ ((0 : Int) = 0 ∧ FlS st 2 o (st 149 5)) from Or.inr ⟨rfl, K2_lp (Fl_prdM1 (tkS_e (sT_of (fun i => (show aFr m_cProdA st s_lp from fI_lp) 2 i rfl rfl) ((show aFr m_cProdA st s_lp from fI_lp) 1 1 rfl rfl) ((show aFr m_cProdA st s_lp from fI_lp) 148 2 rfl rfl)) (nx_sig rd_lp (fun i hi => ((show aFr m_cProdA st s_lp from fI_lp) 150 i rfl rfl).trans (ow i hi)) nx19 (by omega))) (by omega) (FlS_e (sT_of (fun i => (show aFr m_cProdA st s19 from (fr_tr fI_lp fs19 rfl)) 2 i rfl rfl) ((show aFr m_cProdA st s19 from (fr_tr fI_lp fs19 rfl)) 1 1 rfl rfl) ((show aFr m_cProdA st s19 from (fr_tr fI_lp fs19 rfl)) 148 2 rfl rfl)) l20))⟩)⟩
          · refine ⟨rfl, fun r22 q22 => ?_⟩
            have b22 := q22
            change (r22 = 0 ∨ r22 = 1) ∧ (r22 = 1 ↔ s_lp 149 3 = 4 ∧ s_lp 149 4 = (37)) at b22
            refine ⟨fun h54 => ?_, fun h54 => ?_⟩
            · refine ⟨rfl, ⟨gI_lp, (show RDc s_lp from rd_lp), (show 1 ≤ s_lp 149 3 ∧ s_lp 149 3 ≤ 4 from by omega)⟩, fun s23 q23 => ?_⟩
              obtain ⟨gs23, fs23, rd23, nx23⟩ := q23
              change RDc s23 at rd23
              change NX s_lp s23 at nx23
              have g57 := g_f148_1 hG
              have e56 : s_lp 148 1 = st 148 1 := fI_lp 148 1 rfl rfl
              have e55 : s23 148 1 = s_lp 148 1 := fs23 148 1 rfl rfl
              have e58 : s23 122 16 = s_lp 122 16 := fs23 122 16 rfl rfl
              have g59 := g_wStart gs23
              refine ⟨rfl, ⟨gs23, (show RDc s23 from rd23), (show cOW s23 from (fun i hi => ((show aFr m_cProdA st s23 from (fr_tr fI_lp fs23 rfl)) 150 i rfl rfl).trans (ow i hi))), (show s23 148 1 = 122 from by omega), (show s23 122 16 + 1 ≤ s23 149 5 from by have z1 := tk_lt (tkS_e (sT_of (fun i => (show aFr m_cProdA st s_lp from fI_lp) 2 i rfl rfl) ((show aFr m_cProdA st s_lp from fI_lp) 1 1 rfl rfl) ((show aFr m_cProdA st s_lp from fI_lp) 148 2 rfl rfl)) (nx_sig rd_lp (fun i hi => ((show aFr m_cProdA st s_lp from fI_lp) 150 i rfl rfl).trans (ow i hi)) nx23 (by omega))) rd_lp.1.1 (by omega); omega), (show 2 + 12 * (7 - o) ≤ (m : Int) from by omega), (show 0 ≤ o ∧ o ≤ 7 from by omega)⟩, fun r24 s24 q24 => ?_⟩
              obtain ⟨gs24, fs24, o24⟩ := q24
              change (r24 = 1 ∧ ∃ c : List Int, GrS s23 4 o (s23 149 5) (s24 149 5) c ∧ RDc s24 ∧ CDA (s23 122 16) (s24 122 16) (s23 134) (s24 134) c) ∨ (r24 = 0 ∧ FlS s23 4 o (s23 149 5)) at o24
              have g60 := g_wStart gs24
              have g61 := g_f122_16 gs24
              rcases o24 with ⟨y24, c24, g24, rd24, cd24⟩ | ⟨y24, l24⟩
              · have gl24 := Gr_len g24 rd23.1.1
                have cn24 := cd24.2.1
                have rb24 := rd24.1
                have rt24 := g_tsize gs24
                refine ⟨fun h62 => ?_, fun h62 => (by exfalso; omega)⟩
                have e63 : s24 148 1 = s23 148 1 := fs24 148 1 rfl rfl
                refine ⟨by omega, ?_⟩
                refine ⟨rfl, ⟨gs24, (show (0 ≤ (s_lp 149 4) ∧ (s_lp 149 4) ≤ 255) ∧ 0 ≤ (0) ∧ (0) ≤ 9999 from by omega), (show s24 122 16 ≤ 1599 from by have z1 := tk_lt (tkS_e (sT_of (fun i => (show aFr m_cProdA st s_lp from fI_lp) 2 i rfl rfl) ((show aFr m_cProdA st s_lp from fI_lp) 1 1 rfl rfl) ((show aFr m_cProdA st s_lp from fI_lp) 148 2 rfl rfl)) (nx_sig rd_lp (fun i hi => ((show aFr m_cProdA st s_lp from fI_lp) 150 i rfl rfl).trans (ow i hi)) nx23 (by omega))) rd_lp.1.1 (by omega); omega)⟩, fun s25 q25 => ?_⟩
                obtain ⟨gs25, fs25, cc25, cf25⟩ := q25
                change s25 122 16 = s24 122 16 + 1 at cc25
                have g64 := g_f122_16 gs25
                change (s25 134) = up1 (s24 134) (s24 122 16).toNat (65536 * (s_lp 149 4) + (0)) at cf25
                refine ⟨by omega, ?_⟩
                have e65 : s25 149 5 = s24 149 5 := fs25 149 5 rfl rfl
                exact hsl _ _ _ _ _ (sb_cons (.head _) (sb_cons (.tail _ (.tail _ (.head _))) (sb_cons (.tail _ (.tail _ (.tail _ (.head _)))) sb_nil))) (ih _ (show (1600 - (i + 1) : Int).toNat < u from by omega) (i + 1) s25 ⟨gs25, (fr_tr (fr_tr (fr_tr fI_lp fs23 rfl) fs24 rfl) fs25 rfl), (show RDc s25 from (RDc_of (fun i => fs25 2 i rfl rfl) (fs25 1 1 rfl rfl) (fs25 149 2 rfl rfl) (fs25 149 3 rfl rfl) (fs25 149 4 rfl rfl) (fs25 149 5 rfl rfl) (fun i => fs25 150 i rfl rfl) rd24)), (show ∃ c : List Int, CDA (st 122 16) (s25 122 16) (st 134) (s25 134) c ∧ (∀ (r : Int) (c2 : List Int), GrS st 3 o (s25 149 5) r c2 → GrS st 2 o (st 149 5) r (c ++ c2)) ∧ (FlS st 3 o (s25 149 5) → FlS st 2 o (st 149 5)) from ⟨cl_lp ++ (c24 ++ [sop (s_lp 149 4)]), CDA_c (CDA_tr (CDA_tr (CDA_f cd_lp (fs23 122 16 rfl rfl) (funext (fun i => fs23 134 i rfl rfl))) cd24) (CDA_one (y := sop (s_lp 149 4)) (g_f122_16 gs24).1 cc25 cf25 (cenc_m (by omega)))) (by simp only [List.nil_append, List.append_assoc, List.cons_append, List.append_nil]), fun r c2 h => (by
              rw [show s25 149 5 = s24 149 5 from fs25 149 5 rfl rfl] at h
              have z := K1_lp r (c24 ++ sop (s_lp 149 4) :: c2) (Gr_prdM (tkS_e (sT_of (fun i => (show aFr m_cProdA st s_lp from fI_lp) 2 i rfl rfl) ((show aFr m_cProdA st s_lp from fI_lp) 1 1 rfl rfl) ((show aFr m_cProdA st s_lp from fI_lp) 148 2 rfl rfl)) (nx_sig rd_lp (fun i hi => ((show aFr m_cProdA st s_lp from fI_lp) 150 i rfl rfl).trans (ow i hi)) nx23 (by omega))) (by omega) (GrS_e (sT_of (fun i => (show aFr m_cProdA st s23 from (fr_tr fI_lp fs23 rfl)) 2 i rfl rfl) ((show aFr m_cProdA st s23 from (fr_tr fI_lp fs23 rfl)) 1 1 rfl rfl) ((show aFr m_cProdA st s23 from (fr_tr fI_lp fs23 rfl)) 148 2 rfl rfl)) g24) h)
              simp only [List.nil_append, List.append_assoc, List.cons_append, List.append_nil] at z ⊢
              exact z), fun h => (by
              rw [show s25 149 5 = s24 149 5 from fs25 149 5 rfl rfl] at h
              exact K2_lp (Fl_prdM2 (tkS_e (sT_of (fun i => (show aFr m_cProdA st s_lp from fI_lp) 2 i rfl rfl) ((show aFr m_cProdA st s_lp from fI_lp) 1 1 rfl rfl) ((show aFr m_cProdA st s_lp from fI_lp) 148 2 rfl rfl)) (nx_sig rd_lp (fun i hi => ((show aFr m_cProdA st s_lp from fI_lp) 150 i rfl rfl).trans (ow i hi)) nx23 (by omega))) (by omega) (GrS_e (sT_of (fun i => (show aFr m_cProdA st s23 from (fr_tr fI_lp fs23 rfl)) 2 i rfl rfl) ((show aFr m_cProdA st s23 from (fr_tr fI_lp fs23 rfl)) 1 1 rfl rfl) ((show aFr m_cProdA st s23 from (fr_tr fI_lp fs23 rfl)) 148 2 rfl rfl)) g24) h))⟩), (show s25 122 16 + 1 ≤ s25 149 5 ∧ 0 ≤ (i + 1) ∧ (i + 1) + 1 ≤ s25 149 5 from by have z1 := tk_lt (tkS_e (sT_of (fun i => (show aFr m_cProdA st s_lp from fI_lp) 2 i rfl rfl) ((show aFr m_cProdA st s_lp from fI_lp) 1 1 rfl rfl) ((show aFr m_cProdA st s_lp from fI_lp) 148 2 rfl rfl)) (nx_sig rd_lp (fun i hi => ((show aFr m_cProdA st s_lp from fI_lp) 150 i rfl rfl).trans (ow i hi)) nx23 (by omega))) rd_lp.1.1 (by omega); omega)⟩ rfl)
              · refine ⟨fun h66 => (by exfalso; omega), fun h66 => ?_⟩
                refine ⟨by omega, ?_⟩
                exact hQ _ _ ⟨gs24, (fr_tr (fr_tr fI_lp fs23 rfl) fs24 rfl), (show ((0 : Int) = 1 ∧ ∃ c : List Int, GrS st 2 o (st 149 5) (s24 149 5) c ∧ RDc s24 ∧ CDA (st 122 16) (s24 122 16) (st 134) (s24 134) c) ∨ ((0 : Int) = 0 ∧ FlS st 2 o (st 149 5)) from Or.inr ⟨rfl, K2_lp (Fl_prdM1 (tkS_e (sT_of (fun i => (show aFr m_cProdA st s_lp from fI_lp) 2 i rfl rfl) ((show aFr m_cProdA st s_lp from fI_lp) 1 1 rfl rfl) ((show aFr m_cProdA st s_lp from fI_lp) 148 2 rfl rfl)) (nx_sig rd_lp (fun i hi => ((show aFr m_cProdA st s_lp from fI_lp) 150 i rfl rfl).trans (ow i hi)) nx23 (by omega))) (by omega) (FlS_e (sT_of (fun i => (show aFr m_cProdA st s23 from (fr_tr fI_lp fs23 rfl)) 2 i rfl rfl) ((show aFr m_cProdA st s23 from (fr_tr fI_lp fs23 rfl)) 1 1 rfl rfl) ((show aFr m_cProdA st s23 from (fr_tr fI_lp fs23 rfl)) 148 2 rfl rfl)) l24))⟩)⟩
            · refine ⟨by omega, ?_⟩
              exact hQ _ _ ⟨gI_lp, fI_lp, (show ((1 : Int) = 1 ∧ ∃ c : List Int, GrS st 2 o (st 149 5) (s_lp 149 5) c ∧ RDc s_lp ∧ CDA (st 122 16) (s_lp 122 16) (st 134) (s_lp 134) c) ∨ ((1 : Int) = 0 ∧ FlS st 2 o (st 149 5)) from (by
            obtain ⟨tk_, tv_, te_, ht_, hv_⟩ := rd_tk rd_lp (fun i hi => ((show aFr m_cProdA st s_lp from fI_lp) 150 i rfl rfl).trans (ow i hi))
            have z := K1_lp _ [] (Gr_prdE (tkS_e (sT_of (fun i => (show aFr m_cProdA st s_lp from fI_lp) 2 i rfl rfl) ((show aFr m_cProdA st s_lp from fI_lp) 1 1 rfl rfl) ((show aFr m_cProdA st s_lp from fI_lp) 148 2 rfl rfl)) ht_) (fun z => by have z0 := tv_s hv_ 42; have z1 := tv_s hv_ 47; have z2 := tv_s hv_ 37; omega))
            exact Or.inl ⟨rfl, _, z, rd_lp, CDA_c cd_lp (by simp only [List.nil_append, List.append_assoc, List.cons_append, List.append_nil])⟩))⟩
  refine dr1_ok (Rt := Q) (wc := (wcL [(255, k_cPartA m), (302, k_cIsSign), (143, k_cNext), (282, k_cAddCodeA), (236, k_cUnfit)])) (stp := [12]) hcm hcl [(83, 122)] [] 71 ?_
  show (148 = 148 ∧ (rq_cPartA m o st ∧ (∀ (r67 : Int) (s67 : zS), en_cPartA m o st r67 s67 → ((¬ r67 = (0 : Int) → K (rx_find rx_m254 12) [(2, .inl 0), (0, .inr (.inr (.inl 148))), (1, .inl o)] [] s67) ∧ (¬ (¬ r67 = (0 : Int)) → ((0 = (0 : Int) ∨ 0 = (1 : Int)) ∧ Q (some (.inl 0)) s67))))))
  refine ⟨rfl, ⟨hG, (show RDc st from rd), (show cOW st from ow), (show st 148 1 = 122 from by omega), (show st 122 16 + 1 ≤ st 149 5 from by omega), (show 2 + 12 * (7 - o) ≤ (m : Int) from by omega), (show 0 ≤ o ∧ o ≤ 7 from by omega)⟩, fun r67 s67 q67 => ?_⟩
  obtain ⟨gs67, fs67, o67⟩ := q67
  change (r67 = 1 ∧ ∃ c : List Int, GrS st 4 o (st 149 5) (s67 149 5) c ∧ RDc s67 ∧ CDA (st 122 16) (s67 122 16) (st 134) (s67 134) c) ∨ (r67 = 0 ∧ FlS st 4 o (st 149 5)) at o67
  have g68 := g_wStart gs67
  have g69 := g_f122_16 gs67
  rcases o67 with ⟨y67, c67, g67, rd67, cd67⟩ | ⟨y67, l67⟩
  · have gl67 := Gr_len g67 rd.1.1
    have cn67 := cd67.2.1
    have rb67 := rd67.1
    have rt67 := g_tsize gs67
    refine ⟨fun h70 => ?_, fun h70 => (by exfalso; omega)⟩
    exact lp _ 0 s67 ⟨gs67, (fr_tr (fr_rf _ _) fs67 rfl), (show RDc s67 from rd67), (show ∃ c : List Int, CDA (st 122 16) (s67 122 16) (st 134) (s67 134) c ∧ (∀ (r : Int) (c2 : List Int), GrS st 3 o (s67 149 5) r c2 → GrS st 2 o (st 149 5) r (c ++ c2)) ∧ (FlS st 3 o (s67 149 5) → FlS st 2 o (st 149 5)) from ⟨c67, CDA_c (CDA_tr (CDA_nil (st 134) (g_f122_16 hG).1) cd67) (by simp only [List.nil_append, List.append_assoc, List.cons_append, List.append_nil]), fun r c2 h => Gr_prd g67 h, fun h => Fl_prd2 g67 h⟩), (show s67 122 16 + 1 ≤ s67 149 5 ∧ 0 ≤ (0 : Int) ∧ (0 : Int) + 1 ≤ s67 149 5 from by omega)⟩ rfl
  · refine ⟨fun h71 => (by exfalso; omega), fun h71 => ?_⟩
    refine ⟨by omega, ?_⟩
    exact hQ _ _ ⟨gs67, (fr_tr (fr_rf _ _) fs67 rfl), (show ((0 : Int) = 1 ∧ ∃ c : List Int, GrS st 2 o (st 149 5) (s67 149 5) c ∧ RDc s67 ∧ CDA (st 122 16) (s67 122 16) (st 134) (s67 134) c) ∨ ((0 : Int) = 0 ∧ FlS st 2 o (st 149 5)) from Or.inr ⟨rfl, Fl_prd1 l67⟩)⟩
theorem k_cProdA_m (hTb : aTb zSh rx_tb cl) {m : Nat} (hB : BNDA cl m) {D : Nat} (hD : m + 21 ≤ D) : ∀ as st (Q Q' : zQ), (∀ r st', Q r st' → Q' r st') → k_cProdA (m + 1) 254 as st Q → cl D 254 as st Q' := by
  intro as st Q Q' hQ h
  unfold k_cProdA at h
  split at h
  · obtain ⟨rfl, h⟩ := h
    exact c_cProdA hTb hB hD (ct_cProdA_m hQ h)
  · exact h.elim
set_option maxHeartbeats 4000000 in
set_option maxRecDepth 100000 in
theorem c_cTestA (hTb : aTb zSh rx_tb cl) {m : Nat} (hB : BNDA cl m) {D : Nat} (hD : m + 21 ≤ D) {o : Int} {st : zS} {Q : zQ} (h : ct_cTestA (m + 1) o st Q) : cl D 259 [.inr (.inr (.inl 148)), .inl o] st Q := by
  obtain ⟨d, rfl⟩ : ∃ d, D = d + 1 := ⟨D - 1, by omega⟩
  refine hTb d 259 (rx_m259, 3, 0, 0, 2) rfl _ _ _ (Nat.le_of_ble_eq_true rfl) (fun K hcl hsf hsl => ?_)
  have hcm : zmo (wcL [(260, k_cBothA m), (301, k_cIsOwn), (143, k_cNext), (282, k_cAddCodeA), (236, k_cUnfit)]) (cl d) := (wcL_m (wm_cons ((hB d (by omega)).2.1) (wm_cons (k_cIsOwn_m hTb (by omega)) (wm_cons (k_cNext_m hTb (by omega)) (wm_cons (k_cAddCodeA_m hTb (by omega)) (wm_cons (k_cUnfit_m hTb (by omega)) wm_nil))))))
  obtain ⟨hR, hQ⟩ := h
  obtain ⟨hG, rd, ow, tw, cb, dd, oo⟩ := hR
  change RDc st at rd
  change cOW st at ow
  change st 148 1 = 122 at tw
  change st 122 16 + 1 ≤ st 149 5 at cb
  change 0 ≤ o ∧ o ≤ 7 at oo
  have rb := rd.1
  have g1 := g_f148_1 hG
  have g2 := g_f122_16 hG
  have g3 := g_wStart hG
  have g4 := g_wKind hG
  have g5 := g_wValue hG
  have g6 := g_tsize hG
  have lp : ∀ (u : Nat) (i : Int) (s_lp : zS), gInv zgt s_lp ∧ aFr m_cTestA st s_lp ∧ (RDc s_lp) ∧ (∃ c : List Int, CDA (st 122 16) (s_lp 122 16) (st 134) (s_lp 134) c ∧ (∀ (r : Int) (c2 : List Int), GrS st 6 o (s_lp 149 5) r c2 → GrS st 5 o (st 149 5) r (c ++ c2)) ∧ (FlS st 6 o (s_lp 149 5) → FlS st 5 o (st 149 5))) ∧ (s_lp 122 16 + 1 ≤ s_lp 149 5 ∧ 0 ≤ i ∧ i + 1 ≤ s_lp 149 5) → (1600 - i).toNat = u → K (rx_find rx_m259 12) [(2, .inl i), (0, .inr (.inr (.inl 148))), (1, .inl o)] [] s_lp := by
    intro u
    induction u using Nat.strongRecOn with
    | _ u ih =>
      intro i s_lp hi hu
      obtain ⟨gI_lp, fI_lp, rd_lp, o_lp, cb_lp⟩ := hi
      obtain ⟨cl_lp, cd_lp, K1_lp, K2_lp⟩ := o_lp
      have rb_lp := rd_lp.1
      have rt_lp := g_tsize gI_lp
      have g7 := g_f122_16 hG
      have g8 := g_f122_16 gI_lp
      have g9 := g_wStart gI_lp
      have g10 := g_wStart hG
      have g11 := g_wKind gI_lp
      have g12 := g_wValue gI_lp
      refine dr1_ok (Rt := Q) (wc := (wcL [(260, k_cBothA m), (301, k_cIsOwn), (143, k_cNext), (282, k_cAddCodeA), (236, k_cUnfit)])) (stp := [12]) hcm hcl [(51, 122)] [] 57 ?_
      show (((1600 : Int) ≤ i → (148 = 148 ∧ (rq_cUnfit  s_lp ∧ (((0 = (0 : Int) ∨ 0 = (1 : Int)) ∧ Q (some (.inl 0)) (zup (zup s_lp 148 3 1) 148 4 (s_lp 149 6))))))) ∧ (¬ ((1600 : Int) ≤ i) → (149 = 149 ∧ (∀ (r14 : Int), en_cIsOwn (20) s_lp r14 → ((¬ r14 = (0 : Int) → (149 = 149 ∧ (rq_cNext  s_lp ∧ (∀ (s15 : zS), en_cNext  s_lp s15 → (148 = 148 ∧ (rq_cBothA m o s15 ∧ (∀ (r16 : Int) (s16 : zS), en_cBothA m o s15 r16 s16 → ((¬ r16 = (0 : Int) → ((s16 148 1 = (122 : Int)) ∧ (122 = 122 ∧ (rq_cAddCodeA (20) (0) s16 ∧ (∀ (s17 : zS), en_cAddCodeA (20) (0) s16 s17 → ((-2147483648 ≤ i + 1 ∧ i + 1 ≤ 2147483647) ∧ K (rx_find rx_m259 12) [(2, .inl (i + 1)), (0, .inr (.inr (.inl 148))), (1, .inl o)] [] s17)))))) ∧ (¬ (¬ r16 = (0 : Int)) → ((0 = (0 : Int) ∨ 0 = (1 : Int)) ∧ Q (some (.inl 0)) s16)))))))))) ∧ (¬ (¬ r14 = (0 : Int)) → ((1 = (0 : Int) ∨ 1 = (1 : Int)) ∧ Q (some (.inl 1)) s_lp)))))))
      refine ⟨fun h18 => ?_, fun h18 => ?_⟩
      · have g19 := g_wSpot gI_lp
        refine ⟨rfl, gI_lp, ?_⟩
        refine ⟨by omega, ?_⟩
        exact hQ _ _ ⟨(gInv_up (gInv_up gI_lp (p_rFault (by omega))) (p_rFaultAt (by omega))), (fr_f (fr_f fI_lp rfl) rfl), (show ((0 : Int) = 1 ∧ ∃ c : List Int, GrS st 5 o (st 149 5) (s_lp 149 5) c ∧ RDc (zup (zup s_lp 148 3 1) 148 4 (s_lp 149 6)) ∧ CDA (st 122 16) (s_lp 122 16) (st 134) (s_lp 134) c) ∨ ((0 : Int) = 0 ∧ FlS st 5 o (st 149 5)) from (by exfalso; have z1 := rd_lp.1; have z2 := g_tsize gI_lp; omega))⟩
      · refine ⟨rfl, fun r14 q14 => ?_⟩
        have b14 := q14
        change (r14 = 0 ∨ r14 = 1) ∧ (r14 = 1 ↔ s_lp 149 3 = 2 ∧ s_lp 149 4 = (20)) at b14
        refine ⟨fun h20 => ?_, fun h20 => ?_⟩
        · refine ⟨rfl, ⟨gI_lp, (show RDc s_lp from rd_lp), (show 1 ≤ s_lp 149 3 ∧ s_lp 149 3 ≤ 4 from by omega)⟩, fun s15 q15 => ?_⟩
          obtain ⟨gs15, fs15, rd15, nx15⟩ := q15
          change RDc s15 at rd15
          change NX s_lp s15 at nx15
          have g23 := g_f148_1 hG
          have e22 : s_lp 148 1 = st 148 1 := fI_lp 148 1 rfl rfl
          have e21 : s15 148 1 = s_lp 148 1 := fs15 148 1 rfl rfl
          have e24 : s15 122 16 = s_lp 122 16 := fs15 122 16 rfl rfl
          have g25 := g_wStart gs15
          refine ⟨rfl, ⟨gs15, (show RDc s15 from rd15), (show cOW s15 from (fun i hi => ((show aFr m_cTestA st s15 from (fr_tr fI_lp fs15 rfl)) 150 i rfl rfl).trans (ow i hi))), (show s15 148 1 = 122 from by omega), (show s15 122 16 + 1 ≤ s15 149 5 from by have z1 := tk_lt ((show tk (ctx st) (st 1 1) _ 1 (28530 : Int) _ from tkS_e (sT_of (fun i => (show aFr m_cTestA st s_lp from fI_lp) 2 i rfl rfl) ((show aFr m_cTestA st s_lp from fI_lp) 1 1 rfl rfl) ((show aFr m_cTestA st s_lp from fI_lp) 148 2 rfl rfl)) (nx_ow 20 rd_lp (fun i hi => ((show aFr m_cTestA st s_lp from fI_lp) 150 i rfl rfl).trans (ow i hi)) nx15 (by omega) (by omega) rfl))) rd_lp.1.1 (by omega); omega), (show 7 + 12 * (7 - o) ≤ (m : Int) from by omega), (show 0 ≤ o ∧ o ≤ 7 from by omega)⟩, fun r16 s16 q16 => ?_⟩
          obtain ⟨gs16, fs16, o16⟩ := q16
          change (r16 = 1 ∧ ∃ c : List Int, GrS s15 7 o (s15 149 5) (s16 149 5) c ∧ RDc s16 ∧ CDA (s15 122 16) (s16 122 16) (s15 134) (s16 134) c) ∨ (r16 = 0 ∧ FlS s15 7 o (s15 149 5)) at o16
          have g26 := g_wStart gs16
          have g27 := g_f122_16 gs16
          rcases o16 with ⟨y16, c16, g16, rd16, cd16⟩ | ⟨y16, l16⟩
          · have gl16 := Gr_len g16 rd15.1.1
            have cn16 := cd16.2.1
            have rb16 := rd16.1
            have rt16 := g_tsize gs16
            refine ⟨fun h28 => ?_, fun h28 => (by exfalso; omega)⟩
            have e29 : s16 148 1 = s15 148 1 := fs16 148 1 rfl rfl
            refine ⟨by omega, ?_⟩
            refine ⟨rfl, ⟨gs16, (show (0 ≤ (20) ∧ (20) ≤ 255) ∧ 0 ≤ (0) ∧ (0) ≤ 9999 from by omega), (show s16 122 16 ≤ 1599 from by have z1 := tk_lt ((show tk (ctx st) (st 1 1) _ 1 (28530 : Int) _ from tkS_e (sT_of (fun i => (show aFr m_cTestA st s_lp from fI_lp) 2 i rfl rfl) ((show aFr m_cTestA st s_lp from fI_lp) 1 1 rfl rfl) ((show aFr m_cTestA st s_lp from fI_lp) 148 2 rfl rfl)) (nx_ow 20 rd_lp (fun i hi => ((show aFr m_cTestA st s_lp from fI_lp) 150 i rfl rfl).trans (ow i hi)) nx15 (by omega) (by omega) rfl))) rd_lp.1.1 (by omega); omega)⟩, fun s17 q17 => ?_⟩
            obtain ⟨gs17, fs17, cc17, cf17⟩ := q17
            change s17 122 16 = s16 122 16 + 1 at cc17
            have g30 := g_f122_16 gs17
            change (s17 134) = up1 (s16 134) (s16 122 16).toNat (65536 * (20) + (0)) at cf17
            refine ⟨by omega, ?_⟩
            have e31 : s17 149 5 = s16 149 5 := fs17 149 5 rfl rfl
            exact ih _ (show (1600 - (i + 1) : Int).toNat < u from by omega) (i + 1) s17 ⟨gs17, (fr_tr (fr_tr (fr_tr fI_lp fs15 rfl) fs16 rfl) fs17 rfl), (show RDc s17 from (RDc_of (fun i => fs17 2 i rfl rfl) (fs17 1 1 rfl rfl) (fs17 149 2 rfl rfl) (fs17 149 3 rfl rfl) (fs17 149 4 rfl rfl) (fs17 149 5 rfl rfl) (fun i => fs17 150 i rfl rfl) rd16)), (show ∃ c : List Int, CDA (st 122 16) (s17 122 16) (st 134) (s17 134) c ∧ (∀ (r : Int) (c2 : List Int), GrS st 6 o (s17 149 5) r c2 → GrS st 5 o (st 149 5) r (c ++ c2)) ∧ (FlS st 6 o (s17 149 5) → FlS st 5 o (st 149 5)) from ⟨cl_lp ++ (c16 ++ [42]), CDA_c (CDA_tr (CDA_tr (CDA_f cd_lp (fs15 122 16 rfl rfl) (funext (fun i => fs15 134 i rfl rfl))) cd16) (CDA_one (y := 42) (g_f122_16 gs16).1 cc17 cf17 rfl)) (by simp only [List.nil_append, List.append_assoc, List.cons_append, List.append_nil]), fun r c2 h => (by
              rw [show s17 149 5 = s16 149 5 from fs17 149 5 rfl rfl] at h
              have z := K1_lp r (c16 ++ 42 :: c2) (Gr_tstM ((show tk (ctx st) (st 1 1) _ 1 (28530 : Int) _ from tkS_e (sT_of (fun i => (show aFr m_cTestA st s_lp from fI_lp) 2 i rfl rfl) ((show aFr m_cTestA st s_lp from fI_lp) 1 1 rfl rfl) ((show aFr m_cTestA st s_lp from fI_lp) 148 2 rfl rfl)) (nx_ow 20 rd_lp (fun i hi => ((show aFr m_cTestA st s_lp from fI_lp) 150 i rfl rfl).trans (ow i hi)) nx15 (by omega) (by omega) rfl))) (GrS_e (sT_of (fun i => (show aFr m_cTestA st s15 from (fr_tr fI_lp fs15 rfl)) 2 i rfl rfl) ((show aFr m_cTestA st s15 from (fr_tr fI_lp fs15 rfl)) 1 1 rfl rfl) ((show aFr m_cTestA st s15 from (fr_tr fI_lp fs15 rfl)) 148 2 rfl rfl)) g16) h)
              simp only [List.nil_append, List.append_assoc, List.cons_append, List.append_nil] at z ⊢
              exact z), fun h => (by
              rw [show s17 149 5 = s16 149 5 from fs17 149 5 rfl rfl] at h
              exact K2_lp (Fl_tstM2 ((show tk (ctx st) (st 1 1) _ 1 (28530 : Int) _ from tkS_e (sT_of (fun i => (show aFr m_cTestA st s_lp from fI_lp) 2 i rfl rfl) ((show aFr m_cTestA st s_lp from fI_lp) 1 1 rfl rfl) ((show aFr m_cTestA st s_lp from fI_lp) 148 2 rfl rfl)) (nx_ow 20 rd_lp (fun i hi => ((show aFr m_cTestA st s_lp from fI_lp) 150 i rfl rfl).trans (ow i hi)) nx15 (by omega) (by omega) rfl))) (GrS_e (sT_of (fun i => (show aFr m_cTestA st s15 from (fr_tr fI_lp fs15 rfl)) 2 i rfl rfl) ((show aFr m_cTestA st s15 from (fr_tr fI_lp fs15 rfl)) 1 1 rfl rfl) ((show aFr m_cTestA st s15 from (fr_tr fI_lp fs15 rfl)) 148 2 rfl rfl)) g16) h))⟩), (show s17 122 16 + 1 ≤ s17 149 5 ∧ 0 ≤ (i + 1) ∧ (i + 1) + 1 ≤ s17 149 5 from by have z1 := tk_lt ((show tk (ctx st) (st 1 1) _ 1 (28530 : Int) _ from tkS_e (sT_of (fun i => (show aFr m_cTestA st s_lp from fI_lp) 2 i rfl rfl) ((show aFr m_cTestA st s_lp from fI_lp) 1 1 rfl rfl) ((show aFr m_cTestA st s_lp from fI_lp) 148 2 rfl rfl)) (nx_ow 20 rd_lp (fun i hi => ((show aFr m_cTestA st s_lp from fI_lp) 150 i rfl rfl).trans (ow i hi)) nx15 (by omega) (by omega) rfl))) rd_lp.1.1 (by omega); omega)⟩ rfl
          · refine ⟨fun h32 => (by exfalso; omega), fun h32 => ?_⟩
            refine ⟨by omega, ?_⟩
            exact hQ _ _ ⟨gs16, (fr_tr (fr_tr fI_lp fs15 rfl) fs16 rfl), (show ((0 : Int) = 1 ∧ ∃ c : List Int, GrS st 5 o (st 149 5) (s16 149 5) c ∧ RDc s16 ∧ CDA (st 122 16) (s16 122 16) (st 134) (s16 134) c) ∨ ((0 : Int) = 0 ∧ FlS st 5 o (st 149 5)) from Or.inr ⟨rfl, K2_lp (Fl_tstM1 ((show tk (ctx st) (st 1 1) _ 1 (28530 : Int) _ from tkS_e (sT_of (fun i => (show aFr m_cTestA st s_lp from fI_lp) 2 i rfl rfl) ((show aFr m_cTestA st s_lp from fI_lp) 1 1 rfl rfl) ((show aFr m_cTestA st s_lp from fI_lp) 148 2 rfl rfl)) (nx_ow 20 rd_lp (fun i hi => ((show aFr m_cTestA st s_lp from fI_lp) 150 i rfl rfl).trans (ow i hi)) nx15 (by omega) (by omega) rfl))) (FlS_e (sT_of (fun i => (show aFr m_cTestA st s15 from (fr_tr fI_lp fs15 rfl)) 2 i rfl rfl) ((show aFr m_cTestA st s15 from (fr_tr fI_lp fs15 rfl)) 1 1 rfl rfl) ((show aFr m_cTestA st s15 from (fr_tr fI_lp fs15 rfl)) 148 2 rfl rfl)) l16))⟩)⟩
        · refine ⟨by omega, ?_⟩
          exact hQ _ _ ⟨gI_lp, fI_lp, (show ((1 : Int) = 1 ∧ ∃ c : List Int, GrS st 5 o (st 149 5) (s_lp 149 5) c ∧ RDc s_lp ∧ CDA (st 122 16) (s_lp 122 16) (st 134) (s_lp 134) c) ∨ ((1 : Int) = 0 ∧ FlS st 5 o (st 149 5)) from (by
            obtain ⟨tk_, tv_, te_, ht_, hv_⟩ := rd_tk rd_lp (fun i hi => ((show aFr m_cTestA st s_lp from fI_lp) 150 i rfl rfl).trans (ow i hi))
            have z := K1_lp _ [] (Gr_tstE (tkS_e (sT_of (fun i => (show aFr m_cTestA st s_lp from fI_lp) 2 i rfl rfl) ((show aFr m_cTestA st s_lp from fI_lp) 1 1 rfl rfl) ((show aFr m_cTestA st s_lp from fI_lp) 148 2 rfl rfl)) ht_) (fun z => by have z0 := (tv_w hv_ 20 (by omega)).mp z; omega))
            exact Or.inl ⟨rfl, _, z, rd_lp, CDA_c cd_lp (by simp only [List.nil_append, List.append_assoc, List.cons_append, List.append_nil])⟩))⟩
  refine dr1_ok (Rt := Q) (wc := (wcL [(260, k_cBothA m), (301, k_cIsOwn), (143, k_cNext), (282, k_cAddCodeA), (236, k_cUnfit)])) (stp := [12]) hcm hcl [(51, 122)] [] 57 ?_
  show (148 = 148 ∧ (rq_cBothA m o st ∧ (∀ (r33 : Int) (s33 : zS), en_cBothA m o st r33 s33 → ((¬ r33 = (0 : Int) → K (rx_find rx_m259 12) [(2, .inl 0), (0, .inr (.inr (.inl 148))), (1, .inl o)] [] s33) ∧ (¬ (¬ r33 = (0 : Int)) → ((0 = (0 : Int) ∨ 0 = (1 : Int)) ∧ Q (some (.inl 0)) s33))))))
  refine ⟨rfl, ⟨hG, (show RDc st from rd), (show cOW st from ow), (show st 148 1 = 122 from by omega), (show st 122 16 + 1 ≤ st 149 5 from by omega), (show 7 + 12 * (7 - o) ≤ (m : Int) from by omega), (show 0 ≤ o ∧ o ≤ 7 from by omega)⟩, fun r33 s33 q33 => ?_⟩
  obtain ⟨gs33, fs33, o33⟩ := q33
  change (r33 = 1 ∧ ∃ c : List Int, GrS st 7 o (st 149 5) (s33 149 5) c ∧ RDc s33 ∧ CDA (st 122 16) (s33 122 16) (st 134) (s33 134) c) ∨ (r33 = 0 ∧ FlS st 7 o (st 149 5)) at o33
  have g34 := g_wStart gs33
  have g35 := g_f122_16 gs33
  rcases o33 with ⟨y33, c33, g33, rd33, cd33⟩ | ⟨y33, l33⟩
  · have gl33 := Gr_len g33 rd.1.1
    have cn33 := cd33.2.1
    have rb33 := rd33.1
    have rt33 := g_tsize gs33
    refine ⟨fun h36 => ?_, fun h36 => (by exfalso; omega)⟩
    exact lp _ 0 s33 ⟨gs33, (fr_tr (fr_rf _ _) fs33 rfl), (show RDc s33 from rd33), (show ∃ c : List Int, CDA (st 122 16) (s33 122 16) (st 134) (s33 134) c ∧ (∀ (r : Int) (c2 : List Int), GrS st 6 o (s33 149 5) r c2 → GrS st 5 o (st 149 5) r (c ++ c2)) ∧ (FlS st 6 o (s33 149 5) → FlS st 5 o (st 149 5)) from ⟨c33, CDA_c (CDA_tr (CDA_nil (st 134) (g_f122_16 hG).1) cd33) (by simp only [List.nil_append, List.append_assoc, List.cons_append, List.append_nil]), fun r c2 h => Gr_tst g33 h, fun h => Fl_tst2 g33 h⟩), (show s33 122 16 + 1 ≤ s33 149 5 ∧ 0 ≤ (0 : Int) ∧ (0 : Int) + 1 ≤ s33 149 5 from by omega)⟩ rfl
  · refine ⟨fun h37 => (by exfalso; omega), fun h37 => ?_⟩
    refine ⟨by omega, ?_⟩
    exact hQ _ _ ⟨gs33, (fr_tr (fr_rf _ _) fs33 rfl), (show ((0 : Int) = 1 ∧ ∃ c : List Int, GrS st 5 o (st 149 5) (s33 149 5) c ∧ RDc s33 ∧ CDA (st 122 16) (s33 122 16) (st 134) (s33 134) c) ∨ ((0 : Int) = 0 ∧ FlS st 5 o (st 149 5)) from Or.inr ⟨rfl, Fl_tst1 l33⟩)⟩
theorem k_cTestA_m (hTb : aTb zSh rx_tb cl) {m : Nat} (hB : BNDA cl m) {D : Nat} (hD : m + 21 ≤ D) : ∀ as st (Q Q' : zQ), (∀ r st', Q r st' → Q' r st') → k_cTestA (m + 1) 259 as st Q → cl D 259 as st Q' := by
  intro as st Q Q' hQ h
  unfold k_cTestA at h
  split at h
  · obtain ⟨rfl, h⟩ := h
    exact c_cTestA hTb hB hD (ct_cTestA_m hQ h)
  · exact h.elim
set_option maxHeartbeats 4000000 in
set_option maxRecDepth 100000 in
theorem c_cBothA (hTb : aTb zSh rx_tb cl) {m : Nat} (hB : BNDA cl m) {D : Nat} (hD : m + 21 ≤ D) {o : Int} {st : zS} {Q : zQ} (h : ct_cBothA (m + 1) o st Q) : cl D 260 [.inr (.inr (.inl 148)), .inl o] st Q := by
  obtain ⟨d, rfl⟩ : ∃ d, D = d + 1 := ⟨D - 1, by omega⟩
  refine hTb d 260 (rx_m260, 3, 0, 0, 2) rfl _ _ _ (Nat.le_of_ble_eq_true rfl) (fun K hcl hsf hsl => ?_)
  have hcm : zmo (wcL [(261, k_cFactA m), (301, k_cIsOwn), (143, k_cNext), (282, k_cAddCodeA), (236, k_cUnfit)]) (cl d) := (wcL_m (wm_cons ((hB d (by omega)).2.2.1) (wm_cons (k_cIsOwn_m hTb (by omega)) (wm_cons (k_cNext_m hTb (by omega)) (wm_cons (k_cAddCodeA_m hTb (by omega)) (wm_cons (k_cUnfit_m hTb (by omega)) wm_nil))))))
  obtain ⟨hR, hQ⟩ := h
  obtain ⟨hG, rd, ow, tw, cb, dd, oo⟩ := hR
  change RDc st at rd
  change cOW st at ow
  change st 148 1 = 122 at tw
  change st 122 16 + 1 ≤ st 149 5 at cb
  change 0 ≤ o ∧ o ≤ 7 at oo
  have rb := rd.1
  have g1 := g_f148_1 hG
  have g2 := g_f122_16 hG
  have g3 := g_wStart hG
  have g4 := g_wKind hG
  have g5 := g_wValue hG
  have g6 := g_tsize hG
  have lp : ∀ (u : Nat) (i : Int) (s_lp : zS), gInv zgt s_lp ∧ aFr m_cBothA st s_lp ∧ (RDc s_lp) ∧ (∃ c : List Int, CDA (st 122 16) (s_lp 122 16) (st 134) (s_lp 134) c ∧ (∀ (r : Int) (c2 : List Int), GrS st 8 o (s_lp 149 5) r c2 → GrS st 7 o (st 149 5) r (c ++ c2)) ∧ (FlS st 8 o (s_lp 149 5) → FlS st 7 o (st 149 5))) ∧ (s_lp 122 16 + 1 ≤ s_lp 149 5 ∧ 0 ≤ i ∧ i + 1 ≤ s_lp 149 5) → (1600 - i).toNat = u → K (rx_find rx_m260 12) [(2, .inl i), (0, .inr (.inr (.inl 148))), (1, .inl o)] [] s_lp := by
    intro u
    induction u using Nat.strongRecOn with
    | _ u ih =>
      intro i s_lp hi hu
      obtain ⟨gI_lp, fI_lp, rd_lp, o_lp, cb_lp⟩ := hi
      obtain ⟨cl_lp, cd_lp, K1_lp, K2_lp⟩ := o_lp
      have rb_lp := rd_lp.1
      have rt_lp := g_tsize gI_lp
      have g7 := g_f122_16 hG
      have g8 := g_f122_16 gI_lp
      have g9 := g_wStart gI_lp
      have g10 := g_wStart hG
      have g11 := g_wKind gI_lp
      have g12 := g_wValue gI_lp
      refine dr1_ok (Rt := Q) (wc := (wcL [(261, k_cFactA m), (301, k_cIsOwn), (143, k_cNext), (282, k_cAddCodeA), (236, k_cUnfit)])) (stp := [12]) hcm hcl [(51, 122)] [] 57 ?_
      show (((1600 : Int) ≤ i → (148 = 148 ∧ (rq_cUnfit  s_lp ∧ (((0 = (0 : Int) ∨ 0 = (1 : Int)) ∧ Q (some (.inl 0)) (zup (zup s_lp 148 3 1) 148 4 (s_lp 149 6))))))) ∧ (¬ ((1600 : Int) ≤ i) → (149 = 149 ∧ (∀ (r14 : Int), en_cIsOwn (21) s_lp r14 → ((¬ r14 = (0 : Int) → (149 = 149 ∧ (rq_cNext  s_lp ∧ (∀ (s15 : zS), en_cNext  s_lp s15 → (148 = 148 ∧ (rq_cFactA m o s15 ∧ (∀ (r16 : Int) (s16 : zS), en_cFactA m o s15 r16 s16 → ((¬ r16 = (0 : Int) → ((s16 148 1 = (122 : Int)) ∧ (122 = 122 ∧ (rq_cAddCodeA (21) (0) s16 ∧ (∀ (s17 : zS), en_cAddCodeA (21) (0) s16 s17 → ((-2147483648 ≤ i + 1 ∧ i + 1 ≤ 2147483647) ∧ K (rx_find rx_m260 12) [(2, .inl (i + 1)), (0, .inr (.inr (.inl 148))), (1, .inl o)] [] s17)))))) ∧ (¬ (¬ r16 = (0 : Int)) → ((0 = (0 : Int) ∨ 0 = (1 : Int)) ∧ Q (some (.inl 0)) s16)))))))))) ∧ (¬ (¬ r14 = (0 : Int)) → ((1 = (0 : Int) ∨ 1 = (1 : Int)) ∧ Q (some (.inl 1)) s_lp)))))))
      refine ⟨fun h18 => ?_, fun h18 => ?_⟩
      · have g19 := g_wSpot gI_lp
        refine ⟨rfl, gI_lp, ?_⟩
        refine ⟨by omega, ?_⟩
        exact hQ _ _ ⟨(gInv_up (gInv_up gI_lp (p_rFault (by omega))) (p_rFaultAt (by omega))), (fr_f (fr_f fI_lp rfl) rfl), (show ((0 : Int) = 1 ∧ ∃ c : List Int, GrS st 7 o (st 149 5) (s_lp 149 5) c ∧ RDc (zup (zup s_lp 148 3 1) 148 4 (s_lp 149 6)) ∧ CDA (st 122 16) (s_lp 122 16) (st 134) (s_lp 134) c) ∨ ((0 : Int) = 0 ∧ FlS st 7 o (st 149 5)) from (by exfalso; have z1 := rd_lp.1; have z2 := g_tsize gI_lp; omega))⟩
      · refine ⟨rfl, fun r14 q14 => ?_⟩
        have b14 := q14
        change (r14 = 0 ∨ r14 = 1) ∧ (r14 = 1 ↔ s_lp 149 3 = 2 ∧ s_lp 149 4 = (21)) at b14
        refine ⟨fun h20 => ?_, fun h20 => ?_⟩
        · refine ⟨rfl, ⟨gI_lp, (show RDc s_lp from rd_lp), (show 1 ≤ s_lp 149 3 ∧ s_lp 149 3 ≤ 4 from by omega)⟩, fun s15 q15 => ?_⟩
          obtain ⟨gs15, fs15, rd15, nx15⟩ := q15
          change RDc s15 at rd15
          change NX s_lp s15 at nx15
          have g23 := g_f148_1 hG
          have e22 : s_lp 148 1 = st 148 1 := fI_lp 148 1 rfl rfl
          have e21 : s15 148 1 = s_lp 148 1 := fs15 148 1 rfl rfl
          have e24 : s15 122 16 = s_lp 122 16 := fs15 122 16 rfl rfl
          have g25 := g_wStart gs15
          refine ⟨rfl, ⟨gs15, (show RDc s15 from rd15), (show cOW s15 from (fun i hi => ((show aFr m_cBothA st s15 from (fr_tr fI_lp fs15 rfl)) 150 i rfl rfl).trans (ow i hi))), (show s15 148 1 = 122 from by omega), (show s15 122 16 + 1 ≤ s15 149 5 from by have z1 := tk_lt ((show tk (ctx st) (st 1 1) _ 1 (6385252 : Int) _ from tkS_e (sT_of (fun i => (show aFr m_cBothA st s_lp from fI_lp) 2 i rfl rfl) ((show aFr m_cBothA st s_lp from fI_lp) 1 1 rfl rfl) ((show aFr m_cBothA st s_lp from fI_lp) 148 2 rfl rfl)) (nx_ow 21 rd_lp (fun i hi => ((show aFr m_cBothA st s_lp from fI_lp) 150 i rfl rfl).trans (ow i hi)) nx15 (by omega) (by omega) rfl))) rd_lp.1.1 (by omega); omega), (show 6 + 12 * (7 - o) ≤ (m : Int) from by omega), (show 0 ≤ o ∧ o ≤ 7 from by omega)⟩, fun r16 s16 q16 => ?_⟩
          obtain ⟨gs16, fs16, o16⟩ := q16
          change (r16 = 1 ∧ ∃ c : List Int, GrS s15 9 o (s15 149 5) (s16 149 5) c ∧ RDc s16 ∧ CDA (s15 122 16) (s16 122 16) (s15 134) (s16 134) c) ∨ (r16 = 0 ∧ FlS s15 9 o (s15 149 5)) at o16
          have g26 := g_wStart gs16
          have g27 := g_f122_16 gs16
          rcases o16 with ⟨y16, c16, g16, rd16, cd16⟩ | ⟨y16, l16⟩
          · have gl16 := Gr_len g16 rd15.1.1
            have cn16 := cd16.2.1
            have rb16 := rd16.1
            have rt16 := g_tsize gs16
            refine ⟨fun h28 => ?_, fun h28 => (by exfalso; omega)⟩
            have e29 : s16 148 1 = s15 148 1 := fs16 148 1 rfl rfl
            refine ⟨by omega, ?_⟩
            refine ⟨rfl, ⟨gs16, (show (0 ≤ (21) ∧ (21) ≤ 255) ∧ 0 ≤ (0) ∧ (0) ≤ 9999 from by omega), (show s16 122 16 ≤ 1599 from by have z1 := tk_lt ((show tk (ctx st) (st 1 1) _ 1 (6385252 : Int) _ from tkS_e (sT_of (fun i => (show aFr m_cBothA st s_lp from fI_lp) 2 i rfl rfl) ((show aFr m_cBothA st s_lp from fI_lp) 1 1 rfl rfl) ((show aFr m_cBothA st s_lp from fI_lp) 148 2 rfl rfl)) (nx_ow 21 rd_lp (fun i hi => ((show aFr m_cBothA st s_lp from fI_lp) 150 i rfl rfl).trans (ow i hi)) nx15 (by omega) (by omega) rfl))) rd_lp.1.1 (by omega); omega)⟩, fun s17 q17 => ?_⟩
            obtain ⟨gs17, fs17, cc17, cf17⟩ := q17
            change s17 122 16 = s16 122 16 + 1 at cc17
            have g30 := g_f122_16 gs17
            change (s17 134) = up1 (s16 134) (s16 122 16).toNat (65536 * (21) + (0)) at cf17
            refine ⟨by omega, ?_⟩
            have e31 : s17 149 5 = s16 149 5 := fs17 149 5 rfl rfl
            exact ih _ (show (1600 - (i + 1) : Int).toNat < u from by omega) (i + 1) s17 ⟨gs17, (fr_tr (fr_tr (fr_tr fI_lp fs15 rfl) fs16 rfl) fs17 rfl), (show RDc s17 from (RDc_of (fun i => fs17 2 i rfl rfl) (fs17 1 1 rfl rfl) (fs17 149 2 rfl rfl) (fs17 149 3 rfl rfl) (fs17 149 4 rfl rfl) (fs17 149 5 rfl rfl) (fun i => fs17 150 i rfl rfl) rd16)), (show ∃ c : List Int, CDA (st 122 16) (s17 122 16) (st 134) (s17 134) c ∧ (∀ (r : Int) (c2 : List Int), GrS st 8 o (s17 149 5) r c2 → GrS st 7 o (st 149 5) r (c ++ c2)) ∧ (FlS st 8 o (s17 149 5) → FlS st 7 o (st 149 5)) from ⟨cl_lp ++ (c16 ++ [41]), CDA_c (CDA_tr (CDA_tr (CDA_f cd_lp (fs15 122 16 rfl rfl) (funext (fun i => fs15 134 i rfl rfl))) cd16) (CDA_one (y := 41) (g_f122_16 gs16).1 cc17 cf17 rfl)) (by simp only [List.nil_append, List.append_assoc, List.cons_append, List.append_nil]), fun r c2 h => (by
              rw [show s17 149 5 = s16 149 5 from fs17 149 5 rfl rfl] at h
              have z := K1_lp r (c16 ++ 41 :: c2) (Gr_bthM ((show tk (ctx st) (st 1 1) _ 1 (6385252 : Int) _ from tkS_e (sT_of (fun i => (show aFr m_cBothA st s_lp from fI_lp) 2 i rfl rfl) ((show aFr m_cBothA st s_lp from fI_lp) 1 1 rfl rfl) ((show aFr m_cBothA st s_lp from fI_lp) 148 2 rfl rfl)) (nx_ow 21 rd_lp (fun i hi => ((show aFr m_cBothA st s_lp from fI_lp) 150 i rfl rfl).trans (ow i hi)) nx15 (by omega) (by omega) rfl))) (GrS_e (sT_of (fun i => (show aFr m_cBothA st s15 from (fr_tr fI_lp fs15 rfl)) 2 i rfl rfl) ((show aFr m_cBothA st s15 from (fr_tr fI_lp fs15 rfl)) 1 1 rfl rfl) ((show aFr m_cBothA st s15 from (fr_tr fI_lp fs15 rfl)) 148 2 rfl rfl)) g16) h)
              simp only [List.nil_append, List.append_assoc, List.cons_append, List.append_nil] at z ⊢
              exact z), fun h => (by
              rw [show s17 149 5 = s16 149 5 from fs17 149 5 rfl rfl] at h
              exact K2_lp (Fl_bthM2 ((show tk (ctx st) (st 1 1) _ 1 (6385252 : Int) _ from tkS_e (sT_of (fun i => (show aFr m_cBothA st s_lp from fI_lp) 2 i rfl rfl) ((show aFr m_cBothA st s_lp from fI_lp) 1 1 rfl rfl) ((show aFr m_cBothA st s_lp from fI_lp) 148 2 rfl rfl)) (nx_ow 21 rd_lp (fun i hi => ((show aFr m_cBothA st s_lp from fI_lp) 150 i rfl rfl).trans (ow i hi)) nx15 (by omega) (by omega) rfl))) (GrS_e (sT_of (fun i => (show aFr m_cBothA st s15 from (fr_tr fI_lp fs15 rfl)) 2 i rfl rfl) ((show aFr m_cBothA st s15 from (fr_tr fI_lp fs15 rfl)) 1 1 rfl rfl) ((show aFr m_cBothA st s15 from (fr_tr fI_lp fs15 rfl)) 148 2 rfl rfl)) g16) h))⟩), (show s17 122 16 + 1 ≤ s17 149 5 ∧ 0 ≤ (i + 1) ∧ (i + 1) + 1 ≤ s17 149 5 from by have z1 := tk_lt ((show tk (ctx st) (st 1 1) _ 1 (6385252 : Int) _ from tkS_e (sT_of (fun i => (show aFr m_cBothA st s_lp from fI_lp) 2 i rfl rfl) ((show aFr m_cBothA st s_lp from fI_lp) 1 1 rfl rfl) ((show aFr m_cBothA st s_lp from fI_lp) 148 2 rfl rfl)) (nx_ow 21 rd_lp (fun i hi => ((show aFr m_cBothA st s_lp from fI_lp) 150 i rfl rfl).trans (ow i hi)) nx15 (by omega) (by omega) rfl))) rd_lp.1.1 (by omega); omega)⟩ rfl
          · refine ⟨fun h32 => (by exfalso; omega), fun h32 => ?_⟩
            refine ⟨by omega, ?_⟩
            exact hQ _ _ ⟨gs16, (fr_tr (fr_tr fI_lp fs15 rfl) fs16 rfl), (show ((0 : Int) = 1 ∧ ∃ c : List Int, GrS st 7 o (st 149 5) (s16 149 5) c ∧ RDc s16 ∧ CDA (st 122 16) (s16 122 16) (st 134) (s16 134) c) ∨ ((0 : Int) = 0 ∧ FlS st 7 o (st 149 5)) from Or.inr ⟨rfl, K2_lp (Fl_bthM1 ((show tk (ctx st) (st 1 1) _ 1 (6385252 : Int) _ from tkS_e (sT_of (fun i => (show aFr m_cBothA st s_lp from fI_lp) 2 i rfl rfl) ((show aFr m_cBothA st s_lp from fI_lp) 1 1 rfl rfl) ((show aFr m_cBothA st s_lp from fI_lp) 148 2 rfl rfl)) (nx_ow 21 rd_lp (fun i hi => ((show aFr m_cBothA st s_lp from fI_lp) 150 i rfl rfl).trans (ow i hi)) nx15 (by omega) (by omega) rfl))) (FlS_e (sT_of (fun i => (show aFr m_cBothA st s15 from (fr_tr fI_lp fs15 rfl)) 2 i rfl rfl) ((show aFr m_cBothA st s15 from (fr_tr fI_lp fs15 rfl)) 1 1 rfl rfl) ((show aFr m_cBothA st s15 from (fr_tr fI_lp fs15 rfl)) 148 2 rfl rfl)) l16))⟩)⟩
        · refine ⟨by omega, ?_⟩
          exact hQ _ _ ⟨gI_lp, fI_lp, (show ((1 : Int) = 1 ∧ ∃ c : List Int, GrS st 7 o (st 149 5) (s_lp 149 5) c ∧ RDc s_lp ∧ CDA (st 122 16) (s_lp 122 16) (st 134) (s_lp 134) c) ∨ ((1 : Int) = 0 ∧ FlS st 7 o (st 149 5)) from (by
            obtain ⟨tk_, tv_, te_, ht_, hv_⟩ := rd_tk rd_lp (fun i hi => ((show aFr m_cBothA st s_lp from fI_lp) 150 i rfl rfl).trans (ow i hi))
            have z := K1_lp _ [] (Gr_bthE (tkS_e (sT_of (fun i => (show aFr m_cBothA st s_lp from fI_lp) 2 i rfl rfl) ((show aFr m_cBothA st s_lp from fI_lp) 1 1 rfl rfl) ((show aFr m_cBothA st s_lp from fI_lp) 148 2 rfl rfl)) ht_) (fun z => by have z0 := (tv_w hv_ 21 (by omega)).mp z; omega))
            exact Or.inl ⟨rfl, _, z, rd_lp, CDA_c cd_lp (by simp only [List.nil_append, List.append_assoc, List.cons_append, List.append_nil])⟩))⟩
  refine dr1_ok (Rt := Q) (wc := (wcL [(261, k_cFactA m), (301, k_cIsOwn), (143, k_cNext), (282, k_cAddCodeA), (236, k_cUnfit)])) (stp := [12]) hcm hcl [(51, 122)] [] 57 ?_
  show (148 = 148 ∧ (rq_cFactA m o st ∧ (∀ (r33 : Int) (s33 : zS), en_cFactA m o st r33 s33 → ((¬ r33 = (0 : Int) → K (rx_find rx_m260 12) [(2, .inl 0), (0, .inr (.inr (.inl 148))), (1, .inl o)] [] s33) ∧ (¬ (¬ r33 = (0 : Int)) → ((0 = (0 : Int) ∨ 0 = (1 : Int)) ∧ Q (some (.inl 0)) s33))))))
  refine ⟨rfl, ⟨hG, (show RDc st from rd), (show cOW st from ow), (show st 148 1 = 122 from by omega), (show st 122 16 + 1 ≤ st 149 5 from by omega), (show 6 + 12 * (7 - o) ≤ (m : Int) from by omega), (show 0 ≤ o ∧ o ≤ 7 from by omega)⟩, fun r33 s33 q33 => ?_⟩
  obtain ⟨gs33, fs33, o33⟩ := q33
  change (r33 = 1 ∧ ∃ c : List Int, GrS st 9 o (st 149 5) (s33 149 5) c ∧ RDc s33 ∧ CDA (st 122 16) (s33 122 16) (st 134) (s33 134) c) ∨ (r33 = 0 ∧ FlS st 9 o (st 149 5)) at o33
  have g34 := g_wStart gs33
  have g35 := g_f122_16 gs33
  rcases o33 with ⟨y33, c33, g33, rd33, cd33⟩ | ⟨y33, l33⟩
  · have gl33 := Gr_len g33 rd.1.1
    have cn33 := cd33.2.1
    have rb33 := rd33.1
    have rt33 := g_tsize gs33
    refine ⟨fun h36 => ?_, fun h36 => (by exfalso; omega)⟩
    exact lp _ 0 s33 ⟨gs33, (fr_tr (fr_rf _ _) fs33 rfl), (show RDc s33 from rd33), (show ∃ c : List Int, CDA (st 122 16) (s33 122 16) (st 134) (s33 134) c ∧ (∀ (r : Int) (c2 : List Int), GrS st 8 o (s33 149 5) r c2 → GrS st 7 o (st 149 5) r (c ++ c2)) ∧ (FlS st 8 o (s33 149 5) → FlS st 7 o (st 149 5)) from ⟨c33, CDA_c (CDA_tr (CDA_nil (st 134) (g_f122_16 hG).1) cd33) (by simp only [List.nil_append, List.append_assoc, List.cons_append, List.append_nil]), fun r c2 h => Gr_bth g33 h, fun h => Fl_bth2 g33 h⟩), (show s33 122 16 + 1 ≤ s33 149 5 ∧ 0 ≤ (0 : Int) ∧ (0 : Int) + 1 ≤ s33 149 5 from by omega)⟩ rfl
  · refine ⟨fun h37 => (by exfalso; omega), fun h37 => ?_⟩
    refine ⟨by omega, ?_⟩
    exact hQ _ _ ⟨gs33, (fr_tr (fr_rf _ _) fs33 rfl), (show ((0 : Int) = 1 ∧ ∃ c : List Int, GrS st 7 o (st 149 5) (s33 149 5) c ∧ RDc s33 ∧ CDA (st 122 16) (s33 122 16) (st 134) (s33 134) c) ∨ ((0 : Int) = 0 ∧ FlS st 7 o (st 149 5)) from Or.inr ⟨rfl, Fl_bth1 l33⟩)⟩
theorem k_cBothA_m (hTb : aTb zSh rx_tb cl) {m : Nat} (hB : BNDA cl m) {D : Nat} (hD : m + 21 ≤ D) : ∀ as st (Q Q' : zQ), (∀ r st', Q r st' → Q' r st') → k_cBothA (m + 1) 260 as st Q → cl D 260 as st Q' := by
  intro as st Q Q' hQ h
  unfold k_cBothA at h
  split at h
  · obtain ⟨rfl, h⟩ := h
    exact c_cBothA hTb hB hD (ct_cBothA_m hQ h)
  · exact h.elim
set_option maxHeartbeats 4000000 in
set_option maxRecDepth 100000 in
theorem c_cPartA (hTb : aTb zSh rx_tb cl) {m : Nat} (hB : BNDA cl m) {D : Nat} (hD : m + 21 ≤ D) {o : Int} {st : zS} {Q : zQ} (h : ct_cPartA (m + 1) o st Q) : cl D 255 [.inr (.inr (.inl 148)), .inl o] st Q := by
  obtain ⟨d, rfl⟩ : ∃ d, D = d + 1 := ⟨D - 1, by omega⟩
  refine hTb d 255 (rx_m255, 3, 0, 0, 2) rfl _ _ _ (Nat.le_of_ble_eq_true rfl) (fun K hcl hsf hsl => ?_)
  have hcm : zmo (wcL [(282, k_cAddCodeA), (143, k_cNext), (302, k_cIsSign), (252, k_cTakeOpen), (253, k_cSumA m), (251, k_cTakeSign), (236, k_cUnfit), (256, k_cFigureA), (257, k_cOfTwoA m), (258, k_cIfA m)]) (cl d) := (wcL_m (wm_cons (k_cAddCodeA_m hTb (by omega)) (wm_cons (k_cNext_m hTb (by omega)) (wm_cons (k_cIsSign_m hTb (by omega)) (wm_cons (k_cTakeOpen_m hTb (by omega)) (wm_cons ((hB d (by omega)).2.2.2.2.1) (wm_cons (k_cTakeSign_m hTb (by omega)) (wm_cons (k_cUnfit_m hTb (by omega)) (wm_cons (k_cFigureA_m hTb (by omega)) (wm_cons ((hB d (by omega)).2.2.2.2.2.2.2.1) (wm_cons ((hB d (by omega)).2.2.2.2.2.2.2.2) wm_nil)))))))))))
  obtain ⟨hR, hQ⟩ := h
  obtain ⟨hG, rd, ow, tw, cb, dd, oo⟩ := hR
  change RDc st at rd
  change cOW st at ow
  change st 148 1 = 122 at tw
  change st 122 16 + 1 ≤ st 149 5 at cb
  change 0 ≤ o ∧ o ≤ 7 at oo
  have rb := rd.1
  have g1 := g_f148_1 hG
  have g2 := g_f122_16 hG
  have g3 := g_wStart hG
  have g4 := g_wKind hG
  have g5 := g_wValue hG
  have g6 := g_tsize hG
  refine dr1_ok (Rt := Q) (wc := (wcL [(282, k_cAddCodeA), (143, k_cNext), (302, k_cIsSign), (252, k_cTakeOpen), (253, k_cSumA m), (251, k_cTakeSign), (236, k_cUnfit), (256, k_cFigureA), (257, k_cOfTwoA m), (258, k_cIfA m)])) (stp := []) hcm hcl [(12, 122)] [] 108 ?_
  show ((¬ st 149 3 = (3 : Int) → (149 = 149 ∧ (∀ (r7 : Int), en_cIsSign (40) st r7 → ((r7 = (0 : Int) → ((st 149 3 = (2 : Int) → ((st 149 4 < 4 → (148 = 148 ∧ (rq_cUnfit  st ∧ (((0 = (0 : Int) ∨ 0 = (1 : Int)) ∧ Q (some (.inl 0)) (zup (zup st 148 3 1) 148 4 (st 149 6))))))) ∧ (25 < st 149 4 → (148 = 148 ∧ (rq_cUnfit  st ∧ (((0 = (0 : Int) ∨ 0 = (1 : Int)) ∧ Q (some (.inl 0)) (zup (zup st 148 3 1) 148 4 (st 149 6))))))) ∧ (st 149 4 = 4 → ((¬ st 148 2 = (0 : Int) → (148 = 148 ∧ (rq_cFigureA (st 149 4) (0) st ∧ (∀ (r9 : Int) (s9 : zS), en_cFigureA (st 149 4) (0) st r9 s9 → ((r9 = (0 : Int) ∨ r9 = (1 : Int)) ∧ Q (some (.inl r9)) s9))))) ∧ (¬ (¬ st 148 2 = (0 : Int)) → (148 = 148 ∧ (rq_cFigureA (st 149 4) (1) st ∧ (∀ (r10 : Int) (s10 : zS), en_cFigureA (st 149 4) (1) st r10 s10 → ((r10 = (0 : Int) ∨ r10 = (1 : Int)) ∧ Q (some (.inl r10)) s10))))))) ∧ (st 149 4 = 5 → (148 = 148 ∧ (rq_cUnfit  st ∧ (((0 = (0 : Int) ∨ 0 = (1 : Int)) ∧ Q (some (.inl 0)) (zup (zup st 148 3 1) 148 4 (st 149 6))))))) ∧ (st 149 4 = 6 → (148 = 148 ∧ (rq_cUnfit  st ∧ (((0 = (0 : Int) ∨ 0 = (1 : Int)) ∧ Q (some (.inl 0)) (zup (zup st 148 3 1) 148 4 (st 149 6))))))) ∧ (st 149 4 = 7 → (148 = 148 ∧ (rq_cUnfit  st ∧ (((0 = (0 : Int) ∨ 0 = (1 : Int)) ∧ Q (some (.inl 0)) (zup (zup st 148 3 1) 148 4 (st 149 6))))))) ∧ (st 149 4 = 8 → ((¬ st 148 2 = (0 : Int) → (148 = 148 ∧ (rq_cFigureA (st 149 4) (0) st ∧ (∀ (r14 : Int) (s14 : zS), en_cFigureA (st 149 4) (0) st r14 s14 → ((r14 = (0 : Int) ∨ r14 = (1 : Int)) ∧ Q (some (.inl r14)) s14))))) ∧ (¬ (¬ st 148 2 = (0 : Int)) → (148 = 148 ∧ (rq_cFigureA (st 149 4) (1) st ∧ (∀ (r15 : Int) (s15 : zS), en_cFigureA (st 149 4) (1) st r15 s15 → ((r15 = (0 : Int) ∨ r15 = (1 : Int)) ∧ Q (some (.inl r15)) s15))))))) ∧ (st 149 4 = 9 → (148 = 148 ∧ (rq_cUnfit  st ∧ (((0 = (0 : Int) ∨ 0 = (1 : Int)) ∧ Q (some (.inl 0)) (zup (zup st 148 3 1) 148 4 (st 149 6))))))) ∧ (st 149 4 = 10 → (148 = 148 ∧ (rq_cUnfit  st ∧ (((0 = (0 : Int) ∨ 0 = (1 : Int)) ∧ Q (some (.inl 0)) (zup (zup st 148 3 1) 148 4 (st 149 6))))))) ∧ (st 149 4 = 11 → (148 = 148 ∧ (rq_cFigureA (st 149 4) (1) st ∧ (∀ (r18 : Int) (s18 : zS), en_cFigureA (st 149 4) (1) st r18 s18 → ((r18 = (0 : Int) ∨ r18 = (1 : Int)) ∧ Q (some (.inl r18)) s18))))) ∧ (st 149 4 = 12 → (148 = 148 ∧ (rq_cUnfit  st ∧ (((0 = (0 : Int) ∨ 0 = (1 : Int)) ∧ Q (some (.inl 0)) (zup (zup st 148 3 1) 148 4 (st 149 6))))))) ∧ (st 149 4 = 13 → (148 = 148 ∧ (rq_cFigureA (st 149 4) (1) st ∧ (∀ (r20 : Int) (s20 : zS), en_cFigureA (st 149 4) (1) st r20 s20 → ((r20 = (0 : Int) ∨ r20 = (1 : Int)) ∧ Q (some (.inl r20)) s20))))) ∧ (st 149 4 = 14 → ((¬ st 148 2 = (0 : Int) → (148 = 148 ∧ (rq_cFigureA (st 149 4) (0) st ∧ (∀ (r21 : Int) (s21 : zS), en_cFigureA (st 149 4) (0) st r21 s21 → ((r21 = (0 : Int) ∨ r21 = (1 : Int)) ∧ Q (some (.inl r21)) s21))))) ∧ (¬ (¬ st 148 2 = (0 : Int)) → (148 = 148 ∧ (rq_cFigureA (st 149 4) (1) st ∧ (∀ (r22 : Int) (s22 : zS), en_cFigureA (st 149 4) (1) st r22 s22 → ((r22 = (0 : Int) ∨ r22 = (1 : Int)) ∧ Q (some (.inl r22)) s22))))))) ∧ (st 149 4 = 15 → ((¬ st 148 2 = (0 : Int) → (148 = 148 ∧ (rq_cFigureA (st 149 4) (0) st ∧ (∀ (r23 : Int) (s23 : zS), en_cFigureA (st 149 4) (0) st r23 s23 → ((r23 = (0 : Int) ∨ r23 = (1 : Int)) ∧ Q (some (.inl r23)) s23))))) ∧ (¬ (¬ st 148 2 = (0 : Int)) → (148 = 148 ∧ (rq_cFigureA (st 149 4) (1) st ∧ (∀ (r24 : Int) (s24 : zS), en_cFigureA (st 149 4) (1) st r24 s24 → ((r24 = (0 : Int) ∨ r24 = (1 : Int)) ∧ Q (some (.inl r24)) s24))))))) ∧ (st 149 4 = 16 → (148 = 148 ∧ (rq_cFigureA (st 149 4) (st 148 2) st ∧ (∀ (r25 : Int) (s25 : zS), en_cFigureA (st 149 4) (st 148 2) st r25 s25 → ((r25 = (0 : Int) ∨ r25 = (1 : Int)) ∧ Q (some (.inl r25)) s25))))) ∧ (st 149 4 = 17 → (148 = 148 ∧ (rq_cFigureA (st 149 4) (st 148 2) st ∧ (∀ (r26 : Int) (s26 : zS), en_cFigureA (st 149 4) (st 148 2) st r26 s26 → ((r26 = (0 : Int) ∨ r26 = (1 : Int)) ∧ Q (some (.inl r26)) s26))))) ∧ (st 149 4 = 18 → (148 = 148 ∧ (rq_cFigureA (st 149 4) (st 148 2) st ∧ (∀ (r27 : Int) (s27 : zS), en_cFigureA (st 149 4) (st 148 2) st r27 s27 → ((r27 = (0 : Int) ∨ r27 = (1 : Int)) ∧ Q (some (.inl r27)) s27))))) ∧ (st 149 4 = 19 → (148 = 148 ∧ (rq_cIfA m o st ∧ (∀ (r28 : Int) (s28 : zS), en_cIfA m o st r28 s28 → ((r28 = (0 : Int) ∨ r28 = (1 : Int)) ∧ Q (some (.inl r28)) s28))))) ∧ (st 149 4 = 20 → (148 = 148 ∧ (rq_cUnfit  st ∧ (((0 = (0 : Int) ∨ 0 = (1 : Int)) ∧ Q (some (.inl 0)) (zup (zup st 148 3 1) 148 4 (st 149 6))))))) ∧ (st 149 4 = 21 → (148 = 148 ∧ (rq_cUnfit  st ∧ (((0 = (0 : Int) ∨ 0 = (1 : Int)) ∧ Q (some (.inl 0)) (zup (zup st 148 3 1) 148 4 (st 149 6))))))) ∧ (st 149 4 = 22 → (148 = 148 ∧ (rq_cUnfit  st ∧ (((0 = (0 : Int) ∨ 0 = (1 : Int)) ∧ Q (some (.inl 0)) (zup (zup st 148 3 1) 148 4 (st 149 6))))))) ∧ (st 149 4 = 23 → (148 = 148 ∧ (rq_cUnfit  st ∧ (((0 = (0 : Int) ∨ 0 = (1 : Int)) ∧ Q (some (.inl 0)) (zup (zup st 148 3 1) 148 4 (st 149 6))))))) ∧ (st 149 4 = 24 → (148 = 148 ∧ (rq_cOfTwoA m (st 149 4) o st ∧ (∀ (r33 : Int) (s33 : zS), en_cOfTwoA m (st 149 4) o st r33 s33 → ((r33 = (0 : Int) ∨ r33 = (1 : Int)) ∧ Q (some (.inl r33)) s33))))) ∧ (st 149 4 = 25 → (148 = 148 ∧ (rq_cOfTwoA m (st 149 4) o st ∧ (∀ (r34 : Int) (s34 : zS), en_cOfTwoA m (st 149 4) o st r34 s34 → ((r34 = (0 : Int) ∨ r34 = (1 : Int)) ∧ Q (some (.inl r34)) s34))))) ∧ True)) ∧ (¬ (st 149 3 = (2 : Int)) → (148 = 148 ∧ (rq_cUnfit  st ∧ (((0 = (0 : Int) ∨ 0 = (1 : Int)) ∧ Q (some (.inl 0)) (zup (zup st 148 3 1) 148 4 (st 149 6))))))))) ∧ (¬ (r7 = (0 : Int)) → (148 = 148 ∧ (rq_cTakeOpen (1) o st ∧ (∀ (r36 : Int) (s36 : zS), en_cTakeOpen (1) o st r36 s36 → ((r36 = (0 : Int) → ((0 = (0 : Int) ∨ 0 = (1 : Int)) ∧ Q (some (.inl 0)) s36)) ∧ (¬ (r36 = (0 : Int)) → ((-2147483648 ≤ o + 1 ∧ o + 1 ≤ 2147483647) ∧ (148 = 148 ∧ (rq_cSumA m (o + 1) s36 ∧ (∀ (r37 : Int) (s37 : zS), en_cSumA m (o + 1) s36 r37 s37 → ((r37 = (0 : Int) → ((0 = (0 : Int) ∨ 0 = (1 : Int)) ∧ Q (some (.inl 0)) s37)) ∧ (¬ (r37 = (0 : Int)) → (148 = 148 ∧ (rq_cTakeSign (41) s37 ∧ (∀ (r38 : Int) (s38 : zS), en_cTakeSign (41) s37 r38 s38 → ((r38 = (0 : Int) → ((0 = (0 : Int) ∨ 0 = (1 : Int)) ∧ Q (some (.inl 0)) s38)) ∧ (¬ (r38 = (0 : Int)) → ((1 = (0 : Int) ∨ 1 = (1 : Int)) ∧ Q (some (.inl 1)) s38)))))))))))))))))))))) ∧ (¬ (¬ st 149 3 = (3 : Int)) → ((st 148 1 = (122 : Int)) ∧ (122 = 122 ∧ (rq_cAddCodeA (200) (st 149 4) st ∧ (∀ (s39 : zS), en_cAddCodeA (200) (st 149 4) st s39 → (149 = 149 ∧ (rq_cNext  s39 ∧ (∀ (s40 : zS), en_cNext  s39 s40 → ((1 = (0 : Int) ∨ 1 = (1 : Int)) ∧ Q (some (.inl 1)) s40))))))))))
  refine ⟨fun h41 => ?_, fun h41 => ?_⟩
  · refine ⟨rfl, fun r7 q7 => ?_⟩
    have b7 := q7
    change (r7 = 0 ∨ r7 = 1) ∧ (r7 = 1 ↔ st 149 3 = 4 ∧ st 149 4 = (40)) at b7
    refine ⟨fun h42 => ?_, fun h42 => ?_⟩
    · refine ⟨fun h43 => ?_, fun h43 => ?_⟩
      · refine ⟨fun h44 => ?_, fun h44 => ?_, fun h44 => ?_, fun h44 => ?_, fun h44 => ?_, fun h44 => ?_, fun h44 => ?_, fun h44 => ?_, fun h44 => ?_, fun h44 => ?_, fun h44 => ?_, fun h44 => ?_, fun h44 => ?_, fun h44 => ?_, fun h44 => ?_, fun h44 => ?_, fun h44 => ?_, fun h44 => ?_, fun h44 => ?_, fun h44 => ?_, fun h44 => ?_, fun h44 => ?_, fun h44 => ?_, fun h44 => ?_, True.intro⟩
        · have g45 := g_wSpot hG
          refine ⟨rfl, hG, ?_⟩
          refine ⟨by omega, ?_⟩
          exact hQ _ _ ⟨(gInv_up (gInv_up hG (p_rFault (by omega))) (p_rFaultAt (by omega))), (fr_f (fr_f (fr_rf _ _) rfl) rfl), (show ((0 : Int) = 1 ∧ ∃ c : List Int, GrS st 4 o (st 149 5) (st 149 5) c ∧ RDc (zup (zup st 148 3 1) 148 4 (st 149 6)) ∧ CDA (st 122 16) (st 122 16) (st 134) (st 134) c) ∨ ((0 : Int) = 0 ∧ FlS st 4 o (st 149 5)) from (by
            obtain ⟨tk_, tv_, te_, ht_, hv_⟩ := rd_tk rd ow
            have zn := tv_n hv_
            exact Or.inr ⟨rfl, Fl_bad (tkS_e (sT_of (fun i => (show aFr m_cPartA st st from (fr_rf _ _)) 2 i rfl rfl) ((show aFr m_cPartA st st from (fr_rf _ _)) 1 1 rfl rfl) ((show aFr m_cPartA st st from (fr_rf _ _)) 148 2 rfl rfl)) ht_) (by omega) (fun z => by have z1 := (tv_s hv_ 40).mp z; omega) (fun q => by
              obtain ⟨q1, q2⟩ := q
              unfold figOk at q2
              have q3 : tv_ = 1751474548 ∨ tv_ = 2036687218 ∨ tv_ = 1953459300 ∨ tv_ = 1886743660 ∨ tv_ = 1937007984 ∨ tv_ = 1650812270 ∨ tv_ = 495874044019 ∨ tv_ = 1953066341 ∨ tv_ = 465726042227 ∨ tv_ = 7170414 ∨ tv_ = 7168376 ∨ tv_ = 26982 := by omega
              rcases q3 with q3 | q3 | q3 | q3 | q3 | q3 | q3 | q3 | q3 | q3 | q3 | q3
              · have z1 := (tv_w hv_ 11 (by omega)).mp ⟨q1, q3⟩; omega
              · have z1 := (tv_w hv_ 13 (by omega)).mp ⟨q1, q3⟩; omega
              · have z1 := (tv_w hv_ 14 (by omega)).mp ⟨q1, q3⟩; omega
              · have z1 := (tv_w hv_ 8 (by omega)).mp ⟨q1, q3⟩; omega
              · have z1 := (tv_w hv_ 4 (by omega)).mp ⟨q1, q3⟩; omega
              · have z1 := (tv_w hv_ 15 (by omega)).mp ⟨q1, q3⟩; omega
              · have z1 := (tv_w hv_ 16 (by omega)).mp ⟨q1, q3⟩; omega
              · have z1 := (tv_w hv_ 17 (by omega)).mp ⟨q1, q3⟩; omega
              · have z1 := (tv_w hv_ 18 (by omega)).mp ⟨q1, q3⟩; omega
              · have z1 := (tv_w hv_ 24 (by omega)).mp ⟨q1, q3⟩; omega
              · have z1 := (tv_w hv_ 25 (by omega)).mp ⟨q1, q3⟩; omega
              · have z1 := (tv_w hv_ 19 (by omega)).mp ⟨q1, q3⟩; omega)⟩))⟩
        · have g46 := g_wSpot hG
          refine ⟨rfl, hG, ?_⟩
          refine ⟨by omega, ?_⟩
          exact hQ _ _ ⟨(gInv_up (gInv_up hG (p_rFault (by omega))) (p_rFaultAt (by omega))), (fr_f (fr_f (fr_rf _ _) rfl) rfl), (show ((0 : Int) = 1 ∧ ∃ c : List Int, GrS st 4 o (st 149 5) (st 149 5) c ∧ RDc (zup (zup st 148 3 1) 148 4 (st 149 6)) ∧ CDA (st 122 16) (st 122 16) (st 134) (st 134) c) ∨ ((0 : Int) = 0 ∧ FlS st 4 o (st 149 5)) from (by
            obtain ⟨tk_, tv_, te_, ht_, hv_⟩ := rd_tk rd ow
            have zn := tv_n hv_
            exact Or.inr ⟨rfl, Fl_bad (tkS_e (sT_of (fun i => (show aFr m_cPartA st st from (fr_rf _ _)) 2 i rfl rfl) ((show aFr m_cPartA st st from (fr_rf _ _)) 1 1 rfl rfl) ((show aFr m_cPartA st st from (fr_rf _ _)) 148 2 rfl rfl)) ht_) (by omega) (fun z => by have z1 := (tv_s hv_ 40).mp z; omega) (fun q => by
              obtain ⟨q1, q2⟩ := q
              unfold figOk at q2
              have q3 : tv_ = 1751474548 ∨ tv_ = 2036687218 ∨ tv_ = 1953459300 ∨ tv_ = 1886743660 ∨ tv_ = 1937007984 ∨ tv_ = 1650812270 ∨ tv_ = 495874044019 ∨ tv_ = 1953066341 ∨ tv_ = 465726042227 ∨ tv_ = 7170414 ∨ tv_ = 7168376 ∨ tv_ = 26982 := by omega
              rcases q3 with q3 | q3 | q3 | q3 | q3 | q3 | q3 | q3 | q3 | q3 | q3 | q3
              · have z1 := (tv_w hv_ 11 (by omega)).mp ⟨q1, q3⟩; omega
              · have z1 := (tv_w hv_ 13 (by omega)).mp ⟨q1, q3⟩; omega
              · have z1 := (tv_w hv_ 14 (by omega)).mp ⟨q1, q3⟩; omega
              · have z1 := (tv_w hv_ 8 (by omega)).mp ⟨q1, q3⟩; omega
              · have z1 := (tv_w hv_ 4 (by omega)).mp ⟨q1, q3⟩; omega
              · have z1 := (tv_w hv_ 15 (by omega)).mp ⟨q1, q3⟩; omega
              · have z1 := (tv_w hv_ 16 (by omega)).mp ⟨q1, q3⟩; omega
              · have z1 := (tv_w hv_ 17 (by omega)).mp ⟨q1, q3⟩; omega
              · have z1 := (tv_w hv_ 18 (by omega)).mp ⟨q1, q3⟩; omega
              · have z1 := (tv_w hv_ 24 (by omega)).mp ⟨q1, q3⟩; omega
              · have z1 := (tv_w hv_ 25 (by omega)).mp ⟨q1, q3⟩; omega
              · have z1 := (tv_w hv_ 19 (by omega)).mp ⟨q1, q3⟩; omega)⟩))⟩
        · have g47 := g_f148_2 hG
          refine ⟨fun h48 => ?_, fun h48 => ?_⟩
          · refine ⟨rfl, ⟨hG, (show RDc st from rd), (show cOW st from ow), (show st 148 1 = 122 from by omega), (show st 122 16 + 1 ≤ st 149 5 from by omega), (show st 149 3 = 2 ∧ st 149 4 = (st 149 4) ∧ 0 ≤ (st 149 4) ∧ (st 149 4) < 26 ∧ ((0) = 0 ∨ (0) = 1) from by omega)⟩, fun r9 s9 q9 => ?_⟩
            obtain ⟨gs9, fs9, o9⟩ := q9
            change (r9 = 1 ∧ (0) = 1 ∧ RDc s9 ∧ NX st s9 ∧ s9 122 16 = st 122 16 + 1 ∧ (s9 134) = up1 (st 134) (st 122 16).toNat (65536 * 201 + (st 149 4))) ∨ (r9 = 0 ∧ (0) = 0) at o9
            have g49 := g_f122_16 gs9
            rcases o9 with ⟨y9, k9, rd9, nx9, cc9, cf9⟩ | ⟨y9, k9⟩
            · refine ⟨by omega, ?_⟩
              have g50 := g_wStart gs9
              exact hQ _ _ ⟨gs9, (fr_tr (fr_rf _ _) fs9 rfl), (show (r9 = 1 ∧ ∃ c : List Int, GrS st 4 o (st 149 5) (s9 149 5) c ∧ RDc s9 ∧ CDA (st 122 16) (s9 122 16) (st 134) (s9 134) c) ∨ (r9 = 0 ∧ FlS st 4 o (st 149 5)) from Or.inl ⟨y9, [figS 1937007984], Gr_fig (v := 1937007984) (show tk (ctx st) (st 1 1) _ 1 (1937007984 : Int) _ from tkS_e (sT_of (fun i => (show aFr m_cPartA st st from (fr_rf _ _)) 2 i rfl rfl) ((show aFr m_cPartA st st from (fr_rf _ _)) 1 1 rfl rfl) ((show aFr m_cPartA st st from (fr_rf _ _)) 148 2 rfl rfl)) (nx_ow 4 rd ow nx9 (by omega) (by omega) rfl)) (by unfold figOk; omega), rd9, CDA_one (y := figS 1937007984) (g_f122_16 hG).1 cc9 cf9 (by rw [show st 149 4 = 4 by omega]; rfl)⟩)⟩
            · refine ⟨by omega, ?_⟩
              have g51 := g_wStart gs9
              exact hQ _ _ ⟨gs9, (fr_tr (fr_rf _ _) fs9 rfl), (show (r9 = 1 ∧ ∃ c : List Int, GrS st 4 o (st 149 5) (s9 149 5) c ∧ RDc s9 ∧ CDA (st 122 16) (s9 122 16) (st 134) (s9 134) c) ∨ (r9 = 0 ∧ FlS st 4 o (st 149 5)) from (by
            obtain ⟨tk_, tv_, te_, ht_, hv_⟩ := rd_tk rd ow
            have z := (tv_w hv_ 4 (by omega)).mpr (by omega)
            have zf : ¬ figOk (st 148 2 = 1) tv_ := by
              rw [z.2]
              unfold figOk
              show ¬ ((1937007984 : Int) = 1751474548 ∨ (1937007984 : Int) = 2036687218 ∨ (¬ st 148 2 = 1 ∧ ((1937007984 : Int) = 1953459300 ∨ (1937007984 : Int) = 1886743660 ∨ (1937007984 : Int) = 1937007984 ∨ (1937007984 : Int) = 1650812270)) ∨ (st 148 2 = 1 ∧ ((1937007984 : Int) = 495874044019 ∨ (1937007984 : Int) = 1953066341 ∨ (1937007984 : Int) = 465726042227)))
              omega
            have zv : tv_ = 1937007984 := z.2
            exact Or.inr ⟨y9, Fl_bad (tkS_e (sT_of (fun i => (show aFr m_cPartA st st from (fr_rf _ _)) 2 i rfl rfl) ((show aFr m_cPartA st st from (fr_rf _ _)) 1 1 rfl rfl) ((show aFr m_cPartA st st from (fr_rf _ _)) 148 2 rfl rfl)) ht_) (by omega) (by omega) (fun q => by rcases q.2 with q | q; exact zf q; omega)⟩))⟩
          · refine ⟨rfl, ⟨hG, (show RDc st from rd), (show cOW st from ow), (show st 148 1 = 122 from by omega), (show st 122 16 + 1 ≤ st 149 5 from by omega), (show st 149 3 = 2 ∧ st 149 4 = (st 149 4) ∧ 0 ≤ (st 149 4) ∧ (st 149 4) < 26 ∧ ((1) = 0 ∨ (1) = 1) from by omega)⟩, fun r10 s10 q10 => ?_⟩
            obtain ⟨gs10, fs10, o10⟩ := q10
            change (r10 = 1 ∧ (1) = 1 ∧ RDc s10 ∧ NX st s10 ∧ s10 122 16 = st 122 16 + 1 ∧ (s10 134) = up1 (st 134) (st 122 16).toNat (65536 * 201 + (st 149 4))) ∨ (r10 = 0 ∧ (1) = 0) at o10
            have g52 := g_f122_16 gs10
            rcases o10 with ⟨y10, k10, rd10, nx10, cc10, cf10⟩ | ⟨y10, k10⟩
            · refine ⟨by omega, ?_⟩
              have g53 := g_wStart gs10
              exact hQ _ _ ⟨gs10, (fr_tr (fr_rf _ _) fs10 rfl), (show (r10 = 1 ∧ ∃ c : List Int, GrS st 4 o (st 149 5) (s10 149 5) c ∧ RDc s10 ∧ CDA (st 122 16) (s10 122 16) (st 134) (s10 134) c) ∨ (r10 = 0 ∧ FlS st 4 o (st 149 5)) from Or.inl ⟨y10, [figS 1937007984], Gr_fig (v := 1937007984) (show tk (ctx st) (st 1 1) _ 1 (1937007984 : Int) _ from tkS_e (sT_of (fun i => (show aFr m_cPartA st st from (fr_rf _ _)) 2 i rfl rfl) ((show aFr m_cPartA st st from (fr_rf _ _)) 1 1 rfl rfl) ((show aFr m_cPartA st st from (fr_rf _ _)) 148 2 rfl rfl)) (nx_ow 4 rd ow nx10 (by omega) (by omega) rfl)) (by unfold figOk; omega), rd10, CDA_one (y := figS 1937007984) (g_f122_16 hG).1 cc10 cf10 (by rw [show st 149 4 = 4 by omega]; rfl)⟩)⟩
            · refine ⟨by omega, ?_⟩
              have g54 := g_wStart gs10
              exact hQ _ _ ⟨gs10, (fr_tr (fr_rf _ _) fs10 rfl), (show (r10 = 1 ∧ ∃ c : List Int, GrS st 4 o (st 149 5) (s10 149 5) c ∧ RDc s10 ∧ CDA (st 122 16) (s10 122 16) (st 134) (s10 134) c) ∨ (r10 = 0 ∧ FlS st 4 o (st 149 5)) from (by
            obtain ⟨tk_, tv_, te_, ht_, hv_⟩ := rd_tk rd ow
            have z := (tv_w hv_ 4 (by omega)).mpr (by omega)
            have zf : ¬ figOk (st 148 2 = 1) tv_ := by
              rw [z.2]
              unfold figOk
              show ¬ ((1937007984 : Int) = 1751474548 ∨ (1937007984 : Int) = 2036687218 ∨ (¬ st 148 2 = 1 ∧ ((1937007984 : Int) = 1953459300 ∨ (1937007984 : Int) = 1886743660 ∨ (1937007984 : Int) = 1937007984 ∨ (1937007984 : Int) = 1650812270)) ∨ (st 148 2 = 1 ∧ ((1937007984 : Int) = 495874044019 ∨ (1937007984 : Int) = 1953066341 ∨ (1937007984 : Int) = 465726042227)))
              omega
            have zv : tv_ = 1937007984 := z.2
            exact Or.inr ⟨y10, Fl_bad (tkS_e (sT_of (fun i => (show aFr m_cPartA st st from (fr_rf _ _)) 2 i rfl rfl) ((show aFr m_cPartA st st from (fr_rf _ _)) 1 1 rfl rfl) ((show aFr m_cPartA st st from (fr_rf _ _)) 148 2 rfl rfl)) ht_) (by omega) (by omega) (fun q => by rcases q.2 with q | q; exact zf q; omega)⟩))⟩
        · have g55 := g_wSpot hG
          refine ⟨rfl, hG, ?_⟩
          refine ⟨by omega, ?_⟩
          exact hQ _ _ ⟨(gInv_up (gInv_up hG (p_rFault (by omega))) (p_rFaultAt (by omega))), (fr_f (fr_f (fr_rf _ _) rfl) rfl), (show ((0 : Int) = 1 ∧ ∃ c : List Int, GrS st 4 o (st 149 5) (st 149 5) c ∧ RDc (zup (zup st 148 3 1) 148 4 (st 149 6)) ∧ CDA (st 122 16) (st 122 16) (st 134) (st 134) c) ∨ ((0 : Int) = 0 ∧ FlS st 4 o (st 149 5)) from (by
            obtain ⟨tk_, tv_, te_, ht_, hv_⟩ := rd_tk rd ow
            have zn := tv_n hv_
            exact Or.inr ⟨rfl, Fl_bad (tkS_e (sT_of (fun i => (show aFr m_cPartA st st from (fr_rf _ _)) 2 i rfl rfl) ((show aFr m_cPartA st st from (fr_rf _ _)) 1 1 rfl rfl) ((show aFr m_cPartA st st from (fr_rf _ _)) 148 2 rfl rfl)) ht_) (by omega) (fun z => by have z1 := (tv_s hv_ 40).mp z; omega) (fun q => by
              obtain ⟨q1, q2⟩ := q
              unfold figOk at q2
              have q3 : tv_ = 1751474548 ∨ tv_ = 2036687218 ∨ tv_ = 1953459300 ∨ tv_ = 1886743660 ∨ tv_ = 1937007984 ∨ tv_ = 1650812270 ∨ tv_ = 495874044019 ∨ tv_ = 1953066341 ∨ tv_ = 465726042227 ∨ tv_ = 7170414 ∨ tv_ = 7168376 ∨ tv_ = 26982 := by omega
              rcases q3 with q3 | q3 | q3 | q3 | q3 | q3 | q3 | q3 | q3 | q3 | q3 | q3
              · have z1 := (tv_w hv_ 11 (by omega)).mp ⟨q1, q3⟩; omega
              · have z1 := (tv_w hv_ 13 (by omega)).mp ⟨q1, q3⟩; omega
              · have z1 := (tv_w hv_ 14 (by omega)).mp ⟨q1, q3⟩; omega
              · have z1 := (tv_w hv_ 8 (by omega)).mp ⟨q1, q3⟩; omega
              · have z1 := (tv_w hv_ 4 (by omega)).mp ⟨q1, q3⟩; omega
              · have z1 := (tv_w hv_ 15 (by omega)).mp ⟨q1, q3⟩; omega
              · have z1 := (tv_w hv_ 16 (by omega)).mp ⟨q1, q3⟩; omega
              · have z1 := (tv_w hv_ 17 (by omega)).mp ⟨q1, q3⟩; omega
              · have z1 := (tv_w hv_ 18 (by omega)).mp ⟨q1, q3⟩; omega
              · have z1 := (tv_w hv_ 24 (by omega)).mp ⟨q1, q3⟩; omega
              · have z1 := (tv_w hv_ 25 (by omega)).mp ⟨q1, q3⟩; omega
              · have z1 := (tv_w hv_ 19 (by omega)).mp ⟨q1, q3⟩; omega)⟩))⟩
        · have g56 := g_wSpot hG
          refine ⟨rfl, hG, ?_⟩
          refine ⟨by omega, ?_⟩
          exact hQ _ _ ⟨(gInv_up (gInv_up hG (p_rFault (by omega))) (p_rFaultAt (by omega))), (fr_f (fr_f (fr_rf _ _) rfl) rfl), (show ((0 : Int) = 1 ∧ ∃ c : List Int, GrS st 4 o (st 149 5) (st 149 5) c ∧ RDc (zup (zup st 148 3 1) 148 4 (st 149 6)) ∧ CDA (st 122 16) (st 122 16) (st 134) (st 134) c) ∨ ((0 : Int) = 0 ∧ FlS st 4 o (st 149 5)) from (by
            obtain ⟨tk_, tv_, te_, ht_, hv_⟩ := rd_tk rd ow
            have zn := tv_n hv_
            exact Or.inr ⟨rfl, Fl_bad (tkS_e (sT_of (fun i => (show aFr m_cPartA st st from (fr_rf _ _)) 2 i rfl rfl) ((show aFr m_cPartA st st from (fr_rf _ _)) 1 1 rfl rfl) ((show aFr m_cPartA st st from (fr_rf _ _)) 148 2 rfl rfl)) ht_) (by omega) (fun z => by have z1 := (tv_s hv_ 40).mp z; omega) (fun q => by
              obtain ⟨q1, q2⟩ := q
              unfold figOk at q2
              have q3 : tv_ = 1751474548 ∨ tv_ = 2036687218 ∨ tv_ = 1953459300 ∨ tv_ = 1886743660 ∨ tv_ = 1937007984 ∨ tv_ = 1650812270 ∨ tv_ = 495874044019 ∨ tv_ = 1953066341 ∨ tv_ = 465726042227 ∨ tv_ = 7170414 ∨ tv_ = 7168376 ∨ tv_ = 26982 := by omega
              rcases q3 with q3 | q3 | q3 | q3 | q3 | q3 | q3 | q3 | q3 | q3 | q3 | q3
              · have z1 := (tv_w hv_ 11 (by omega)).mp ⟨q1, q3⟩; omega
              · have z1 := (tv_w hv_ 13 (by omega)).mp ⟨q1, q3⟩; omega
              · have z1 := (tv_w hv_ 14 (by omega)).mp ⟨q1, q3⟩; omega
              · have z1 := (tv_w hv_ 8 (by omega)).mp ⟨q1, q3⟩; omega
              · have z1 := (tv_w hv_ 4 (by omega)).mp ⟨q1, q3⟩; omega
              · have z1 := (tv_w hv_ 15 (by omega)).mp ⟨q1, q3⟩; omega
              · have z1 := (tv_w hv_ 16 (by omega)).mp ⟨q1, q3⟩; omega
              · have z1 := (tv_w hv_ 17 (by omega)).mp ⟨q1, q3⟩; omega
              · have z1 := (tv_w hv_ 18 (by omega)).mp ⟨q1, q3⟩; omega
              · have z1 := (tv_w hv_ 24 (by omega)).mp ⟨q1, q3⟩; omega
              · have z1 := (tv_w hv_ 25 (by omega)).mp ⟨q1, q3⟩; omega
              · have z1 := (tv_w hv_ 19 (by omega)).mp ⟨q1, q3⟩; omega)⟩))⟩
        · have g57 := g_wSpot hG
          refine ⟨rfl, hG, ?_⟩
          refine ⟨by omega, ?_⟩
          exact hQ _ _ ⟨(gInv_up (gInv_up hG (p_rFault (by omega))) (p_rFaultAt (by omega))), (fr_f (fr_f (fr_rf _ _) rfl) rfl), (show ((0 : Int) = 1 ∧ ∃ c : List Int, GrS st 4 o (st 149 5) (st 149 5) c ∧ RDc (zup (zup st 148 3 1) 148 4 (st 149 6)) ∧ CDA (st 122 16) (st 122 16) (st 134) (st 134) c) ∨ ((0 : Int) = 0 ∧ FlS st 4 o (st 149 5)) from (by
            obtain ⟨tk_, tv_, te_, ht_, hv_⟩ := rd_tk rd ow
            have zn := tv_n hv_
            exact Or.inr ⟨rfl, Fl_bad (tkS_e (sT_of (fun i => (show aFr m_cPartA st st from (fr_rf _ _)) 2 i rfl rfl) ((show aFr m_cPartA st st from (fr_rf _ _)) 1 1 rfl rfl) ((show aFr m_cPartA st st from (fr_rf _ _)) 148 2 rfl rfl)) ht_) (by omega) (fun z => by have z1 := (tv_s hv_ 40).mp z; omega) (fun q => by
              obtain ⟨q1, q2⟩ := q
              unfold figOk at q2
              have q3 : tv_ = 1751474548 ∨ tv_ = 2036687218 ∨ tv_ = 1953459300 ∨ tv_ = 1886743660 ∨ tv_ = 1937007984 ∨ tv_ = 1650812270 ∨ tv_ = 495874044019 ∨ tv_ = 1953066341 ∨ tv_ = 465726042227 ∨ tv_ = 7170414 ∨ tv_ = 7168376 ∨ tv_ = 26982 := by omega
              rcases q3 with q3 | q3 | q3 | q3 | q3 | q3 | q3 | q3 | q3 | q3 | q3 | q3
              · have z1 := (tv_w hv_ 11 (by omega)).mp ⟨q1, q3⟩; omega
              · have z1 := (tv_w hv_ 13 (by omega)).mp ⟨q1, q3⟩; omega
              · have z1 := (tv_w hv_ 14 (by omega)).mp ⟨q1, q3⟩; omega
              · have z1 := (tv_w hv_ 8 (by omega)).mp ⟨q1, q3⟩; omega
              · have z1 := (tv_w hv_ 4 (by omega)).mp ⟨q1, q3⟩; omega
              · have z1 := (tv_w hv_ 15 (by omega)).mp ⟨q1, q3⟩; omega
              · have z1 := (tv_w hv_ 16 (by omega)).mp ⟨q1, q3⟩; omega
              · have z1 := (tv_w hv_ 17 (by omega)).mp ⟨q1, q3⟩; omega
              · have z1 := (tv_w hv_ 18 (by omega)).mp ⟨q1, q3⟩; omega
              · have z1 := (tv_w hv_ 24 (by omega)).mp ⟨q1, q3⟩; omega
              · have z1 := (tv_w hv_ 25 (by omega)).mp ⟨q1, q3⟩; omega
              · have z1 := (tv_w hv_ 19 (by omega)).mp ⟨q1, q3⟩; omega)⟩))⟩
        · have g58 := g_f148_2 hG
          refine ⟨fun h59 => ?_, fun h59 => ?_⟩
          · refine ⟨rfl, ⟨hG, (show RDc st from rd), (show cOW st from ow), (show st 148 1 = 122 from by omega), (show st 122 16 + 1 ≤ st 149 5 from by omega), (show st 149 3 = 2 ∧ st 149 4 = (st 149 4) ∧ 0 ≤ (st 149 4) ∧ (st 149 4) < 26 ∧ ((0) = 0 ∨ (0) = 1) from by omega)⟩, fun r14 s14 q14 => ?_⟩
            obtain ⟨gs14, fs14, o14⟩ := q14
            change (r14 = 1 ∧ (0) = 1 ∧ RDc s14 ∧ NX st s14 ∧ s14 122 16 = st 122 16 + 1 ∧ (s14 134) = up1 (st 134) (st 122 16).toNat (65536 * 201 + (st 149 4))) ∨ (r14 = 0 ∧ (0) = 0) at o14
            have g60 := g_f122_16 gs14
            rcases o14 with ⟨y14, k14, rd14, nx14, cc14, cf14⟩ | ⟨y14, k14⟩
            · refine ⟨by omega, ?_⟩
              have g61 := g_wStart gs14
              exact hQ _ _ ⟨gs14, (fr_tr (fr_rf _ _) fs14 rfl), (show (r14 = 1 ∧ ∃ c : List Int, GrS st 4 o (st 149 5) (s14 149 5) c ∧ RDc s14 ∧ CDA (st 122 16) (s14 122 16) (st 134) (s14 134) c) ∨ (r14 = 0 ∧ FlS st 4 o (st 149 5)) from Or.inl ⟨y14, [figS 1886743660], Gr_fig (v := 1886743660) (show tk (ctx st) (st 1 1) _ 1 (1886743660 : Int) _ from tkS_e (sT_of (fun i => (show aFr m_cPartA st st from (fr_rf _ _)) 2 i rfl rfl) ((show aFr m_cPartA st st from (fr_rf _ _)) 1 1 rfl rfl) ((show aFr m_cPartA st st from (fr_rf _ _)) 148 2 rfl rfl)) (nx_ow 8 rd ow nx14 (by omega) (by omega) rfl)) (by unfold figOk; omega), rd14, CDA_one (y := figS 1886743660) (g_f122_16 hG).1 cc14 cf14 (by rw [show st 149 4 = 8 by omega]; rfl)⟩)⟩
            · refine ⟨by omega, ?_⟩
              have g62 := g_wStart gs14
              exact hQ _ _ ⟨gs14, (fr_tr (fr_rf _ _) fs14 rfl), (show (r14 = 1 ∧ ∃ c : List Int, GrS st 4 o (st 149 5) (s14 149 5) c ∧ RDc s14 ∧ CDA (st 122 16) (s14 122 16) (st 134) (s14 134) c) ∨ (r14 = 0 ∧ FlS st 4 o (st 149 5)) from (by
            obtain ⟨tk_, tv_, te_, ht_, hv_⟩ := rd_tk rd ow
            have z := (tv_w hv_ 8 (by omega)).mpr (by omega)
            have zf : ¬ figOk (st 148 2 = 1) tv_ := by
              rw [z.2]
              unfold figOk
              show ¬ ((1886743660 : Int) = 1751474548 ∨ (1886743660 : Int) = 2036687218 ∨ (¬ st 148 2 = 1 ∧ ((1886743660 : Int) = 1953459300 ∨ (1886743660 : Int) = 1886743660 ∨ (1886743660 : Int) = 1937007984 ∨ (1886743660 : Int) = 1650812270)) ∨ (st 148 2 = 1 ∧ ((1886743660 : Int) = 495874044019 ∨ (1886743660 : Int) = 1953066341 ∨ (1886743660 : Int) = 465726042227)))
              omega
            have zv : tv_ = 1886743660 := z.2
            exact Or.inr ⟨y14, Fl_bad (tkS_e (sT_of (fun i => (show aFr m_cPartA st st from (fr_rf _ _)) 2 i rfl rfl) ((show aFr m_cPartA st st from (fr_rf _ _)) 1 1 rfl rfl) ((show aFr m_cPartA st st from (fr_rf _ _)) 148 2 rfl rfl)) ht_) (by omega) (by omega) (fun q => by rcases q.2 with q | q; exact zf q; omega)⟩))⟩
          · refine ⟨rfl, ⟨hG, (show RDc st from rd), (show cOW st from ow), (show st 148 1 = 122 from by omega), (show st 122 16 + 1 ≤ st 149 5 from by omega), (show st 149 3 = 2 ∧ st 149 4 = (st 149 4) ∧ 0 ≤ (st 149 4) ∧ (st 149 4) < 26 ∧ ((1) = 0 ∨ (1) = 1) from by omega)⟩, fun r15 s15 q15 => ?_⟩
            obtain ⟨gs15, fs15, o15⟩ := q15
            change (r15 = 1 ∧ (1) = 1 ∧ RDc s15 ∧ NX st s15 ∧ s15 122 16 = st 122 16 + 1 ∧ (s15 134) = up1 (st 134) (st 122 16).toNat (65536 * 201 + (st 149 4))) ∨ (r15 = 0 ∧ (1) = 0) at o15
            have g63 := g_f122_16 gs15
            rcases o15 with ⟨y15, k15, rd15, nx15, cc15, cf15⟩ | ⟨y15, k15⟩
            · refine ⟨by omega, ?_⟩
              have g64 := g_wStart gs15
              exact hQ _ _ ⟨gs15, (fr_tr (fr_rf _ _) fs15 rfl), (show (r15 = 1 ∧ ∃ c : List Int, GrS st 4 o (st 149 5) (s15 149 5) c ∧ RDc s15 ∧ CDA (st 122 16) (s15 122 16) (st 134) (s15 134) c) ∨ (r15 = 0 ∧ FlS st 4 o (st 149 5)) from Or.inl ⟨y15, [figS 1886743660], Gr_fig (v := 1886743660) (show tk (ctx st) (st 1 1) _ 1 (1886743660 : Int) _ from tkS_e (sT_of (fun i => (show aFr m_cPartA st st from (fr_rf _ _)) 2 i rfl rfl) ((show aFr m_cPartA st st from (fr_rf _ _)) 1 1 rfl rfl) ((show aFr m_cPartA st st from (fr_rf _ _)) 148 2 rfl rfl)) (nx_ow 8 rd ow nx15 (by omega) (by omega) rfl)) (by unfold figOk; omega), rd15, CDA_one (y := figS 1886743660) (g_f122_16 hG).1 cc15 cf15 (by rw [show st 149 4 = 8 by omega]; rfl)⟩)⟩
            · refine ⟨by omega, ?_⟩
              have g65 := g_wStart gs15
              exact hQ _ _ ⟨gs15, (fr_tr (fr_rf _ _) fs15 rfl), (show (r15 = 1 ∧ ∃ c : List Int, GrS st 4 o (st 149 5) (s15 149 5) c ∧ RDc s15 ∧ CDA (st 122 16) (s15 122 16) (st 134) (s15 134) c) ∨ (r15 = 0 ∧ FlS st 4 o (st 149 5)) from (by
            obtain ⟨tk_, tv_, te_, ht_, hv_⟩ := rd_tk rd ow
            have z := (tv_w hv_ 8 (by omega)).mpr (by omega)
            have zf : ¬ figOk (st 148 2 = 1) tv_ := by
              rw [z.2]
              unfold figOk
              show ¬ ((1886743660 : Int) = 1751474548 ∨ (1886743660 : Int) = 2036687218 ∨ (¬ st 148 2 = 1 ∧ ((1886743660 : Int) = 1953459300 ∨ (1886743660 : Int) = 1886743660 ∨ (1886743660 : Int) = 1937007984 ∨ (1886743660 : Int) = 1650812270)) ∨ (st 148 2 = 1 ∧ ((1886743660 : Int) = 495874044019 ∨ (1886743660 : Int) = 1953066341 ∨ (1886743660 : Int) = 465726042227)))
              omega
            have zv : tv_ = 1886743660 := z.2
            exact Or.inr ⟨y15, Fl_bad (tkS_e (sT_of (fun i => (show aFr m_cPartA st st from (fr_rf _ _)) 2 i rfl rfl) ((show aFr m_cPartA st st from (fr_rf _ _)) 1 1 rfl rfl) ((show aFr m_cPartA st st from (fr_rf _ _)) 148 2 rfl rfl)) ht_) (by omega) (by omega) (fun q => by rcases q.2 with q | q; exact zf q; omega)⟩))⟩
        · have g66 := g_wSpot hG
          refine ⟨rfl, hG, ?_⟩
          refine ⟨by omega, ?_⟩
          exact hQ _ _ ⟨(gInv_up (gInv_up hG (p_rFault (by omega))) (p_rFaultAt (by omega))), (fr_f (fr_f (fr_rf _ _) rfl) rfl), (show ((0 : Int) = 1 ∧ ∃ c : List Int, GrS st 4 o (st 149 5) (st 149 5) c ∧ RDc (zup (zup st 148 3 1) 148 4 (st 149 6)) ∧ CDA (st 122 16) (st 122 16) (st 134) (st 134) c) ∨ ((0 : Int) = 0 ∧ FlS st 4 o (st 149 5)) from (by
            obtain ⟨tk_, tv_, te_, ht_, hv_⟩ := rd_tk rd ow
            have zn := tv_n hv_
            exact Or.inr ⟨rfl, Fl_bad (tkS_e (sT_of (fun i => (show aFr m_cPartA st st from (fr_rf _ _)) 2 i rfl rfl) ((show aFr m_cPartA st st from (fr_rf _ _)) 1 1 rfl rfl) ((show aFr m_cPartA st st from (fr_rf _ _)) 148 2 rfl rfl)) ht_) (by omega) (fun z => by have z1 := (tv_s hv_ 40).mp z; omega) (fun q => by
              obtain ⟨q1, q2⟩ := q
              unfold figOk at q2
              have q3 : tv_ = 1751474548 ∨ tv_ = 2036687218 ∨ tv_ = 1953459300 ∨ tv_ = 1886743660 ∨ tv_ = 1937007984 ∨ tv_ = 1650812270 ∨ tv_ = 495874044019 ∨ tv_ = 1953066341 ∨ tv_ = 465726042227 ∨ tv_ = 7170414 ∨ tv_ = 7168376 ∨ tv_ = 26982 := by omega
              rcases q3 with q3 | q3 | q3 | q3 | q3 | q3 | q3 | q3 | q3 | q3 | q3 | q3
              · have z1 := (tv_w hv_ 11 (by omega)).mp ⟨q1, q3⟩; omega
              · have z1 := (tv_w hv_ 13 (by omega)).mp ⟨q1, q3⟩; omega
              · have z1 := (tv_w hv_ 14 (by omega)).mp ⟨q1, q3⟩; omega
              · have z1 := (tv_w hv_ 8 (by omega)).mp ⟨q1, q3⟩; omega
              · have z1 := (tv_w hv_ 4 (by omega)).mp ⟨q1, q3⟩; omega
              · have z1 := (tv_w hv_ 15 (by omega)).mp ⟨q1, q3⟩; omega
              · have z1 := (tv_w hv_ 16 (by omega)).mp ⟨q1, q3⟩; omega
              · have z1 := (tv_w hv_ 17 (by omega)).mp ⟨q1, q3⟩; omega
              · have z1 := (tv_w hv_ 18 (by omega)).mp ⟨q1, q3⟩; omega
              · have z1 := (tv_w hv_ 24 (by omega)).mp ⟨q1, q3⟩; omega
              · have z1 := (tv_w hv_ 25 (by omega)).mp ⟨q1, q3⟩; omega
              · have z1 := (tv_w hv_ 19 (by omega)).mp ⟨q1, q3⟩; omega)⟩))⟩
        · have g67 := g_wSpot hG
          refine ⟨rfl, hG, ?_⟩
          refine ⟨by omega, ?_⟩
          exact hQ _ _ ⟨(gInv_up (gInv_up hG (p_rFault (by omega))) (p_rFaultAt (by omega))), (fr_f (fr_f (fr_rf _ _) rfl) rfl), (show ((0 : Int) = 1 ∧ ∃ c : List Int, GrS st 4 o (st 149 5) (st 149 5) c ∧ RDc (zup (zup st 148 3 1) 148 4 (st 149 6)) ∧ CDA (st 122 16) (st 122 16) (st 134) (st 134) c) ∨ ((0 : Int) = 0 ∧ FlS st 4 o (st 149 5)) from (by
            obtain ⟨tk_, tv_, te_, ht_, hv_⟩ := rd_tk rd ow
            have zn := tv_n hv_
            exact Or.inr ⟨rfl, Fl_bad (tkS_e (sT_of (fun i => (show aFr m_cPartA st st from (fr_rf _ _)) 2 i rfl rfl) ((show aFr m_cPartA st st from (fr_rf _ _)) 1 1 rfl rfl) ((show aFr m_cPartA st st from (fr_rf _ _)) 148 2 rfl rfl)) ht_) (by omega) (fun z => by have z1 := (tv_s hv_ 40).mp z; omega) (fun q => by
              obtain ⟨q1, q2⟩ := q
              unfold figOk at q2
              have q3 : tv_ = 1751474548 ∨ tv_ = 2036687218 ∨ tv_ = 1953459300 ∨ tv_ = 1886743660 ∨ tv_ = 1937007984 ∨ tv_ = 1650812270 ∨ tv_ = 495874044019 ∨ tv_ = 1953066341 ∨ tv_ = 465726042227 ∨ tv_ = 7170414 ∨ tv_ = 7168376 ∨ tv_ = 26982 := by omega
              rcases q3 with q3 | q3 | q3 | q3 | q3 | q3 | q3 | q3 | q3 | q3 | q3 | q3
              · have z1 := (tv_w hv_ 11 (by omega)).mp ⟨q1, q3⟩; omega
              · have z1 := (tv_w hv_ 13 (by omega)).mp ⟨q1, q3⟩; omega
              · have z1 := (tv_w hv_ 14 (by omega)).mp ⟨q1, q3⟩; omega
              · have z1 := (tv_w hv_ 8 (by omega)).mp ⟨q1, q3⟩; omega
              · have z1 := (tv_w hv_ 4 (by omega)).mp ⟨q1, q3⟩; omega
              · have z1 := (tv_w hv_ 15 (by omega)).mp ⟨q1, q3⟩; omega
              · have z1 := (tv_w hv_ 16 (by omega)).mp ⟨q1, q3⟩; omega
              · have z1 := (tv_w hv_ 17 (by omega)).mp ⟨q1, q3⟩; omega
              · have z1 := (tv_w hv_ 18 (by omega)).mp ⟨q1, q3⟩; omega
              · have z1 := (tv_w hv_ 24 (by omega)).mp ⟨q1, q3⟩; omega
              · have z1 := (tv_w hv_ 25 (by omega)).mp ⟨q1, q3⟩; omega
              · have z1 := (tv_w hv_ 19 (by omega)).mp ⟨q1, q3⟩; omega)⟩))⟩
        · refine ⟨rfl, ⟨hG, (show RDc st from rd), (show cOW st from ow), (show st 148 1 = 122 from by omega), (show st 122 16 + 1 ≤ st 149 5 from by omega), (show st 149 3 = 2 ∧ st 149 4 = (st 149 4) ∧ 0 ≤ (st 149 4) ∧ (st 149 4) < 26 ∧ ((1) = 0 ∨ (1) = 1) from by omega)⟩, fun r18 s18 q18 => ?_⟩
          obtain ⟨gs18, fs18, o18⟩ := q18
          change (r18 = 1 ∧ (1) = 1 ∧ RDc s18 ∧ NX st s18 ∧ s18 122 16 = st 122 16 + 1 ∧ (s18 134) = up1 (st 134) (st 122 16).toNat (65536 * 201 + (st 149 4))) ∨ (r18 = 0 ∧ (1) = 0) at o18
          have g68 := g_f122_16 gs18
          rcases o18 with ⟨y18, k18, rd18, nx18, cc18, cf18⟩ | ⟨y18, k18⟩
          · refine ⟨by omega, ?_⟩
            have g69 := g_wStart gs18
            exact hQ _ _ ⟨gs18, (fr_tr (fr_rf _ _) fs18 rfl), (show (r18 = 1 ∧ ∃ c : List Int, GrS st 4 o (st 149 5) (s18 149 5) c ∧ RDc s18 ∧ CDA (st 122 16) (s18 122 16) (st 134) (s18 134) c) ∨ (r18 = 0 ∧ FlS st 4 o (st 149 5)) from Or.inl ⟨y18, [figS 1751474548], Gr_fig (v := 1751474548) (show tk (ctx st) (st 1 1) _ 1 (1751474548 : Int) _ from tkS_e (sT_of (fun i => (show aFr m_cPartA st st from (fr_rf _ _)) 2 i rfl rfl) ((show aFr m_cPartA st st from (fr_rf _ _)) 1 1 rfl rfl) ((show aFr m_cPartA st st from (fr_rf _ _)) 148 2 rfl rfl)) (nx_ow 11 rd ow nx18 (by omega) (by omega) rfl)) (by unfold figOk; omega), rd18, CDA_one (y := figS 1751474548) (g_f122_16 hG).1 cc18 cf18 (by rw [show st 149 4 = 11 by omega]; rfl)⟩)⟩
          · refine ⟨by omega, ?_⟩
            have g70 := g_wStart gs18
            exact hQ _ _ ⟨gs18, (fr_tr (fr_rf _ _) fs18 rfl), (show (r18 = 1 ∧ ∃ c : List Int, GrS st 4 o (st 149 5) (s18 149 5) c ∧ RDc s18 ∧ CDA (st 122 16) (s18 122 16) (st 134) (s18 134) c) ∨ (r18 = 0 ∧ FlS st 4 o (st 149 5)) from (by
            obtain ⟨tk_, tv_, te_, ht_, hv_⟩ := rd_tk rd ow
            have z := (tv_w hv_ 11 (by omega)).mpr (by omega)
            have zf : ¬ figOk (st 148 2 = 1) tv_ := by
              rw [z.2]
              unfold figOk
              show ¬ ((1751474548 : Int) = 1751474548 ∨ (1751474548 : Int) = 2036687218 ∨ (¬ st 148 2 = 1 ∧ ((1751474548 : Int) = 1953459300 ∨ (1751474548 : Int) = 1886743660 ∨ (1751474548 : Int) = 1937007984 ∨ (1751474548 : Int) = 1650812270)) ∨ (st 148 2 = 1 ∧ ((1751474548 : Int) = 495874044019 ∨ (1751474548 : Int) = 1953066341 ∨ (1751474548 : Int) = 465726042227)))
              omega
            have zv : tv_ = 1751474548 := z.2
            exact Or.inr ⟨y18, Fl_bad (tkS_e (sT_of (fun i => (show aFr m_cPartA st st from (fr_rf _ _)) 2 i rfl rfl) ((show aFr m_cPartA st st from (fr_rf _ _)) 1 1 rfl rfl) ((show aFr m_cPartA st st from (fr_rf _ _)) 148 2 rfl rfl)) ht_) (by omega) (by omega) (fun q => by rcases q.2 with q | q; exact zf q; omega)⟩))⟩
        · have g71 := g_wSpot hG
          refine ⟨rfl, hG, ?_⟩
          refine ⟨by omega, ?_⟩
          exact hQ _ _ ⟨(gInv_up (gInv_up hG (p_rFault (by omega))) (p_rFaultAt (by omega))), (fr_f (fr_f (fr_rf _ _) rfl) rfl), (show ((0 : Int) = 1 ∧ ∃ c : List Int, GrS st 4 o (st 149 5) (st 149 5) c ∧ RDc (zup (zup st 148 3 1) 148 4 (st 149 6)) ∧ CDA (st 122 16) (st 122 16) (st 134) (st 134) c) ∨ ((0 : Int) = 0 ∧ FlS st 4 o (st 149 5)) from (by
            obtain ⟨tk_, tv_, te_, ht_, hv_⟩ := rd_tk rd ow
            have zn := tv_n hv_
            exact Or.inr ⟨rfl, Fl_bad (tkS_e (sT_of (fun i => (show aFr m_cPartA st st from (fr_rf _ _)) 2 i rfl rfl) ((show aFr m_cPartA st st from (fr_rf _ _)) 1 1 rfl rfl) ((show aFr m_cPartA st st from (fr_rf _ _)) 148 2 rfl rfl)) ht_) (by omega) (fun z => by have z1 := (tv_s hv_ 40).mp z; omega) (fun q => by
              obtain ⟨q1, q2⟩ := q
              unfold figOk at q2
              have q3 : tv_ = 1751474548 ∨ tv_ = 2036687218 ∨ tv_ = 1953459300 ∨ tv_ = 1886743660 ∨ tv_ = 1937007984 ∨ tv_ = 1650812270 ∨ tv_ = 495874044019 ∨ tv_ = 1953066341 ∨ tv_ = 465726042227 ∨ tv_ = 7170414 ∨ tv_ = 7168376 ∨ tv_ = 26982 := by omega
              rcases q3 with q3 | q3 | q3 | q3 | q3 | q3 | q3 | q3 | q3 | q3 | q3 | q3
              · have z1 := (tv_w hv_ 11 (by omega)).mp ⟨q1, q3⟩; omega
              · have z1 := (tv_w hv_ 13 (by omega)).mp ⟨q1, q3⟩; omega
              · have z1 := (tv_w hv_ 14 (by omega)).mp ⟨q1, q3⟩; omega
              · have z1 := (tv_w hv_ 8 (by omega)).mp ⟨q1, q3⟩; omega
              · have z1 := (tv_w hv_ 4 (by omega)).mp ⟨q1, q3⟩; omega
              · have z1 := (tv_w hv_ 15 (by omega)).mp ⟨q1, q3⟩; omega
              · have z1 := (tv_w hv_ 16 (by omega)).mp ⟨q1, q3⟩; omega
              · have z1 := (tv_w hv_ 17 (by omega)).mp ⟨q1, q3⟩; omega
              · have z1 := (tv_w hv_ 18 (by omega)).mp ⟨q1, q3⟩; omega
              · have z1 := (tv_w hv_ 24 (by omega)).mp ⟨q1, q3⟩; omega
              · have z1 := (tv_w hv_ 25 (by omega)).mp ⟨q1, q3⟩; omega
              · have z1 := (tv_w hv_ 19 (by omega)).mp ⟨q1, q3⟩; omega)⟩))⟩
        · refine ⟨rfl, ⟨hG, (show RDc st from rd), (show cOW st from ow), (show st 148 1 = 122 from by omega), (show st 122 16 + 1 ≤ st 149 5 from by omega), (show st 149 3 = 2 ∧ st 149 4 = (st 149 4) ∧ 0 ≤ (st 149 4) ∧ (st 149 4) < 26 ∧ ((1) = 0 ∨ (1) = 1) from by omega)⟩, fun r20 s20 q20 => ?_⟩
          obtain ⟨gs20, fs20, o20⟩ := q20
          change (r20 = 1 ∧ (1) = 1 ∧ RDc s20 ∧ NX st s20 ∧ s20 122 16 = st 122 16 + 1 ∧ (s20 134) = up1 (st 134) (st 122 16).toNat (65536 * 201 + (st 149 4))) ∨ (r20 = 0 ∧ (1) = 0) at o20
          have g72 := g_f122_16 gs20
          rcases o20 with ⟨y20, k20, rd20, nx20, cc20, cf20⟩ | ⟨y20, k20⟩
          · refine ⟨by omega, ?_⟩
            have g73 := g_wStart gs20
            exact hQ _ _ ⟨gs20, (fr_tr (fr_rf _ _) fs20 rfl), (show (r20 = 1 ∧ ∃ c : List Int, GrS st 4 o (st 149 5) (s20 149 5) c ∧ RDc s20 ∧ CDA (st 122 16) (s20 122 16) (st 134) (s20 134) c) ∨ (r20 = 0 ∧ FlS st 4 o (st 149 5)) from Or.inl ⟨y20, [figS 2036687218], Gr_fig (v := 2036687218) (show tk (ctx st) (st 1 1) _ 1 (2036687218 : Int) _ from tkS_e (sT_of (fun i => (show aFr m_cPartA st st from (fr_rf _ _)) 2 i rfl rfl) ((show aFr m_cPartA st st from (fr_rf _ _)) 1 1 rfl rfl) ((show aFr m_cPartA st st from (fr_rf _ _)) 148 2 rfl rfl)) (nx_ow 13 rd ow nx20 (by omega) (by omega) rfl)) (by unfold figOk; omega), rd20, CDA_one (y := figS 2036687218) (g_f122_16 hG).1 cc20 cf20 (by rw [show st 149 4 = 13 by omega]; rfl)⟩)⟩
          · refine ⟨by omega, ?_⟩
            have g74 := g_wStart gs20
            exact hQ _ _ ⟨gs20, (fr_tr (fr_rf _ _) fs20 rfl), (show (r20 = 1 ∧ ∃ c : List Int, GrS st 4 o (st 149 5) (s20 149 5) c ∧ RDc s20 ∧ CDA (st 122 16) (s20 122 16) (st 134) (s20 134) c) ∨ (r20 = 0 ∧ FlS st 4 o (st 149 5)) from (by
            obtain ⟨tk_, tv_, te_, ht_, hv_⟩ := rd_tk rd ow
            have z := (tv_w hv_ 13 (by omega)).mpr (by omega)
            have zf : ¬ figOk (st 148 2 = 1) tv_ := by
              rw [z.2]
              unfold figOk
              show ¬ ((2036687218 : Int) = 1751474548 ∨ (2036687218 : Int) = 2036687218 ∨ (¬ st 148 2 = 1 ∧ ((2036687218 : Int) = 1953459300 ∨ (2036687218 : Int) = 1886743660 ∨ (2036687218 : Int) = 1937007984 ∨ (2036687218 : Int) = 1650812270)) ∨ (st 148 2 = 1 ∧ ((2036687218 : Int) = 495874044019 ∨ (2036687218 : Int) = 1953066341 ∨ (2036687218 : Int) = 465726042227)))
              omega
            have zv : tv_ = 2036687218 := z.2
            exact Or.inr ⟨y20, Fl_bad (tkS_e (sT_of (fun i => (show aFr m_cPartA st st from (fr_rf _ _)) 2 i rfl rfl) ((show aFr m_cPartA st st from (fr_rf _ _)) 1 1 rfl rfl) ((show aFr m_cPartA st st from (fr_rf _ _)) 148 2 rfl rfl)) ht_) (by omega) (by omega) (fun q => by rcases q.2 with q | q; exact zf q; omega)⟩))⟩
        · have g75 := g_f148_2 hG
          refine ⟨fun h76 => ?_, fun h76 => ?_⟩
          · refine ⟨rfl, ⟨hG, (show RDc st from rd), (show cOW st from ow), (show st 148 1 = 122 from by omega), (show st 122 16 + 1 ≤ st 149 5 from by omega), (show st 149 3 = 2 ∧ st 149 4 = (st 149 4) ∧ 0 ≤ (st 149 4) ∧ (st 149 4) < 26 ∧ ((0) = 0 ∨ (0) = 1) from by omega)⟩, fun r21 s21 q21 => ?_⟩
            obtain ⟨gs21, fs21, o21⟩ := q21
            change (r21 = 1 ∧ (0) = 1 ∧ RDc s21 ∧ NX st s21 ∧ s21 122 16 = st 122 16 + 1 ∧ (s21 134) = up1 (st 134) (st 122 16).toNat (65536 * 201 + (st 149 4))) ∨ (r21 = 0 ∧ (0) = 0) at o21
            have g77 := g_f122_16 gs21
            rcases o21 with ⟨y21, k21, rd21, nx21, cc21, cf21⟩ | ⟨y21, k21⟩
            · refine ⟨by omega, ?_⟩
              have g78 := g_wStart gs21
              exact hQ _ _ ⟨gs21, (fr_tr (fr_rf _ _) fs21 rfl), (show (r21 = 1 ∧ ∃ c : List Int, GrS st 4 o (st 149 5) (s21 149 5) c ∧ RDc s21 ∧ CDA (st 122 16) (s21 122 16) (st 134) (s21 134) c) ∨ (r21 = 0 ∧ FlS st 4 o (st 149 5)) from Or.inl ⟨y21, [figS 1953459300], Gr_fig (v := 1953459300) (show tk (ctx st) (st 1 1) _ 1 (1953459300 : Int) _ from tkS_e (sT_of (fun i => (show aFr m_cPartA st st from (fr_rf _ _)) 2 i rfl rfl) ((show aFr m_cPartA st st from (fr_rf _ _)) 1 1 rfl rfl) ((show aFr m_cPartA st st from (fr_rf _ _)) 148 2 rfl rfl)) (nx_ow 14 rd ow nx21 (by omega) (by omega) rfl)) (by unfold figOk; omega), rd21, CDA_one (y := figS 1953459300) (g_f122_16 hG).1 cc21 cf21 (by rw [show st 149 4 = 14 by omega]; rfl)⟩)⟩
            · refine ⟨by omega, ?_⟩
              have g79 := g_wStart gs21
              exact hQ _ _ ⟨gs21, (fr_tr (fr_rf _ _) fs21 rfl), (show (r21 = 1 ∧ ∃ c : List Int, GrS st 4 o (st 149 5) (s21 149 5) c ∧ RDc s21 ∧ CDA (st 122 16) (s21 122 16) (st 134) (s21 134) c) ∨ (r21 = 0 ∧ FlS st 4 o (st 149 5)) from (by
            obtain ⟨tk_, tv_, te_, ht_, hv_⟩ := rd_tk rd ow
            have z := (tv_w hv_ 14 (by omega)).mpr (by omega)
            have zf : ¬ figOk (st 148 2 = 1) tv_ := by
              rw [z.2]
              unfold figOk
              show ¬ ((1953459300 : Int) = 1751474548 ∨ (1953459300 : Int) = 2036687218 ∨ (¬ st 148 2 = 1 ∧ ((1953459300 : Int) = 1953459300 ∨ (1953459300 : Int) = 1886743660 ∨ (1953459300 : Int) = 1937007984 ∨ (1953459300 : Int) = 1650812270)) ∨ (st 148 2 = 1 ∧ ((1953459300 : Int) = 495874044019 ∨ (1953459300 : Int) = 1953066341 ∨ (1953459300 : Int) = 465726042227)))
              omega
            have zv : tv_ = 1953459300 := z.2
            exact Or.inr ⟨y21, Fl_bad (tkS_e (sT_of (fun i => (show aFr m_cPartA st st from (fr_rf _ _)) 2 i rfl rfl) ((show aFr m_cPartA st st from (fr_rf _ _)) 1 1 rfl rfl) ((show aFr m_cPartA st st from (fr_rf _ _)) 148 2 rfl rfl)) ht_) (by omega) (by omega) (fun q => by rcases q.2 with q | q; exact zf q; omega)⟩))⟩
          · refine ⟨rfl, ⟨hG, (show RDc st from rd), (show cOW st from ow), (show st 148 1 = 122 from by omega), (show st 122 16 + 1 ≤ st 149 5 from by omega), (show st 149 3 = 2 ∧ st 149 4 = (st 149 4) ∧ 0 ≤ (st 149 4) ∧ (st 149 4) < 26 ∧ ((1) = 0 ∨ (1) = 1) from by omega)⟩, fun r22 s22 q22 => ?_⟩
            obtain ⟨gs22, fs22, o22⟩ := q22
            change (r22 = 1 ∧ (1) = 1 ∧ RDc s22 ∧ NX st s22 ∧ s22 122 16 = st 122 16 + 1 ∧ (s22 134) = up1 (st 134) (st 122 16).toNat (65536 * 201 + (st 149 4))) ∨ (r22 = 0 ∧ (1) = 0) at o22
            have g80 := g_f122_16 gs22
            rcases o22 with ⟨y22, k22, rd22, nx22, cc22, cf22⟩ | ⟨y22, k22⟩
            · refine ⟨by omega, ?_⟩
              have g81 := g_wStart gs22
              exact hQ _ _ ⟨gs22, (fr_tr (fr_rf _ _) fs22 rfl), (show (r22 = 1 ∧ ∃ c : List Int, GrS st 4 o (st 149 5) (s22 149 5) c ∧ RDc s22 ∧ CDA (st 122 16) (s22 122 16) (st 134) (s22 134) c) ∨ (r22 = 0 ∧ FlS st 4 o (st 149 5)) from Or.inl ⟨y22, [figS 1953459300], Gr_fig (v := 1953459300) (show tk (ctx st) (st 1 1) _ 1 (1953459300 : Int) _ from tkS_e (sT_of (fun i => (show aFr m_cPartA st st from (fr_rf _ _)) 2 i rfl rfl) ((show aFr m_cPartA st st from (fr_rf _ _)) 1 1 rfl rfl) ((show aFr m_cPartA st st from (fr_rf _ _)) 148 2 rfl rfl)) (nx_ow 14 rd ow nx22 (by omega) (by omega) rfl)) (by unfold figOk; omega), rd22, CDA_one (y := figS 1953459300) (g_f122_16 hG).1 cc22 cf22 (by rw [show st 149 4 = 14 by omega]; rfl)⟩)⟩
            · refine ⟨by omega, ?_⟩
              have g82 := g_wStart gs22
              exact hQ _ _ ⟨gs22, (fr_tr (fr_rf _ _) fs22 rfl), (show (r22 = 1 ∧ ∃ c : List Int, GrS st 4 o (st 149 5) (s22 149 5) c ∧ RDc s22 ∧ CDA (st 122 16) (s22 122 16) (st 134) (s22 134) c) ∨ (r22 = 0 ∧ FlS st 4 o (st 149 5)) from (by
            obtain ⟨tk_, tv_, te_, ht_, hv_⟩ := rd_tk rd ow
            have z := (tv_w hv_ 14 (by omega)).mpr (by omega)
            have zf : ¬ figOk (st 148 2 = 1) tv_ := by
              rw [z.2]
              unfold figOk
              show ¬ ((1953459300 : Int) = 1751474548 ∨ (1953459300 : Int) = 2036687218 ∨ (¬ st 148 2 = 1 ∧ ((1953459300 : Int) = 1953459300 ∨ (1953459300 : Int) = 1886743660 ∨ (1953459300 : Int) = 1937007984 ∨ (1953459300 : Int) = 1650812270)) ∨ (st 148 2 = 1 ∧ ((1953459300 : Int) = 495874044019 ∨ (1953459300 : Int) = 1953066341 ∨ (1953459300 : Int) = 465726042227)))
              omega
            have zv : tv_ = 1953459300 := z.2
            exact Or.inr ⟨y22, Fl_bad (tkS_e (sT_of (fun i => (show aFr m_cPartA st st from (fr_rf _ _)) 2 i rfl rfl) ((show aFr m_cPartA st st from (fr_rf _ _)) 1 1 rfl rfl) ((show aFr m_cPartA st st from (fr_rf _ _)) 148 2 rfl rfl)) ht_) (by omega) (by omega) (fun q => by rcases q.2 with q | q; exact zf q; omega)⟩))⟩
        · have g83 := g_f148_2 hG
          refine ⟨fun h84 => ?_, fun h84 => ?_⟩
          · refine ⟨rfl, ⟨hG, (show RDc st from rd), (show cOW st from ow), (show st 148 1 = 122 from by omega), (show st 122 16 + 1 ≤ st 149 5 from by omega), (show st 149 3 = 2 ∧ st 149 4 = (st 149 4) ∧ 0 ≤ (st 149 4) ∧ (st 149 4) < 26 ∧ ((0) = 0 ∨ (0) = 1) from by omega)⟩, fun r23 s23 q23 => ?_⟩
            obtain ⟨gs23, fs23, o23⟩ := q23
            change (r23 = 1 ∧ (0) = 1 ∧ RDc s23 ∧ NX st s23 ∧ s23 122 16 = st 122 16 + 1 ∧ (s23 134) = up1 (st 134) (st 122 16).toNat (65536 * 201 + (st 149 4))) ∨ (r23 = 0 ∧ (0) = 0) at o23
            have g85 := g_f122_16 gs23
            rcases o23 with ⟨y23, k23, rd23, nx23, cc23, cf23⟩ | ⟨y23, k23⟩
            · refine ⟨by omega, ?_⟩
              have g86 := g_wStart gs23
              exact hQ _ _ ⟨gs23, (fr_tr (fr_rf _ _) fs23 rfl), (show (r23 = 1 ∧ ∃ c : List Int, GrS st 4 o (st 149 5) (s23 149 5) c ∧ RDc s23 ∧ CDA (st 122 16) (s23 122 16) (st 134) (s23 134) c) ∨ (r23 = 0 ∧ FlS st 4 o (st 149 5)) from Or.inl ⟨y23, [figS 1650812270], Gr_fig (v := 1650812270) (show tk (ctx st) (st 1 1) _ 1 (1650812270 : Int) _ from tkS_e (sT_of (fun i => (show aFr m_cPartA st st from (fr_rf _ _)) 2 i rfl rfl) ((show aFr m_cPartA st st from (fr_rf _ _)) 1 1 rfl rfl) ((show aFr m_cPartA st st from (fr_rf _ _)) 148 2 rfl rfl)) (nx_ow 15 rd ow nx23 (by omega) (by omega) rfl)) (by unfold figOk; omega), rd23, CDA_one (y := figS 1650812270) (g_f122_16 hG).1 cc23 cf23 (by rw [show st 149 4 = 15 by omega]; rfl)⟩)⟩
            · refine ⟨by omega, ?_⟩
              have g87 := g_wStart gs23
              exact hQ _ _ ⟨gs23, (fr_tr (fr_rf _ _) fs23 rfl), (show (r23 = 1 ∧ ∃ c : List Int, GrS st 4 o (st 149 5) (s23 149 5) c ∧ RDc s23 ∧ CDA (st 122 16) (s23 122 16) (st 134) (s23 134) c) ∨ (r23 = 0 ∧ FlS st 4 o (st 149 5)) from (by
            obtain ⟨tk_, tv_, te_, ht_, hv_⟩ := rd_tk rd ow
            have z := (tv_w hv_ 15 (by omega)).mpr (by omega)
            have zf : ¬ figOk (st 148 2 = 1) tv_ := by
              rw [z.2]
              unfold figOk
              show ¬ ((1650812270 : Int) = 1751474548 ∨ (1650812270 : Int) = 2036687218 ∨ (¬ st 148 2 = 1 ∧ ((1650812270 : Int) = 1953459300 ∨ (1650812270 : Int) = 1886743660 ∨ (1650812270 : Int) = 1937007984 ∨ (1650812270 : Int) = 1650812270)) ∨ (st 148 2 = 1 ∧ ((1650812270 : Int) = 495874044019 ∨ (1650812270 : Int) = 1953066341 ∨ (1650812270 : Int) = 465726042227)))
              omega
            have zv : tv_ = 1650812270 := z.2
            exact Or.inr ⟨y23, Fl_bad (tkS_e (sT_of (fun i => (show aFr m_cPartA st st from (fr_rf _ _)) 2 i rfl rfl) ((show aFr m_cPartA st st from (fr_rf _ _)) 1 1 rfl rfl) ((show aFr m_cPartA st st from (fr_rf _ _)) 148 2 rfl rfl)) ht_) (by omega) (by omega) (fun q => by rcases q.2 with q | q; exact zf q; omega)⟩))⟩
          · refine ⟨rfl, ⟨hG, (show RDc st from rd), (show cOW st from ow), (show st 148 1 = 122 from by omega), (show st 122 16 + 1 ≤ st 149 5 from by omega), (show st 149 3 = 2 ∧ st 149 4 = (st 149 4) ∧ 0 ≤ (st 149 4) ∧ (st 149 4) < 26 ∧ ((1) = 0 ∨ (1) = 1) from by omega)⟩, fun r24 s24 q24 => ?_⟩
            obtain ⟨gs24, fs24, o24⟩ := q24
            change (r24 = 1 ∧ (1) = 1 ∧ RDc s24 ∧ NX st s24 ∧ s24 122 16 = st 122 16 + 1 ∧ (s24 134) = up1 (st 134) (st 122 16).toNat (65536 * 201 + (st 149 4))) ∨ (r24 = 0 ∧ (1) = 0) at o24
            have g88 := g_f122_16 gs24
            rcases o24 with ⟨y24, k24, rd24, nx24, cc24, cf24⟩ | ⟨y24, k24⟩
            · refine ⟨by omega, ?_⟩
              have g89 := g_wStart gs24
              exact hQ _ _ ⟨gs24, (fr_tr (fr_rf _ _) fs24 rfl), (show (r24 = 1 ∧ ∃ c : List Int, GrS st 4 o (st 149 5) (s24 149 5) c ∧ RDc s24 ∧ CDA (st 122 16) (s24 122 16) (st 134) (s24 134) c) ∨ (r24 = 0 ∧ FlS st 4 o (st 149 5)) from Or.inl ⟨y24, [figS 1650812270], Gr_fig (v := 1650812270) (show tk (ctx st) (st 1 1) _ 1 (1650812270 : Int) _ from tkS_e (sT_of (fun i => (show aFr m_cPartA st st from (fr_rf _ _)) 2 i rfl rfl) ((show aFr m_cPartA st st from (fr_rf _ _)) 1 1 rfl rfl) ((show aFr m_cPartA st st from (fr_rf _ _)) 148 2 rfl rfl)) (nx_ow 15 rd ow nx24 (by omega) (by omega) rfl)) (by unfold figOk; omega), rd24, CDA_one (y := figS 1650812270) (g_f122_16 hG).1 cc24 cf24 (by rw [show st 149 4 = 15 by omega]; rfl)⟩)⟩
            · refine ⟨by omega, ?_⟩
              have g90 := g_wStart gs24
              exact hQ _ _ ⟨gs24, (fr_tr (fr_rf _ _) fs24 rfl), (show (r24 = 1 ∧ ∃ c : List Int, GrS st 4 o (st 149 5) (s24 149 5) c ∧ RDc s24 ∧ CDA (st 122 16) (s24 122 16) (st 134) (s24 134) c) ∨ (r24 = 0 ∧ FlS st 4 o (st 149 5)) from (by
            obtain ⟨tk_, tv_, te_, ht_, hv_⟩ := rd_tk rd ow
            have z := (tv_w hv_ 15 (by omega)).mpr (by omega)
            have zf : ¬ figOk (st 148 2 = 1) tv_ := by
              rw [z.2]
              unfold figOk
              show ¬ ((1650812270 : Int) = 1751474548 ∨ (1650812270 : Int) = 2036687218 ∨ (¬ st 148 2 = 1 ∧ ((1650812270 : Int) = 1953459300 ∨ (1650812270 : Int) = 1886743660 ∨ (1650812270 : Int) = 1937007984 ∨ (1650812270 : Int) = 1650812270)) ∨ (st 148 2 = 1 ∧ ((1650812270 : Int) = 495874044019 ∨ (1650812270 : Int) = 1953066341 ∨ (1650812270 : Int) = 465726042227)))
              omega
            have zv : tv_ = 1650812270 := z.2
            exact Or.inr ⟨y24, Fl_bad (tkS_e (sT_of (fun i => (show aFr m_cPartA st st from (fr_rf _ _)) 2 i rfl rfl) ((show aFr m_cPartA st st from (fr_rf _ _)) 1 1 rfl rfl) ((show aFr m_cPartA st st from (fr_rf _ _)) 148 2 rfl rfl)) ht_) (by omega) (by omega) (fun q => by rcases q.2 with q | q; exact zf q; omega)⟩))⟩
        · have g91 := g_f148_2 hG
          refine ⟨rfl, ⟨hG, (show RDc st from rd), (show cOW st from ow), (show st 148 1 = 122 from by omega), (show st 122 16 + 1 ≤ st 149 5 from by omega), (show st 149 3 = 2 ∧ st 149 4 = (st 149 4) ∧ 0 ≤ (st 149 4) ∧ (st 149 4) < 26 ∧ ((st 148 2) = 0 ∨ (st 148 2) = 1) from by omega)⟩, fun r25 s25 q25 => ?_⟩
          obtain ⟨gs25, fs25, o25⟩ := q25
          change (r25 = 1 ∧ (st 148 2) = 1 ∧ RDc s25 ∧ NX st s25 ∧ s25 122 16 = st 122 16 + 1 ∧ (s25 134) = up1 (st 134) (st 122 16).toNat (65536 * 201 + (st 149 4))) ∨ (r25 = 0 ∧ (st 148 2) = 0) at o25
          have g92 := g_f122_16 gs25
          rcases o25 with ⟨y25, k25, rd25, nx25, cc25, cf25⟩ | ⟨y25, k25⟩
          · refine ⟨by omega, ?_⟩
            have g93 := g_wStart gs25
            exact hQ _ _ ⟨gs25, (fr_tr (fr_rf _ _) fs25 rfl), (show (r25 = 1 ∧ ∃ c : List Int, GrS st 4 o (st 149 5) (s25 149 5) c ∧ RDc s25 ∧ CDA (st 122 16) (s25 122 16) (st 134) (s25 134) c) ∨ (r25 = 0 ∧ FlS st 4 o (st 149 5)) from Or.inl ⟨y25, [figS 495874044019], Gr_fig (v := 495874044019) (show tk (ctx st) (st 1 1) _ 1 (495874044019 : Int) _ from tkS_e (sT_of (fun i => (show aFr m_cPartA st st from (fr_rf _ _)) 2 i rfl rfl) ((show aFr m_cPartA st st from (fr_rf _ _)) 1 1 rfl rfl) ((show aFr m_cPartA st st from (fr_rf _ _)) 148 2 rfl rfl)) (nx_ow 16 rd ow nx25 (by omega) (by omega) rfl)) (by unfold figOk; omega), rd25, CDA_one (y := figS 495874044019) (g_f122_16 hG).1 cc25 cf25 (by rw [show st 149 4 = 16 by omega]; rfl)⟩)⟩
          · refine ⟨by omega, ?_⟩
            have g94 := g_wStart gs25
            exact hQ _ _ ⟨gs25, (fr_tr (fr_rf _ _) fs25 rfl), (show (r25 = 1 ∧ ∃ c : List Int, GrS st 4 o (st 149 5) (s25 149 5) c ∧ RDc s25 ∧ CDA (st 122 16) (s25 122 16) (st 134) (s25 134) c) ∨ (r25 = 0 ∧ FlS st 4 o (st 149 5)) from (by
            obtain ⟨tk_, tv_, te_, ht_, hv_⟩ := rd_tk rd ow
            have z := (tv_w hv_ 16 (by omega)).mpr (by omega)
            have zf : ¬ figOk (st 148 2 = 1) tv_ := by
              rw [z.2]
              unfold figOk
              show ¬ ((495874044019 : Int) = 1751474548 ∨ (495874044019 : Int) = 2036687218 ∨ (¬ st 148 2 = 1 ∧ ((495874044019 : Int) = 1953459300 ∨ (495874044019 : Int) = 1886743660 ∨ (495874044019 : Int) = 1937007984 ∨ (495874044019 : Int) = 1650812270)) ∨ (st 148 2 = 1 ∧ ((495874044019 : Int) = 495874044019 ∨ (495874044019 : Int) = 1953066341 ∨ (495874044019 : Int) = 465726042227)))
              omega
            have zv : tv_ = 495874044019 := z.2
            exact Or.inr ⟨y25, Fl_bad (tkS_e (sT_of (fun i => (show aFr m_cPartA st st from (fr_rf _ _)) 2 i rfl rfl) ((show aFr m_cPartA st st from (fr_rf _ _)) 1 1 rfl rfl) ((show aFr m_cPartA st st from (fr_rf _ _)) 148 2 rfl rfl)) ht_) (by omega) (by omega) (fun q => by rcases q.2 with q | q; exact zf q; omega)⟩))⟩
        · have g95 := g_f148_2 hG
          refine ⟨rfl, ⟨hG, (show RDc st from rd), (show cOW st from ow), (show st 148 1 = 122 from by omega), (show st 122 16 + 1 ≤ st 149 5 from by omega), (show st 149 3 = 2 ∧ st 149 4 = (st 149 4) ∧ 0 ≤ (st 149 4) ∧ (st 149 4) < 26 ∧ ((st 148 2) = 0 ∨ (st 148 2) = 1) from by omega)⟩, fun r26 s26 q26 => ?_⟩
          obtain ⟨gs26, fs26, o26⟩ := q26
          change (r26 = 1 ∧ (st 148 2) = 1 ∧ RDc s26 ∧ NX st s26 ∧ s26 122 16 = st 122 16 + 1 ∧ (s26 134) = up1 (st 134) (st 122 16).toNat (65536 * 201 + (st 149 4))) ∨ (r26 = 0 ∧ (st 148 2) = 0) at o26
          have g96 := g_f122_16 gs26
          rcases o26 with ⟨y26, k26, rd26, nx26, cc26, cf26⟩ | ⟨y26, k26⟩
          · refine ⟨by omega, ?_⟩
            have g97 := g_wStart gs26
            exact hQ _ _ ⟨gs26, (fr_tr (fr_rf _ _) fs26 rfl), (show (r26 = 1 ∧ ∃ c : List Int, GrS st 4 o (st 149 5) (s26 149 5) c ∧ RDc s26 ∧ CDA (st 122 16) (s26 122 16) (st 134) (s26 134) c) ∨ (r26 = 0 ∧ FlS st 4 o (st 149 5)) from Or.inl ⟨y26, [figS 1953066341], Gr_fig (v := 1953066341) (show tk (ctx st) (st 1 1) _ 1 (1953066341 : Int) _ from tkS_e (sT_of (fun i => (show aFr m_cPartA st st from (fr_rf _ _)) 2 i rfl rfl) ((show aFr m_cPartA st st from (fr_rf _ _)) 1 1 rfl rfl) ((show aFr m_cPartA st st from (fr_rf _ _)) 148 2 rfl rfl)) (nx_ow 17 rd ow nx26 (by omega) (by omega) rfl)) (by unfold figOk; omega), rd26, CDA_one (y := figS 1953066341) (g_f122_16 hG).1 cc26 cf26 (by rw [show st 149 4 = 17 by omega]; rfl)⟩)⟩
          · refine ⟨by omega, ?_⟩
            have g98 := g_wStart gs26
            exact hQ _ _ ⟨gs26, (fr_tr (fr_rf _ _) fs26 rfl), (show (r26 = 1 ∧ ∃ c : List Int, GrS st 4 o (st 149 5) (s26 149 5) c ∧ RDc s26 ∧ CDA (st 122 16) (s26 122 16) (st 134) (s26 134) c) ∨ (r26 = 0 ∧ FlS st 4 o (st 149 5)) from (by
            obtain ⟨tk_, tv_, te_, ht_, hv_⟩ := rd_tk rd ow
            have z := (tv_w hv_ 17 (by omega)).mpr (by omega)
            have zf : ¬ figOk (st 148 2 = 1) tv_ := by
              rw [z.2]
              unfold figOk
              show ¬ ((1953066341 : Int) = 1751474548 ∨ (1953066341 : Int) = 2036687218 ∨ (¬ st 148 2 = 1 ∧ ((1953066341 : Int) = 1953459300 ∨ (1953066341 : Int) = 1886743660 ∨ (1953066341 : Int) = 1937007984 ∨ (1953066341 : Int) = 1650812270)) ∨ (st 148 2 = 1 ∧ ((1953066341 : Int) = 495874044019 ∨ (1953066341 : Int) = 1953066341 ∨ (1953066341 : Int) = 465726042227)))
              omega
            have zv : tv_ = 1953066341 := z.2
            exact Or.inr ⟨y26, Fl_bad (tkS_e (sT_of (fun i => (show aFr m_cPartA st st from (fr_rf _ _)) 2 i rfl rfl) ((show aFr m_cPartA st st from (fr_rf _ _)) 1 1 rfl rfl) ((show aFr m_cPartA st st from (fr_rf _ _)) 148 2 rfl rfl)) ht_) (by omega) (by omega) (fun q => by rcases q.2 with q | q; exact zf q; omega)⟩))⟩
        · have g99 := g_f148_2 hG
          refine ⟨rfl, ⟨hG, (show RDc st from rd), (show cOW st from ow), (show st 148 1 = 122 from by omega), (show st 122 16 + 1 ≤ st 149 5 from by omega), (show st 149 3 = 2 ∧ st 149 4 = (st 149 4) ∧ 0 ≤ (st 149 4) ∧ (st 149 4) < 26 ∧ ((st 148 2) = 0 ∨ (st 148 2) = 1) from by omega)⟩, fun r27 s27 q27 => ?_⟩
          obtain ⟨gs27, fs27, o27⟩ := q27
          change (r27 = 1 ∧ (st 148 2) = 1 ∧ RDc s27 ∧ NX st s27 ∧ s27 122 16 = st 122 16 + 1 ∧ (s27 134) = up1 (st 134) (st 122 16).toNat (65536 * 201 + (st 149 4))) ∨ (r27 = 0 ∧ (st 148 2) = 0) at o27
          have g100 := g_f122_16 gs27
          rcases o27 with ⟨y27, k27, rd27, nx27, cc27, cf27⟩ | ⟨y27, k27⟩
          · refine ⟨by omega, ?_⟩
            have g101 := g_wStart gs27
            exact hQ _ _ ⟨gs27, (fr_tr (fr_rf _ _) fs27 rfl), (show (r27 = 1 ∧ ∃ c : List Int, GrS st 4 o (st 149 5) (s27 149 5) c ∧ RDc s27 ∧ CDA (st 122 16) (s27 122 16) (st 134) (s27 134) c) ∨ (r27 = 0 ∧ FlS st 4 o (st 149 5)) from Or.inl ⟨y27, [figS 465726042227], Gr_fig (v := 465726042227) (show tk (ctx st) (st 1 1) _ 1 (465726042227 : Int) _ from tkS_e (sT_of (fun i => (show aFr m_cPartA st st from (fr_rf _ _)) 2 i rfl rfl) ((show aFr m_cPartA st st from (fr_rf _ _)) 1 1 rfl rfl) ((show aFr m_cPartA st st from (fr_rf _ _)) 148 2 rfl rfl)) (nx_ow 18 rd ow nx27 (by omega) (by omega) rfl)) (by unfold figOk; omega), rd27, CDA_one (y := figS 465726042227) (g_f122_16 hG).1 cc27 cf27 (by rw [show st 149 4 = 18 by omega]; rfl)⟩)⟩
          · refine ⟨by omega, ?_⟩
            have g102 := g_wStart gs27
            exact hQ _ _ ⟨gs27, (fr_tr (fr_rf _ _) fs27 rfl), (show (r27 = 1 ∧ ∃ c : List Int, GrS st 4 o (st 149 5) (s27 149 5) c ∧ RDc s27 ∧ CDA (st 122 16) (s27 122 16) (st 134) (s27 134) c) ∨ (r27 = 0 ∧ FlS st 4 o (st 149 5)) from (by
            obtain ⟨tk_, tv_, te_, ht_, hv_⟩ := rd_tk rd ow
            have z := (tv_w hv_ 18 (by omega)).mpr (by omega)
            have zf : ¬ figOk (st 148 2 = 1) tv_ := by
              rw [z.2]
              unfold figOk
              show ¬ ((465726042227 : Int) = 1751474548 ∨ (465726042227 : Int) = 2036687218 ∨ (¬ st 148 2 = 1 ∧ ((465726042227 : Int) = 1953459300 ∨ (465726042227 : Int) = 1886743660 ∨ (465726042227 : Int) = 1937007984 ∨ (465726042227 : Int) = 1650812270)) ∨ (st 148 2 = 1 ∧ ((465726042227 : Int) = 495874044019 ∨ (465726042227 : Int) = 1953066341 ∨ (465726042227 : Int) = 465726042227)))
              omega
            have zv : tv_ = 465726042227 := z.2
            exact Or.inr ⟨y27, Fl_bad (tkS_e (sT_of (fun i => (show aFr m_cPartA st st from (fr_rf _ _)) 2 i rfl rfl) ((show aFr m_cPartA st st from (fr_rf _ _)) 1 1 rfl rfl) ((show aFr m_cPartA st st from (fr_rf _ _)) 148 2 rfl rfl)) ht_) (by omega) (by omega) (fun q => by rcases q.2 with q | q; exact zf q; omega)⟩))⟩
        · refine ⟨rfl, ⟨hG, (show RDc st from rd), (show cOW st from ow), (show st 148 1 = 122 from by omega), (show st 122 16 + 1 ≤ st 149 5 from by omega), (show 1 + 12 * (7 - o) ≤ (m : Int) from by omega), (show 0 ≤ o ∧ o ≤ 7 from by omega), (show st 149 3 = 2 ∧ st 149 4 = 19 from by omega)⟩, fun r28 s28 q28 => ?_⟩
          obtain ⟨gs28, fs28, o28⟩ := q28
          change (r28 = 1 ∧ ∃ c : List Int, GrS st 4 o (st 149 5) (s28 149 5) c ∧ RDc s28 ∧ CDA (st 122 16) (s28 122 16) (st 134) (s28 134) c) ∨ (r28 = 0 ∧ FlS st 4 o (st 149 5)) at o28
          have g103 := g_wStart gs28
          have g104 := g_f122_16 gs28
          rcases o28 with ⟨y28, c28, g28, rd28, cd28⟩ | ⟨y28, l28⟩
          · have gl28 := Gr_len g28 rd.1.1
            have cn28 := cd28.2.1
            have rb28 := rd28.1
            have rt28 := g_tsize gs28
            refine ⟨by omega, ?_⟩
            exact hQ _ _ ⟨gs28, (fr_tr (fr_rf _ _) fs28 rfl), (show (r28 = 1 ∧ ∃ c : List Int, GrS st 4 o (st 149 5) (s28 149 5) c ∧ RDc s28 ∧ CDA (st 122 16) (s28 122 16) (st 134) (s28 134) c) ∨ (r28 = 0 ∧ FlS st 4 o (st 149 5)) from Or.inl ⟨y28, c28, g28, rd28, cd28⟩)⟩
          · refine ⟨by omega, ?_⟩
            exact hQ _ _ ⟨gs28, (fr_tr (fr_rf _ _) fs28 rfl), (show (r28 = 1 ∧ ∃ c : List Int, GrS st 4 o (st 149 5) (s28 149 5) c ∧ RDc s28 ∧ CDA (st 122 16) (s28 122 16) (st 134) (s28 134) c) ∨ (r28 = 0 ∧ FlS st 4 o (st 149 5)) from Or.inr ⟨y28, l28⟩)⟩
        · have g105 := g_wSpot hG
          refine ⟨rfl, hG, ?_⟩
          refine ⟨by omega, ?_⟩
          exact hQ _ _ ⟨(gInv_up (gInv_up hG (p_rFault (by omega))) (p_rFaultAt (by omega))), (fr_f (fr_f (fr_rf _ _) rfl) rfl), (show ((0 : Int) = 1 ∧ ∃ c : List Int, GrS st 4 o (st 149 5) (st 149 5) c ∧ RDc (zup (zup st 148 3 1) 148 4 (st 149 6)) ∧ CDA (st 122 16) (st 122 16) (st 134) (st 134) c) ∨ ((0 : Int) = 0 ∧ FlS st 4 o (st 149 5)) from (by
            obtain ⟨tk_, tv_, te_, ht_, hv_⟩ := rd_tk rd ow
            have zn := tv_n hv_
            exact Or.inr ⟨rfl, Fl_bad (tkS_e (sT_of (fun i => (show aFr m_cPartA st st from (fr_rf _ _)) 2 i rfl rfl) ((show aFr m_cPartA st st from (fr_rf _ _)) 1 1 rfl rfl) ((show aFr m_cPartA st st from (fr_rf _ _)) 148 2 rfl rfl)) ht_) (by omega) (fun z => by have z1 := (tv_s hv_ 40).mp z; omega) (fun q => by
              obtain ⟨q1, q2⟩ := q
              unfold figOk at q2
              have q3 : tv_ = 1751474548 ∨ tv_ = 2036687218 ∨ tv_ = 1953459300 ∨ tv_ = 1886743660 ∨ tv_ = 1937007984 ∨ tv_ = 1650812270 ∨ tv_ = 495874044019 ∨ tv_ = 1953066341 ∨ tv_ = 465726042227 ∨ tv_ = 7170414 ∨ tv_ = 7168376 ∨ tv_ = 26982 := by omega
              rcases q3 with q3 | q3 | q3 | q3 | q3 | q3 | q3 | q3 | q3 | q3 | q3 | q3
              · have z1 := (tv_w hv_ 11 (by omega)).mp ⟨q1, q3⟩; omega
              · have z1 := (tv_w hv_ 13 (by omega)).mp ⟨q1, q3⟩; omega
              · have z1 := (tv_w hv_ 14 (by omega)).mp ⟨q1, q3⟩; omega
              · have z1 := (tv_w hv_ 8 (by omega)).mp ⟨q1, q3⟩; omega
              · have z1 := (tv_w hv_ 4 (by omega)).mp ⟨q1, q3⟩; omega
              · have z1 := (tv_w hv_ 15 (by omega)).mp ⟨q1, q3⟩; omega
              · have z1 := (tv_w hv_ 16 (by omega)).mp ⟨q1, q3⟩; omega
              · have z1 := (tv_w hv_ 17 (by omega)).mp ⟨q1, q3⟩; omega
              · have z1 := (tv_w hv_ 18 (by omega)).mp ⟨q1, q3⟩; omega
              · have z1 := (tv_w hv_ 24 (by omega)).mp ⟨q1, q3⟩; omega
              · have z1 := (tv_w hv_ 25 (by omega)).mp ⟨q1, q3⟩; omega
              · have z1 := (tv_w hv_ 19 (by omega)).mp ⟨q1, q3⟩; omega)⟩))⟩
        · have g106 := g_wSpot hG
          refine ⟨rfl, hG, ?_⟩
          refine ⟨by omega, ?_⟩
          exact hQ _ _ ⟨(gInv_up (gInv_up hG (p_rFault (by omega))) (p_rFaultAt (by omega))), (fr_f (fr_f (fr_rf _ _) rfl) rfl), (show ((0 : Int) = 1 ∧ ∃ c : List Int, GrS st 4 o (st 149 5) (st 149 5) c ∧ RDc (zup (zup st 148 3 1) 148 4 (st 149 6)) ∧ CDA (st 122 16) (st 122 16) (st 134) (st 134) c) ∨ ((0 : Int) = 0 ∧ FlS st 4 o (st 149 5)) from (by
            obtain ⟨tk_, tv_, te_, ht_, hv_⟩ := rd_tk rd ow
            have zn := tv_n hv_
            exact Or.inr ⟨rfl, Fl_bad (tkS_e (sT_of (fun i => (show aFr m_cPartA st st from (fr_rf _ _)) 2 i rfl rfl) ((show aFr m_cPartA st st from (fr_rf _ _)) 1 1 rfl rfl) ((show aFr m_cPartA st st from (fr_rf _ _)) 148 2 rfl rfl)) ht_) (by omega) (fun z => by have z1 := (tv_s hv_ 40).mp z; omega) (fun q => by
              obtain ⟨q1, q2⟩ := q
              unfold figOk at q2
              have q3 : tv_ = 1751474548 ∨ tv_ = 2036687218 ∨ tv_ = 1953459300 ∨ tv_ = 1886743660 ∨ tv_ = 1937007984 ∨ tv_ = 1650812270 ∨ tv_ = 495874044019 ∨ tv_ = 1953066341 ∨ tv_ = 465726042227 ∨ tv_ = 7170414 ∨ tv_ = 7168376 ∨ tv_ = 26982 := by omega
              rcases q3 with q3 | q3 | q3 | q3 | q3 | q3 | q3 | q3 | q3 | q3 | q3 | q3
              · have z1 := (tv_w hv_ 11 (by omega)).mp ⟨q1, q3⟩; omega
              · have z1 := (tv_w hv_ 13 (by omega)).mp ⟨q1, q3⟩; omega
              · have z1 := (tv_w hv_ 14 (by omega)).mp ⟨q1, q3⟩; omega
              · have z1 := (tv_w hv_ 8 (by omega)).mp ⟨q1, q3⟩; omega
              · have z1 := (tv_w hv_ 4 (by omega)).mp ⟨q1, q3⟩; omega
              · have z1 := (tv_w hv_ 15 (by omega)).mp ⟨q1, q3⟩; omega
              · have z1 := (tv_w hv_ 16 (by omega)).mp ⟨q1, q3⟩; omega
              · have z1 := (tv_w hv_ 17 (by omega)).mp ⟨q1, q3⟩; omega
              · have z1 := (tv_w hv_ 18 (by omega)).mp ⟨q1, q3⟩; omega
              · have z1 := (tv_w hv_ 24 (by omega)).mp ⟨q1, q3⟩; omega
              · have z1 := (tv_w hv_ 25 (by omega)).mp ⟨q1, q3⟩; omega
              · have z1 := (tv_w hv_ 19 (by omega)).mp ⟨q1, q3⟩; omega)⟩))⟩
        · have g107 := g_wSpot hG
          refine ⟨rfl, hG, ?_⟩
          refine ⟨by omega, ?_⟩
          exact hQ _ _ ⟨(gInv_up (gInv_up hG (p_rFault (by omega))) (p_rFaultAt (by omega))), (fr_f (fr_f (fr_rf _ _) rfl) rfl), (show ((0 : Int) = 1 ∧ ∃ c : List Int, GrS st 4 o (st 149 5) (st 149 5) c ∧ RDc (zup (zup st 148 3 1) 148 4 (st 149 6)) ∧ CDA (st 122 16) (st 122 16) (st 134) (st 134) c) ∨ ((0 : Int) = 0 ∧ FlS st 4 o (st 149 5)) from (by
            obtain ⟨tk_, tv_, te_, ht_, hv_⟩ := rd_tk rd ow
            have zn := tv_n hv_
            exact Or.inr ⟨rfl, Fl_bad (tkS_e (sT_of (fun i => (show aFr m_cPartA st st from (fr_rf _ _)) 2 i rfl rfl) ((show aFr m_cPartA st st from (fr_rf _ _)) 1 1 rfl rfl) ((show aFr m_cPartA st st from (fr_rf _ _)) 148 2 rfl rfl)) ht_) (by omega) (fun z => by have z1 := (tv_s hv_ 40).mp z; omega) (fun q => by
              obtain ⟨q1, q2⟩ := q
              unfold figOk at q2
              have q3 : tv_ = 1751474548 ∨ tv_ = 2036687218 ∨ tv_ = 1953459300 ∨ tv_ = 1886743660 ∨ tv_ = 1937007984 ∨ tv_ = 1650812270 ∨ tv_ = 495874044019 ∨ tv_ = 1953066341 ∨ tv_ = 465726042227 ∨ tv_ = 7170414 ∨ tv_ = 7168376 ∨ tv_ = 26982 := by omega
              rcases q3 with q3 | q3 | q3 | q3 | q3 | q3 | q3 | q3 | q3 | q3 | q3 | q3
              · have z1 := (tv_w hv_ 11 (by omega)).mp ⟨q1, q3⟩; omega
              · have z1 := (tv_w hv_ 13 (by omega)).mp ⟨q1, q3⟩; omega
              · have z1 := (tv_w hv_ 14 (by omega)).mp ⟨q1, q3⟩; omega
              · have z1 := (tv_w hv_ 8 (by omega)).mp ⟨q1, q3⟩; omega
              · have z1 := (tv_w hv_ 4 (by omega)).mp ⟨q1, q3⟩; omega
              · have z1 := (tv_w hv_ 15 (by omega)).mp ⟨q1, q3⟩; omega
              · have z1 := (tv_w hv_ 16 (by omega)).mp ⟨q1, q3⟩; omega
              · have z1 := (tv_w hv_ 17 (by omega)).mp ⟨q1, q3⟩; omega
              · have z1 := (tv_w hv_ 18 (by omega)).mp ⟨q1, q3⟩; omega
              · have z1 := (tv_w hv_ 24 (by omega)).mp ⟨q1, q3⟩; omega
              · have z1 := (tv_w hv_ 25 (by omega)).mp ⟨q1, q3⟩; omega
              · have z1 := (tv_w hv_ 19 (by omega)).mp ⟨q1, q3⟩; omega)⟩))⟩
        · have g108 := g_wSpot hG
          refine ⟨rfl, hG, ?_⟩
          refine ⟨by omega, ?_⟩
          exact hQ _ _ ⟨(gInv_up (gInv_up hG (p_rFault (by omega))) (p_rFaultAt (by omega))), (fr_f (fr_f (fr_rf _ _) rfl) rfl), (show ((0 : Int) = 1 ∧ ∃ c : List Int, GrS st 4 o (st 149 5) (st 149 5) c ∧ RDc (zup (zup st 148 3 1) 148 4 (st 149 6)) ∧ CDA (st 122 16) (st 122 16) (st 134) (st 134) c) ∨ ((0 : Int) = 0 ∧ FlS st 4 o (st 149 5)) from (by
            obtain ⟨tk_, tv_, te_, ht_, hv_⟩ := rd_tk rd ow
            have zn := tv_n hv_
            exact Or.inr ⟨rfl, Fl_bad (tkS_e (sT_of (fun i => (show aFr m_cPartA st st from (fr_rf _ _)) 2 i rfl rfl) ((show aFr m_cPartA st st from (fr_rf _ _)) 1 1 rfl rfl) ((show aFr m_cPartA st st from (fr_rf _ _)) 148 2 rfl rfl)) ht_) (by omega) (fun z => by have z1 := (tv_s hv_ 40).mp z; omega) (fun q => by
              obtain ⟨q1, q2⟩ := q
              unfold figOk at q2
              have q3 : tv_ = 1751474548 ∨ tv_ = 2036687218 ∨ tv_ = 1953459300 ∨ tv_ = 1886743660 ∨ tv_ = 1937007984 ∨ tv_ = 1650812270 ∨ tv_ = 495874044019 ∨ tv_ = 1953066341 ∨ tv_ = 465726042227 ∨ tv_ = 7170414 ∨ tv_ = 7168376 ∨ tv_ = 26982 := by omega
              rcases q3 with q3 | q3 | q3 | q3 | q3 | q3 | q3 | q3 | q3 | q3 | q3 | q3
              · have z1 := (tv_w hv_ 11 (by omega)).mp ⟨q1, q3⟩; omega
              · have z1 := (tv_w hv_ 13 (by omega)).mp ⟨q1, q3⟩; omega
              · have z1 := (tv_w hv_ 14 (by omega)).mp ⟨q1, q3⟩; omega
              · have z1 := (tv_w hv_ 8 (by omega)).mp ⟨q1, q3⟩; omega
              · have z1 := (tv_w hv_ 4 (by omega)).mp ⟨q1, q3⟩; omega
              · have z1 := (tv_w hv_ 15 (by omega)).mp ⟨q1, q3⟩; omega
              · have z1 := (tv_w hv_ 16 (by omega)).mp ⟨q1, q3⟩; omega
              · have z1 := (tv_w hv_ 17 (by omega)).mp ⟨q1, q3⟩; omega
              · have z1 := (tv_w hv_ 18 (by omega)).mp ⟨q1, q3⟩; omega
              · have z1 := (tv_w hv_ 24 (by omega)).mp ⟨q1, q3⟩; omega
              · have z1 := (tv_w hv_ 25 (by omega)).mp ⟨q1, q3⟩; omega
              · have z1 := (tv_w hv_ 19 (by omega)).mp ⟨q1, q3⟩; omega)⟩))⟩
        · refine ⟨rfl, ⟨hG, (show RDc st from rd), (show cOW st from ow), (show st 148 1 = 122 from by omega), (show st 122 16 + 1 ≤ st 149 5 from by omega), (show 1 + 12 * (7 - o) ≤ (m : Int) from by omega), (show 0 ≤ o ∧ o ≤ 7 from by omega), (show st 149 3 = 2 ∧ st 149 4 = (st 149 4) ∧ ((st 149 4) = 24 ∨ (st 149 4) = 25) from by omega)⟩, fun r33 s33 q33 => ?_⟩
          obtain ⟨gs33, fs33, o33⟩ := q33
          change (r33 = 1 ∧ ∃ c : List Int, GrS st 4 o (st 149 5) (s33 149 5) c ∧ RDc s33 ∧ CDA (st 122 16) (s33 122 16) (st 134) (s33 134) c) ∨ (r33 = 0 ∧ FlS st 4 o (st 149 5)) at o33
          have g109 := g_wStart gs33
          have g110 := g_f122_16 gs33
          rcases o33 with ⟨y33, c33, g33, rd33, cd33⟩ | ⟨y33, l33⟩
          · have gl33 := Gr_len g33 rd.1.1
            have cn33 := cd33.2.1
            have rb33 := rd33.1
            have rt33 := g_tsize gs33
            refine ⟨by omega, ?_⟩
            exact hQ _ _ ⟨gs33, (fr_tr (fr_rf _ _) fs33 rfl), (show (r33 = 1 ∧ ∃ c : List Int, GrS st 4 o (st 149 5) (s33 149 5) c ∧ RDc s33 ∧ CDA (st 122 16) (s33 122 16) (st 134) (s33 134) c) ∨ (r33 = 0 ∧ FlS st 4 o (st 149 5)) from Or.inl ⟨y33, c33, g33, rd33, cd33⟩)⟩
          · refine ⟨by omega, ?_⟩
            exact hQ _ _ ⟨gs33, (fr_tr (fr_rf _ _) fs33 rfl), (show (r33 = 1 ∧ ∃ c : List Int, GrS st 4 o (st 149 5) (s33 149 5) c ∧ RDc s33 ∧ CDA (st 122 16) (s33 122 16) (st 134) (s33 134) c) ∨ (r33 = 0 ∧ FlS st 4 o (st 149 5)) from Or.inr ⟨y33, l33⟩)⟩
        · refine ⟨rfl, ⟨hG, (show RDc st from rd), (show cOW st from ow), (show st 148 1 = 122 from by omega), (show st 122 16 + 1 ≤ st 149 5 from by omega), (show 1 + 12 * (7 - o) ≤ (m : Int) from by omega), (show 0 ≤ o ∧ o ≤ 7 from by omega), (show st 149 3 = 2 ∧ st 149 4 = (st 149 4) ∧ ((st 149 4) = 24 ∨ (st 149 4) = 25) from by omega)⟩, fun r34 s34 q34 => ?_⟩
          obtain ⟨gs34, fs34, o34⟩ := q34
          change (r34 = 1 ∧ ∃ c : List Int, GrS st 4 o (st 149 5) (s34 149 5) c ∧ RDc s34 ∧ CDA (st 122 16) (s34 122 16) (st 134) (s34 134) c) ∨ (r34 = 0 ∧ FlS st 4 o (st 149 5)) at o34
          have g111 := g_wStart gs34
          have g112 := g_f122_16 gs34
          rcases o34 with ⟨y34, c34, g34, rd34, cd34⟩ | ⟨y34, l34⟩
          · have gl34 := Gr_len g34 rd.1.1
            have cn34 := cd34.2.1
            have rb34 := rd34.1
            have rt34 := g_tsize gs34
            refine ⟨by omega, ?_⟩
            exact hQ _ _ ⟨gs34, (fr_tr (fr_rf _ _) fs34 rfl), (show (r34 = 1 ∧ ∃ c : List Int, GrS st 4 o (st 149 5) (s34 149 5) c ∧ RDc s34 ∧ CDA (st 122 16) (s34 122 16) (st 134) (s34 134) c) ∨ (r34 = 0 ∧ FlS st 4 o (st 149 5)) from Or.inl ⟨y34, c34, g34, rd34, cd34⟩)⟩
          · refine ⟨by omega, ?_⟩
            exact hQ _ _ ⟨gs34, (fr_tr (fr_rf _ _) fs34 rfl), (show (r34 = 1 ∧ ∃ c : List Int, GrS st 4 o (st 149 5) (s34 149 5) c ∧ RDc s34 ∧ CDA (st 122 16) (s34 122 16) (st 134) (s34 134) c) ∨ (r34 = 0 ∧ FlS st 4 o (st 149 5)) from Or.inr ⟨y34, l34⟩)⟩
      · have g113 := g_wSpot hG
        refine ⟨rfl, hG, ?_⟩
        refine ⟨by omega, ?_⟩
        exact hQ _ _ ⟨(gInv_up (gInv_up hG (p_rFault (by omega))) (p_rFaultAt (by omega))), (fr_f (fr_f (fr_rf _ _) rfl) rfl), (show ((0 : Int) = 1 ∧ ∃ c : List Int, GrS st 4 o (st 149 5) (st 149 5) c ∧ RDc (zup (zup st 148 3 1) 148 4 (st 149 6)) ∧ CDA (st 122 16) (st 122 16) (st 134) (st 134) c) ∨ ((0 : Int) = 0 ∧ FlS st 4 o (st 149 5)) from (by
            obtain ⟨tk_, tv_, te_, ht_, hv_⟩ := rd_tk rd ow
            have zn := tv_n hv_
            exact Or.inr ⟨rfl, Fl_bad (tkS_e (sT_of (fun i => (show aFr m_cPartA st st from (fr_rf _ _)) 2 i rfl rfl) ((show aFr m_cPartA st st from (fr_rf _ _)) 1 1 rfl rfl) ((show aFr m_cPartA st st from (fr_rf _ _)) 148 2 rfl rfl)) ht_) (by omega) (fun z => by have z1 := (tv_s hv_ 40).mp z; omega) (fun q => by
              obtain ⟨q1, q2⟩ := q
              unfold figOk at q2
              have q3 : tv_ = 1751474548 ∨ tv_ = 2036687218 ∨ tv_ = 1953459300 ∨ tv_ = 1886743660 ∨ tv_ = 1937007984 ∨ tv_ = 1650812270 ∨ tv_ = 495874044019 ∨ tv_ = 1953066341 ∨ tv_ = 465726042227 ∨ tv_ = 7170414 ∨ tv_ = 7168376 ∨ tv_ = 26982 := by omega
              rcases q3 with q3 | q3 | q3 | q3 | q3 | q3 | q3 | q3 | q3 | q3 | q3 | q3
              · have z1 := (tv_w hv_ 11 (by omega)).mp ⟨q1, q3⟩; omega
              · have z1 := (tv_w hv_ 13 (by omega)).mp ⟨q1, q3⟩; omega
              · have z1 := (tv_w hv_ 14 (by omega)).mp ⟨q1, q3⟩; omega
              · have z1 := (tv_w hv_ 8 (by omega)).mp ⟨q1, q3⟩; omega
              · have z1 := (tv_w hv_ 4 (by omega)).mp ⟨q1, q3⟩; omega
              · have z1 := (tv_w hv_ 15 (by omega)).mp ⟨q1, q3⟩; omega
              · have z1 := (tv_w hv_ 16 (by omega)).mp ⟨q1, q3⟩; omega
              · have z1 := (tv_w hv_ 17 (by omega)).mp ⟨q1, q3⟩; omega
              · have z1 := (tv_w hv_ 18 (by omega)).mp ⟨q1, q3⟩; omega
              · have z1 := (tv_w hv_ 24 (by omega)).mp ⟨q1, q3⟩; omega
              · have z1 := (tv_w hv_ 25 (by omega)).mp ⟨q1, q3⟩; omega
              · have z1 := (tv_w hv_ 19 (by omega)).mp ⟨q1, q3⟩; omega)⟩))⟩
    · refine ⟨rfl, ⟨hG, (show RDc st from rd), (show ((1) = 0 ∨ (1) = 1) ∧ ((1) = 1 → 1 ≤ st 149 3 ∧ st 149 3 ≤ 4) from by omega)⟩, fun r36 s36 q36 => ?_⟩
      obtain ⟨gs36, fs36, o36⟩ := q36
      change (r36 = 1 ∧ (1) = 1 ∧ o < 7 ∧ RDc s36 ∧ NX st s36) ∨ (r36 = 0 ∧ ((1) = 0 ∨ 7 ≤ o)) at o36
      rcases o36 with ⟨y36, k36, v36, rd36, nx36⟩ | ⟨y36, k36⟩
      · refine ⟨fun h114 => (by exfalso; omega), fun h114 => ?_⟩
        refine ⟨by omega, ?_⟩
        have e115 : s36 148 1 = st 148 1 := fs36 148 1 rfl rfl
        have e116 : s36 122 16 = st 122 16 := fs36 122 16 rfl rfl
        have g117 := g_wStart gs36
        refine ⟨rfl, ⟨gs36, (show RDc s36 from rd36), (show cOW s36 from (fun i hi => ((show aFr m_cPartA st s36 from (fr_tr (fr_rf _ _) fs36 rfl)) 150 i rfl rfl).trans (ow i hi))), (show s36 148 1 = 122 from by omega), (show s36 122 16 + 1 ≤ s36 149 5 from by have zt36 := tk_lt (nx_sig rd ow nx36 (by omega)) rd.1.1 (by omega); omega), (show 4 + 12 * (7 - (o + 1)) ≤ (m : Int) from by omega), (show 0 ≤ (o + 1) ∧ (o + 1) ≤ 7 from by omega)⟩, fun r37 s37 q37 => ?_⟩
        obtain ⟨gs37, fs37, o37⟩ := q37
        change (r37 = 1 ∧ ∃ c : List Int, GrS s36 0 (o + 1) (s36 149 5) (s37 149 5) c ∧ RDc s37 ∧ CDA (s36 122 16) (s37 122 16) (s36 134) (s37 134) c) ∨ (r37 = 0 ∧ FlS s36 0 (o + 1) (s36 149 5)) at o37
        have g118 := g_wStart gs37
        have g119 := g_f122_16 gs37
        rcases o37 with ⟨y37, c37, g37, rd37, cd37⟩ | ⟨y37, l37⟩
        · have gl37 := Gr_len g37 rd36.1.1
          have cn37 := cd37.2.1
          have rb37 := rd37.1
          have rt37 := g_tsize gs37
          refine ⟨fun h120 => (by exfalso; omega), fun h120 => ?_⟩
          refine ⟨rfl, ⟨gs37, (show RDc s37 from rd37)⟩, fun r38 s38 q38 => ?_⟩
          obtain ⟨gs38, fs38, o38⟩ := q38
          change (r38 = 1 ∧ s37 149 3 = 4 ∧ s37 149 4 = (41) ∧ RDc s38 ∧ NX s37 s38) ∨ (r38 = 0 ∧ ¬ (s37 149 3 = 4 ∧ s37 149 4 = (41))) at o38
          have g121 := g_wKind gs37
          have g122 := g_wValue gs37
          rcases o38 with ⟨y38, k38, v38, rd38, nx38⟩ | ⟨y38, k38⟩
          · refine ⟨fun h123 => (by exfalso; omega), fun h123 => ?_⟩
            refine ⟨by omega, ?_⟩
            have g124 := g_wStart gs38
            have e125 : s38 122 16 = s37 122 16 := fs38 122 16 rfl rfl
            exact hQ _ _ ⟨gs38, (fr_tr (fr_tr (fr_tr (fr_rf _ _) fs36 rfl) fs37 rfl) fs38 rfl), (show ((1 : Int) = 1 ∧ ∃ c : List Int, GrS st 4 o (st 149 5) (s38 149 5) c ∧ RDc s38 ∧ CDA (st 122 16) (s38 122 16) (st 134) (s38 134) c) ∨ ((1 : Int) = 0 ∧ FlS st 4 o (st 149 5)) from Or.inl ⟨rfl, c37, Gr_par (tkS_e (sT_of (fun i => (show aFr m_cPartA st st from (fr_rf _ _)) 2 i rfl rfl) ((show aFr m_cPartA st st from (fr_rf _ _)) 1 1 rfl rfl) ((show aFr m_cPartA st st from (fr_rf _ _)) 148 2 rfl rfl)) (nx_sgx rd ow nx36 (by omega) (by omega))) (by omega) (GrS_e (sT_of (fun i => (show aFr m_cPartA st s36 from (fr_tr (fr_rf _ _) fs36 rfl)) 2 i rfl rfl) ((show aFr m_cPartA st s36 from (fr_tr (fr_rf _ _) fs36 rfl)) 1 1 rfl rfl) ((show aFr m_cPartA st s36 from (fr_tr (fr_rf _ _) fs36 rfl)) 148 2 rfl rfl)) g37) (tkS_e (sT_of (fun i => (show aFr m_cPartA st s37 from (fr_tr (fr_tr (fr_rf _ _) fs36 rfl) fs37 rfl)) 2 i rfl rfl) ((show aFr m_cPartA st s37 from (fr_tr (fr_tr (fr_rf _ _) fs36 rfl) fs37 rfl)) 1 1 rfl rfl) ((show aFr m_cPartA st s37 from (fr_tr (fr_tr (fr_rf _ _) fs36 rfl) fs37 rfl)) 148 2 rfl rfl)) (nx_sgx rd37 (fun i hi => ((show aFr m_cPartA st s37 from (fr_tr (fr_tr (fr_rf _ _) fs36 rfl) fs37 rfl)) 150 i rfl rfl).trans (ow i hi)) nx38 (by omega) (by omega))), rd38, CDA_c (CDA_f (CDA_tr (CDA_f (CDA_nil (st 134) (g_f122_16 hG).1) (fs36 122 16 rfl rfl) (funext (fun i => fs36 134 i rfl rfl))) cd37) (fs38 122 16 rfl rfl) (funext (fun i => fs38 134 i rfl rfl))) (by simp only [List.nil_append, List.append_assoc, List.cons_append, List.append_nil])⟩)⟩
          · refine ⟨fun h126 => ?_, fun h126 => (by exfalso; omega)⟩
            refine ⟨by omega, ?_⟩
            have g127 := g_wStart gs38
            have e128 : s38 122 16 = s37 122 16 := fs38 122 16 rfl rfl
            exact hQ _ _ ⟨gs38, (fr_tr (fr_tr (fr_tr (fr_rf _ _) fs36 rfl) fs37 rfl) fs38 rfl), (show ((0 : Int) = 1 ∧ ∃ c : List Int, GrS st 4 o (st 149 5) (s38 149 5) c ∧ RDc s38 ∧ CDA (st 122 16) (s38 122 16) (st 134) (s38 134) c) ∨ ((0 : Int) = 0 ∧ FlS st 4 o (st 149 5)) from (by
            obtain ⟨tk_, tv_, te_, ht_, hv_⟩ := rd_tk rd37 (fun i hi => ((show aFr m_cPartA st s37 from (fr_tr (fr_tr (fr_rf _ _) fs36 rfl) fs37 rfl)) 150 i rfl rfl).trans (ow i hi))
            exact Or.inr ⟨rfl, Fl_par2 (tkS_e (sT_of (fun i => (show aFr m_cPartA st st from (fr_rf _ _)) 2 i rfl rfl) ((show aFr m_cPartA st st from (fr_rf _ _)) 1 1 rfl rfl) ((show aFr m_cPartA st st from (fr_rf _ _)) 148 2 rfl rfl)) (nx_sgx rd ow nx36 (by omega) (by omega))) (by omega) (GrS_e (sT_of (fun i => (show aFr m_cPartA st s36 from (fr_tr (fr_rf _ _) fs36 rfl)) 2 i rfl rfl) ((show aFr m_cPartA st s36 from (fr_tr (fr_rf _ _) fs36 rfl)) 1 1 rfl rfl) ((show aFr m_cPartA st s36 from (fr_tr (fr_rf _ _) fs36 rfl)) 148 2 rfl rfl)) g37) (tkS_e (sT_of (fun i => (show aFr m_cPartA st s37 from (fr_tr (fr_tr (fr_rf _ _) fs36 rfl) fs37 rfl)) 2 i rfl rfl) ((show aFr m_cPartA st s37 from (fr_tr (fr_tr (fr_rf _ _) fs36 rfl) fs37 rfl)) 1 1 rfl rfl) ((show aFr m_cPartA st s37 from (fr_tr (fr_tr (fr_rf _ _) fs36 rfl) fs37 rfl)) 148 2 rfl rfl)) ht_) (fun z => by have z1 := (tv_s hv_ 41).mp z; omega)⟩))⟩
        · refine ⟨fun h129 => ?_, fun h129 => (by exfalso; omega)⟩
          refine ⟨by omega, ?_⟩
          exact hQ _ _ ⟨gs37, (fr_tr (fr_tr (fr_rf _ _) fs36 rfl) fs37 rfl), (show ((0 : Int) = 1 ∧ ∃ c : List Int, GrS st 4 o (st 149 5) (s37 149 5) c ∧ RDc s37 ∧ CDA (st 122 16) (s37 122 16) (st 134) (s37 134) c) ∨ ((0 : Int) = 0 ∧ FlS st 4 o (st 149 5)) from Or.inr ⟨rfl, Fl_par1 (tkS_e (sT_of (fun i => (show aFr m_cPartA st st from (fr_rf _ _)) 2 i rfl rfl) ((show aFr m_cPartA st st from (fr_rf _ _)) 1 1 rfl rfl) ((show aFr m_cPartA st st from (fr_rf _ _)) 148 2 rfl rfl)) (nx_sgx rd ow nx36 (by omega) (by omega))) (by omega) (FlS_e (sT_of (fun i => (show aFr m_cPartA st s36 from (fr_tr (fr_rf _ _) fs36 rfl)) 2 i rfl rfl) ((show aFr m_cPartA st s36 from (fr_tr (fr_rf _ _) fs36 rfl)) 1 1 rfl rfl) ((show aFr m_cPartA st s36 from (fr_tr (fr_rf _ _) fs36 rfl)) 148 2 rfl rfl)) l37)⟩)⟩
      · refine ⟨fun h130 => ?_, fun h130 => (by exfalso; omega)⟩
        refine ⟨by omega, ?_⟩
        have g131 := g_wStart gs36
        have e132 : s36 122 16 = st 122 16 := fs36 122 16 rfl rfl
        exact hQ _ _ ⟨gs36, (fr_tr (fr_rf _ _) fs36 rfl), (show ((0 : Int) = 1 ∧ ∃ c : List Int, GrS st 4 o (st 149 5) (s36 149 5) c ∧ RDc s36 ∧ CDA (st 122 16) (s36 122 16) (st 134) (s36 134) c) ∨ ((0 : Int) = 0 ∧ FlS st 4 o (st 149 5)) from (by
            obtain ⟨tk_, tv_, te_, ht_, hv_⟩ := rd_tk rd ow
            have z := tv_s hv_ 40
            exact Or.inr ⟨rfl, Fl_par0 (e := te_) (by rw [← (z.mpr (by omega)).1, ← (z.mpr (by omega)).2]; exact (tkS_e (sT_of (fun i => (show aFr m_cPartA st st from (fr_rf _ _)) 2 i rfl rfl) ((show aFr m_cPartA st st from (fr_rf _ _)) 1 1 rfl rfl) ((show aFr m_cPartA st st from (fr_rf _ _)) 148 2 rfl rfl)) ht_)) (by omega)⟩))⟩
  · refine ⟨by omega, ?_⟩
    refine ⟨rfl, ⟨hG, (show (0 ≤ (200) ∧ (200) ≤ 255) ∧ 0 ≤ (st 149 4) ∧ (st 149 4) ≤ 9999 from by have z := RDc_num rd (by omega); omega), (show st 122 16 ≤ 1599 from by omega)⟩, fun s39 q39 => ?_⟩
    obtain ⟨gs39, fs39, cc39, cf39⟩ := q39
    change s39 122 16 = st 122 16 + 1 at cc39
    have g133 := g_f122_16 gs39
    change (s39 134) = up1 (st 134) (st 122 16).toNat (65536 * (200) + (st 149 4)) at cf39
    have e134 : s39 149 3 = st 149 3 := fs39 149 3 rfl rfl
    refine ⟨rfl, ⟨gs39, (show RDc s39 from (RDc_of (fun i => fs39 2 i rfl rfl) (fs39 1 1 rfl rfl) (fs39 149 2 rfl rfl) (fs39 149 3 rfl rfl) (fs39 149 4 rfl rfl) (fs39 149 5 rfl rfl) (fun i => fs39 150 i rfl rfl) rd)), (show 1 ≤ s39 149 3 ∧ s39 149 3 ≤ 4 from by omega)⟩, fun s40 q40 => ?_⟩
    obtain ⟨gs40, fs40, rd40, nx40⟩ := q40
    change RDc s40 at rd40
    change NX s39 s40 at nx40
    refine ⟨by omega, ?_⟩
    have g135 := g_wStart gs40
    have e136 : s40 122 16 = s39 122 16 := fs40 122 16 rfl rfl
    exact hQ _ _ ⟨gs40, (fr_tr (fr_tr (fr_rf _ _) fs39 rfl) fs40 rfl), (show ((1 : Int) = 1 ∧ ∃ c : List Int, GrS st 4 o (st 149 5) (s40 149 5) c ∧ RDc s40 ∧ CDA (st 122 16) (s40 122 16) (st 134) (s40 134) c) ∨ ((1 : Int) = 0 ∧ FlS st 4 o (st 149 5)) from Or.inl ⟨rfl, [64 * st 149 4], Gr_num (nx_num rd ow (NX_e (sT_of (fun i => (show aFr m_cPartA st s39 from (fr_tr (fr_rf _ _) fs39 rfl)) 2 i rfl rfl) ((show aFr m_cPartA st s39 from (fr_tr (fr_rf _ _) fs39 rfl)) 1 1 rfl rfl) ((show aFr m_cPartA st s39 from (fr_tr (fr_rf _ _) fs39 rfl)) 148 2 rfl rfl)) (fs39 149 5 rfl rfl) nx40) (by omega)), rd40, CDA_c (CDA_f (CDA_tr (CDA_nil (st 134) (g_f122_16 hG).1) (CDA_one (y := 64 * st 149 4) (g_f122_16 hG).1 cc39 cf39 (cenc_num _))) (fs40 122 16 rfl rfl) (funext (fun i => fs40 134 i rfl rfl))) (by simp only [List.nil_append, List.append_assoc, List.cons_append, List.append_nil])⟩)⟩
theorem k_cPartA_m (hTb : aTb zSh rx_tb cl) {m : Nat} (hB : BNDA cl m) {D : Nat} (hD : m + 21 ≤ D) : ∀ as st (Q Q' : zQ), (∀ r st', Q r st' → Q' r st') → k_cPartA (m + 1) 255 as st Q → cl D 255 as st Q' := by
  intro as st Q Q' hQ h
  unfold k_cPartA at h
  split at h
  · obtain ⟨rfl, h⟩ := h
    exact c_cPartA hTb hB hD (ct_cPartA_m hQ h)
  · exact h.elim
set_option maxHeartbeats 4000000 in
set_option maxRecDepth 100000 in
theorem c_cOfTwoA (hTb : aTb zSh rx_tb cl) {m : Nat} (hB : BNDA cl m) {D : Nat} (hD : m + 21 ≤ D) {w o : Int} {st : zS} {Q : zQ} (h : ct_cOfTwoA (m + 1) w o st Q) : cl D 257 [.inr (.inr (.inl 148)), .inl w, .inl o] st Q := by
  obtain ⟨d, rfl⟩ : ∃ d, D = d + 1 := ⟨D - 1, by omega⟩
  refine hTb d 257 (rx_m257, 3, 0, 0, 2) rfl _ _ _ (Nat.le_of_ble_eq_true rfl) (fun K hcl hsf hsl => ?_)
  have hcm : zmo (wcL [(143, k_cNext), (302, k_cIsSign), (252, k_cTakeOpen), (253, k_cSumA m), (251, k_cTakeSign), (282, k_cAddCodeA)]) (cl d) := (wcL_m (wm_cons (k_cNext_m hTb (by omega)) (wm_cons (k_cIsSign_m hTb (by omega)) (wm_cons (k_cTakeOpen_m hTb (by omega)) (wm_cons ((hB d (by omega)).2.2.2.2.1) (wm_cons (k_cTakeSign_m hTb (by omega)) (wm_cons (k_cAddCodeA_m hTb (by omega)) wm_nil)))))))
  obtain ⟨hR, hQ⟩ := h
  obtain ⟨hG, rd, ow, tw, cb, dd, oo, k⟩ := hR
  change RDc st at rd
  change cOW st at ow
  change st 148 1 = 122 at tw
  change st 122 16 + 1 ≤ st 149 5 at cb
  change 0 ≤ o ∧ o ≤ 7 at oo
  change st 149 3 = 2 ∧ st 149 4 = w ∧ (w = 24 ∨ w = 25) at k
  have rb := rd.1
  have g1 := g_f148_1 hG
  have g2 := g_f122_16 hG
  have g3 := g_wStart hG
  have g4 := g_wKind hG
  have g5 := g_wValue hG
  have g6 := g_tsize hG
  refine dr1_ok (Rt := Q) (wc := (wcL [(143, k_cNext), (302, k_cIsSign), (252, k_cTakeOpen), (253, k_cSumA m), (251, k_cTakeSign), (282, k_cAddCodeA)])) (stp := []) hcm hcl [(67, 122)] [] 62 ?_
  show (149 = 149 ∧ (rq_cNext  st ∧ (∀ (s7 : zS), en_cNext  st s7 → (149 = 149 ∧ (∀ (r8 : Int), en_cIsSign (40) s7 r8 → (148 = 148 ∧ (rq_cTakeOpen r8 o s7 ∧ (∀ (r9 : Int) (s9 : zS), en_cTakeOpen r8 o s7 r9 s9 → ((r9 = (0 : Int) → ((0 = (0 : Int) ∨ 0 = (1 : Int)) ∧ Q (some (.inl 0)) s9)) ∧ (¬ (r9 = (0 : Int)) → ((-2147483648 ≤ o + 1 ∧ o + 1 ≤ 2147483647) ∧ (148 = 148 ∧ (rq_cSumA m (o + 1) s9 ∧ (∀ (r10 : Int) (s10 : zS), en_cSumA m (o + 1) s9 r10 s10 → ((r10 = (0 : Int) → ((0 = (0 : Int) ∨ 0 = (1 : Int)) ∧ Q (some (.inl 0)) s10)) ∧ (¬ (r10 = (0 : Int)) → (148 = 148 ∧ (rq_cTakeSign (44) s10 ∧ (∀ (r11 : Int) (s11 : zS), en_cTakeSign (44) s10 r11 s11 → ((¬ r11 = (0 : Int) → ((-2147483648 ≤ o + 1 ∧ o + 1 ≤ 2147483647) ∧ (148 = 148 ∧ (rq_cSumA m (o + 1) s11 ∧ (∀ (r12 : Int) (s12 : zS), en_cSumA m (o + 1) s11 r12 s12 → ((r12 = (0 : Int) → ((0 = (0 : Int) ∨ 0 = (1 : Int)) ∧ Q (some (.inl 0)) s12)) ∧ (¬ (r12 = (0 : Int)) → (148 = 148 ∧ (rq_cTakeSign (41) s12 ∧ (∀ (r13 : Int) (s13 : zS), en_cTakeSign (41) s12 r13 s13 → ((¬ r13 = (0 : Int) → ((s13 148 1 = (122 : Int)) ∧ (122 = 122 ∧ (rq_cAddCodeA w (0) s13 ∧ (∀ (s14 : zS), en_cAddCodeA w (0) s13 s14 → ((1 = (0 : Int) ∨ 1 = (1 : Int)) ∧ Q (some (.inl 1)) s14)))))) ∧ (¬ (¬ r13 = (0 : Int)) → ((0 = (0 : Int) ∨ 0 = (1 : Int)) ∧ Q (some (.inl 0)) s13))))))))))))) ∧ (¬ (¬ r11 = (0 : Int)) → ((0 = (0 : Int) ∨ 0 = (1 : Int)) ∧ Q (some (.inl 0)) s11))))))))))))))))))))))
  refine ⟨rfl, ⟨hG, (show RDc st from rd), (show 1 ≤ st 149 3 ∧ st 149 3 ≤ 4 from by omega)⟩, fun s7 q7 => ?_⟩
  obtain ⟨gs7, fs7, rd7, nx7⟩ := q7
  change RDc s7 at rd7
  change NX st s7 at nx7
  refine ⟨rfl, fun r8 q8 => ?_⟩
  have b8 := q8
  change (r8 = 0 ∨ r8 = 1) ∧ (r8 = 1 ↔ s7 149 3 = 4 ∧ s7 149 4 = (40)) at b8
  have g15 := g_wKind gs7
  have g16 := g_wValue gs7
  refine ⟨rfl, ⟨gs7, (show RDc s7 from rd7), (show (r8 = 0 ∨ r8 = 1) ∧ (r8 = 1 → 1 ≤ s7 149 3 ∧ s7 149 3 ≤ 4) from by omega)⟩, fun r9 s9 q9 => ?_⟩
  obtain ⟨gs9, fs9, o9⟩ := q9
  change (r9 = 1 ∧ r8 = 1 ∧ o < 7 ∧ RDc s9 ∧ NX s7 s9) ∨ (r9 = 0 ∧ (r8 = 0 ∨ 7 ≤ o)) at o9
  rcases o9 with ⟨y9, k9, v9, rd9, nx9⟩ | ⟨y9, k9⟩
  · refine ⟨fun h17 => (by exfalso; omega), fun h17 => ?_⟩
    refine ⟨by omega, ?_⟩
    have e19 : s7 148 1 = st 148 1 := fs7 148 1 rfl rfl
    have e18 : s9 148 1 = s7 148 1 := fs9 148 1 rfl rfl
    have e21 : s7 122 16 = st 122 16 := fs7 122 16 rfl rfl
    have e20 : s9 122 16 = s7 122 16 := fs9 122 16 rfl rfl
    have g22 := g_wStart gs9
    refine ⟨rfl, ⟨gs9, (show RDc s9 from rd9), (show cOW s9 from (fun i hi => ((show aFr m_cOfTwoA st s9 from (fr_tr (fr_tr (fr_rf _ _) fs7 rfl) fs9 rfl)) 150 i rfl rfl).trans (ow i hi))), (show s9 148 1 = 122 from by omega), (show s9 122 16 + 1 ≤ s9 149 5 from by have zt9 := tk_lt (nx_sig rd7 (fun i hi => ((show aFr m_cOfTwoA st s7 from (fr_tr (fr_rf _ _) fs7 rfl)) 150 i rfl rfl).trans (ow i hi)) nx9 (by omega)) rd7.1.1 (by omega); have zt7 := tk_lt ((nx_own rd ow nx7 (by omega)).2) rd.1.1 (by omega); omega), (show 4 + 12 * (7 - (o + 1)) ≤ (m : Int) from by omega), (show 0 ≤ (o + 1) ∧ (o + 1) ≤ 7 from by omega)⟩, fun r10 s10 q10 => ?_⟩
    obtain ⟨gs10, fs10, o10⟩ := q10
    change (r10 = 1 ∧ ∃ c : List Int, GrS s9 0 (o + 1) (s9 149 5) (s10 149 5) c ∧ RDc s10 ∧ CDA (s9 122 16) (s10 122 16) (s9 134) (s10 134) c) ∨ (r10 = 0 ∧ FlS s9 0 (o + 1) (s9 149 5)) at o10
    have g23 := g_wStart gs10
    have g24 := g_f122_16 gs10
    rcases o10 with ⟨y10, c10, g10, rd10, cd10⟩ | ⟨y10, l10⟩
    · have gl10 := Gr_len g10 rd9.1.1
      have cn10 := cd10.2.1
      have rb10 := rd10.1
      have rt10 := g_tsize gs10
      refine ⟨fun h25 => (by exfalso; omega), fun h25 => ?_⟩
      refine ⟨rfl, ⟨gs10, (show RDc s10 from rd10)⟩, fun r11 s11 q11 => ?_⟩
      obtain ⟨gs11, fs11, o11⟩ := q11
      change (r11 = 1 ∧ s10 149 3 = 4 ∧ s10 149 4 = (44) ∧ RDc s11 ∧ NX s10 s11) ∨ (r11 = 0 ∧ ¬ (s10 149 3 = 4 ∧ s10 149 4 = (44))) at o11
      have g26 := g_wKind gs10
      have g27 := g_wValue gs10
      rcases o11 with ⟨y11, k11, v11, rd11, nx11⟩ | ⟨y11, k11⟩
      · refine ⟨fun h28 => ?_, fun h28 => (by exfalso; omega)⟩
        refine ⟨by omega, ?_⟩
        have e30 : s10 148 1 = s9 148 1 := fs10 148 1 rfl rfl
        have e29 : s11 148 1 = s10 148 1 := fs11 148 1 rfl rfl
        have e31 : s11 122 16 = s10 122 16 := fs11 122 16 rfl rfl
        have g32 := g_wStart gs11
        refine ⟨rfl, ⟨gs11, (show RDc s11 from rd11), (show cOW s11 from (fun i hi => ((show aFr m_cOfTwoA st s11 from (fr_tr (fr_tr (fr_tr (fr_tr (fr_rf _ _) fs7 rfl) fs9 rfl) fs10 rfl) fs11 rfl)) 150 i rfl rfl).trans (ow i hi))), (show s11 148 1 = 122 from by omega), (show s11 122 16 + 1 ≤ s11 149 5 from by have zt11 := tk_lt (nx_sig rd10 (fun i hi => ((show aFr m_cOfTwoA st s10 from (fr_tr (fr_tr (fr_tr (fr_rf _ _) fs7 rfl) fs9 rfl) fs10 rfl)) 150 i rfl rfl).trans (ow i hi)) nx11 (by omega)) rd10.1.1 (by omega); have zt9 := tk_lt (nx_sig rd7 (fun i hi => ((show aFr m_cOfTwoA st s7 from (fr_tr (fr_rf _ _) fs7 rfl)) 150 i rfl rfl).trans (ow i hi)) nx9 (by omega)) rd7.1.1 (by omega); have zt7 := tk_lt ((nx_own rd ow nx7 (by omega)).2) rd.1.1 (by omega); omega), (show 4 + 12 * (7 - (o + 1)) ≤ (m : Int) from by omega), (show 0 ≤ (o + 1) ∧ (o + 1) ≤ 7 from by omega)⟩, fun r12 s12 q12 => ?_⟩
        obtain ⟨gs12, fs12, o12⟩ := q12
        change (r12 = 1 ∧ ∃ c : List Int, GrS s11 0 (o + 1) (s11 149 5) (s12 149 5) c ∧ RDc s12 ∧ CDA (s11 122 16) (s12 122 16) (s11 134) (s12 134) c) ∨ (r12 = 0 ∧ FlS s11 0 (o + 1) (s11 149 5)) at o12
        have g33 := g_wStart gs12
        have g34 := g_f122_16 gs12
        rcases o12 with ⟨y12, c12, g12, rd12, cd12⟩ | ⟨y12, l12⟩
        · have gl12 := Gr_len g12 rd11.1.1
          have cn12 := cd12.2.1
          have rb12 := rd12.1
          have rt12 := g_tsize gs12
          refine ⟨fun h35 => (by exfalso; omega), fun h35 => ?_⟩
          refine ⟨rfl, ⟨gs12, (show RDc s12 from rd12)⟩, fun r13 s13 q13 => ?_⟩
          obtain ⟨gs13, fs13, o13⟩ := q13
          change (r13 = 1 ∧ s12 149 3 = 4 ∧ s12 149 4 = (41) ∧ RDc s13 ∧ NX s12 s13) ∨ (r13 = 0 ∧ ¬ (s12 149 3 = 4 ∧ s12 149 4 = (41))) at o13
          have g36 := g_wKind gs12
          have g37 := g_wValue gs12
          rcases o13 with ⟨y13, k13, v13, rd13, nx13⟩ | ⟨y13, k13⟩
          · refine ⟨fun h38 => ?_, fun h38 => (by exfalso; omega)⟩
            have e40 : s12 148 1 = s11 148 1 := fs12 148 1 rfl rfl
            have e39 : s13 148 1 = s12 148 1 := fs13 148 1 rfl rfl
            refine ⟨by omega, ?_⟩
            have e41 : s13 122 16 = s12 122 16 := fs13 122 16 rfl rfl
            refine ⟨rfl, ⟨gs13, (show (0 ≤ w ∧ w ≤ 255) ∧ 0 ≤ (0) ∧ (0) ≤ 9999 from by omega), (show s13 122 16 ≤ 1599 from by have zt13 := tk_lt (nx_sig rd12 (fun i hi => ((show aFr m_cOfTwoA st s12 from (fr_tr (fr_tr (fr_tr (fr_tr (fr_tr (fr_rf _ _) fs7 rfl) fs9 rfl) fs10 rfl) fs11 rfl) fs12 rfl)) 150 i rfl rfl).trans (ow i hi)) nx13 (by omega)) rd12.1.1 (by omega); have zt11 := tk_lt (nx_sig rd10 (fun i hi => ((show aFr m_cOfTwoA st s10 from (fr_tr (fr_tr (fr_tr (fr_rf _ _) fs7 rfl) fs9 rfl) fs10 rfl)) 150 i rfl rfl).trans (ow i hi)) nx11 (by omega)) rd10.1.1 (by omega); have zt9 := tk_lt (nx_sig rd7 (fun i hi => ((show aFr m_cOfTwoA st s7 from (fr_tr (fr_rf _ _) fs7 rfl)) 150 i rfl rfl).trans (ow i hi)) nx9 (by omega)) rd7.1.1 (by omega); have zt7 := tk_lt ((nx_own rd ow nx7 (by omega)).2) rd.1.1 (by omega); omega)⟩, fun s14 q14 => ?_⟩
            obtain ⟨gs14, fs14, cc14, cf14⟩ := q14
            change s14 122 16 = s13 122 16 + 1 at cc14
            have g42 := g_f122_16 gs14
            change (s14 134) = up1 (s13 134) (s13 122 16).toNat (65536 * w + (0)) at cf14
            refine ⟨by omega, ?_⟩
            have g44 := g_wStart gs13
            have e43 : s14 149 5 = s13 149 5 := fs14 149 5 rfl rfl
            exact hQ _ _ ⟨gs14, (fr_tr (fr_tr (fr_tr (fr_tr (fr_tr (fr_tr (fr_tr (fr_rf _ _) fs7 rfl) fs9 rfl) fs10 rfl) fs11 rfl) fs12 rfl) fs13 rfl) fs14 rfl), (show ((1 : Int) = 1 ∧ ∃ c : List Int, GrS st 4 o (st 149 5) (s14 149 5) c ∧ RDc s14 ∧ CDA (st 122 16) (s14 122 16) (st 134) (s14 134) c) ∨ ((1 : Int) = 0 ∧ FlS st 4 o (st 149 5)) from (by rw [show s14 149 5 = s13 149 5 from fs14 149 5 rfl rfl]; exact Or.inl ⟨rfl, c10 ++ (c12 ++ [twoS (owv w.toNat)]), Gr_two (tkS_e (sT_of (fun i => (show aFr m_cOfTwoA st st from (fr_rf _ _)) 2 i rfl rfl) ((show aFr m_cOfTwoA st st from (fr_rf _ _)) 1 1 rfl rfl) ((show aFr m_cOfTwoA st st from (fr_rf _ _)) 148 2 rfl rfl)) (nx_two rd ow nx7 (by omega) (by omega) k.2.2)) (two_v k.2.2) (tkS_e (sT_of (fun i => (show aFr m_cOfTwoA st s7 from (fr_tr (fr_rf _ _) fs7 rfl)) 2 i rfl rfl) ((show aFr m_cOfTwoA st s7 from (fr_tr (fr_rf _ _) fs7 rfl)) 1 1 rfl rfl) ((show aFr m_cOfTwoA st s7 from (fr_tr (fr_rf _ _) fs7 rfl)) 148 2 rfl rfl)) (nx_sgx rd7 (fun i hi => ((show aFr m_cOfTwoA st s7 from (fr_tr (fr_rf _ _) fs7 rfl)) 150 i rfl rfl).trans (ow i hi)) nx9 (by omega) (by omega))) (by omega) (GrS_e (sT_of (fun i => (show aFr m_cOfTwoA st s9 from (fr_tr (fr_tr (fr_rf _ _) fs7 rfl) fs9 rfl)) 2 i rfl rfl) ((show aFr m_cOfTwoA st s9 from (fr_tr (fr_tr (fr_rf _ _) fs7 rfl) fs9 rfl)) 1 1 rfl rfl) ((show aFr m_cOfTwoA st s9 from (fr_tr (fr_tr (fr_rf _ _) fs7 rfl) fs9 rfl)) 148 2 rfl rfl)) g10) (tkS_e (sT_of (fun i => (show aFr m_cOfTwoA st s10 from (fr_tr (fr_tr (fr_tr (fr_rf _ _) fs7 rfl) fs9 rfl) fs10 rfl)) 2 i rfl rfl) ((show aFr m_cOfTwoA st s10 from (fr_tr (fr_tr (fr_tr (fr_rf _ _) fs7 rfl) fs9 rfl) fs10 rfl)) 1 1 rfl rfl) ((show aFr m_cOfTwoA st s10 from (fr_tr (fr_tr (fr_tr (fr_rf _ _) fs7 rfl) fs9 rfl) fs10 rfl)) 148 2 rfl rfl)) (nx_sgx rd10 (fun i hi => ((show aFr m_cOfTwoA st s10 from (fr_tr (fr_tr (fr_tr (fr_rf _ _) fs7 rfl) fs9 rfl) fs10 rfl)) 150 i rfl rfl).trans (ow i hi)) nx11 (by omega) (by omega))) (GrS_e (sT_of (fun i => (show aFr m_cOfTwoA st s11 from (fr_tr (fr_tr (fr_tr (fr_tr (fr_rf _ _) fs7 rfl) fs9 rfl) fs10 rfl) fs11 rfl)) 2 i rfl rfl) ((show aFr m_cOfTwoA st s11 from (fr_tr (fr_tr (fr_tr (fr_tr (fr_rf _ _) fs7 rfl) fs9 rfl) fs10 rfl) fs11 rfl)) 1 1 rfl rfl) ((show aFr m_cOfTwoA st s11 from (fr_tr (fr_tr (fr_tr (fr_tr (fr_rf _ _) fs7 rfl) fs9 rfl) fs10 rfl) fs11 rfl)) 148 2 rfl rfl)) g12) (tkS_e (sT_of (fun i => (show aFr m_cOfTwoA st s12 from (fr_tr (fr_tr (fr_tr (fr_tr (fr_tr (fr_rf _ _) fs7 rfl) fs9 rfl) fs10 rfl) fs11 rfl) fs12 rfl)) 2 i rfl rfl) ((show aFr m_cOfTwoA st s12 from (fr_tr (fr_tr (fr_tr (fr_tr (fr_tr (fr_rf _ _) fs7 rfl) fs9 rfl) fs10 rfl) fs11 rfl) fs12 rfl)) 1 1 rfl rfl) ((show aFr m_cOfTwoA st s12 from (fr_tr (fr_tr (fr_tr (fr_tr (fr_tr (fr_rf _ _) fs7 rfl) fs9 rfl) fs10 rfl) fs11 rfl) fs12 rfl)) 148 2 rfl rfl)) (nx_sgx rd12 (fun i hi => ((show aFr m_cOfTwoA st s12 from (fr_tr (fr_tr (fr_tr (fr_tr (fr_tr (fr_rf _ _) fs7 rfl) fs9 rfl) fs10 rfl) fs11 rfl) fs12 rfl)) 150 i rfl rfl).trans (ow i hi)) nx13 (by omega) (by omega))), (RDc_of (fun i => fs14 2 i rfl rfl) (fs14 1 1 rfl rfl) (fs14 149 2 rfl rfl) (fs14 149 3 rfl rfl) (fs14 149 4 rfl rfl) (fs14 149 5 rfl rfl) (fun i => fs14 150 i rfl rfl) rd13), CDA_c (CDA_tr (CDA_f (CDA_tr (CDA_f (CDA_tr (CDA_f (CDA_f (CDA_nil (st 134) (g_f122_16 hG).1) (fs7 122 16 rfl rfl) (funext (fun i => fs7 134 i rfl rfl))) (fs9 122 16 rfl rfl) (funext (fun i => fs9 134 i rfl rfl))) cd10) (fs11 122 16 rfl rfl) (funext (fun i => fs11 134 i rfl rfl))) cd12) (fs13 122 16 rfl rfl) (funext (fun i => fs13 134 i rfl rfl))) (CDA_one (y := twoS (owv w.toNat)) (g_f122_16 gs13).1 cc14 cf14 (cenc_t k.2.2))) (by simp only [List.nil_append, List.append_assoc, List.cons_append, List.append_nil])⟩))⟩
          · refine ⟨fun h45 => (by exfalso; omega), fun h45 => ?_⟩
            refine ⟨by omega, ?_⟩
            have g46 := g_wStart gs13
            have e47 : s13 122 16 = s12 122 16 := fs13 122 16 rfl rfl
            exact hQ _ _ ⟨gs13, (fr_tr (fr_tr (fr_tr (fr_tr (fr_tr (fr_tr (fr_rf _ _) fs7 rfl) fs9 rfl) fs10 rfl) fs11 rfl) fs12 rfl) fs13 rfl), (show ((0 : Int) = 1 ∧ ∃ c : List Int, GrS st 4 o (st 149 5) (s13 149 5) c ∧ RDc s13 ∧ CDA (st 122 16) (s13 122 16) (st 134) (s13 134) c) ∨ ((0 : Int) = 0 ∧ FlS st 4 o (st 149 5)) from (by
            obtain ⟨tk_, tv_, te_, ht_, hv_⟩ := rd_tk rd12 (fun i hi => ((show aFr m_cOfTwoA st s12 from (fr_tr (fr_tr (fr_tr (fr_tr (fr_tr (fr_rf _ _) fs7 rfl) fs9 rfl) fs10 rfl) fs11 rfl) fs12 rfl)) 150 i rfl rfl).trans (ow i hi))
            exact Or.inr ⟨rfl, Fl_two4 (tkS_e (sT_of (fun i => (show aFr m_cOfTwoA st st from (fr_rf _ _)) 2 i rfl rfl) ((show aFr m_cOfTwoA st st from (fr_rf _ _)) 1 1 rfl rfl) ((show aFr m_cOfTwoA st st from (fr_rf _ _)) 148 2 rfl rfl)) (nx_two rd ow nx7 (by omega) (by omega) k.2.2)) (two_v k.2.2) (tkS_e (sT_of (fun i => (show aFr m_cOfTwoA st s7 from (fr_tr (fr_rf _ _) fs7 rfl)) 2 i rfl rfl) ((show aFr m_cOfTwoA st s7 from (fr_tr (fr_rf _ _) fs7 rfl)) 1 1 rfl rfl) ((show aFr m_cOfTwoA st s7 from (fr_tr (fr_rf _ _) fs7 rfl)) 148 2 rfl rfl)) (nx_sgx rd7 (fun i hi => ((show aFr m_cOfTwoA st s7 from (fr_tr (fr_rf _ _) fs7 rfl)) 150 i rfl rfl).trans (ow i hi)) nx9 (by omega) (by omega))) (by omega) (GrS_e (sT_of (fun i => (show aFr m_cOfTwoA st s9 from (fr_tr (fr_tr (fr_rf _ _) fs7 rfl) fs9 rfl)) 2 i rfl rfl) ((show aFr m_cOfTwoA st s9 from (fr_tr (fr_tr (fr_rf _ _) fs7 rfl) fs9 rfl)) 1 1 rfl rfl) ((show aFr m_cOfTwoA st s9 from (fr_tr (fr_tr (fr_rf _ _) fs7 rfl) fs9 rfl)) 148 2 rfl rfl)) g10) (tkS_e (sT_of (fun i => (show aFr m_cOfTwoA st s10 from (fr_tr (fr_tr (fr_tr (fr_rf _ _) fs7 rfl) fs9 rfl) fs10 rfl)) 2 i rfl rfl) ((show aFr m_cOfTwoA st s10 from (fr_tr (fr_tr (fr_tr (fr_rf _ _) fs7 rfl) fs9 rfl) fs10 rfl)) 1 1 rfl rfl) ((show aFr m_cOfTwoA st s10 from (fr_tr (fr_tr (fr_tr (fr_rf _ _) fs7 rfl) fs9 rfl) fs10 rfl)) 148 2 rfl rfl)) (nx_sgx rd10 (fun i hi => ((show aFr m_cOfTwoA st s10 from (fr_tr (fr_tr (fr_tr (fr_rf _ _) fs7 rfl) fs9 rfl) fs10 rfl)) 150 i rfl rfl).trans (ow i hi)) nx11 (by omega) (by omega))) (GrS_e (sT_of (fun i => (show aFr m_cOfTwoA st s11 from (fr_tr (fr_tr (fr_tr (fr_tr (fr_rf _ _) fs7 rfl) fs9 rfl) fs10 rfl) fs11 rfl)) 2 i rfl rfl) ((show aFr m_cOfTwoA st s11 from (fr_tr (fr_tr (fr_tr (fr_tr (fr_rf _ _) fs7 rfl) fs9 rfl) fs10 rfl) fs11 rfl)) 1 1 rfl rfl) ((show aFr m_cOfTwoA st s11 from (fr_tr (fr_tr (fr_tr (fr_tr (fr_rf _ _) fs7 rfl) fs9 rfl) fs10 rfl) fs11 rfl)) 148 2 rfl rfl)) g12) (tkS_e (sT_of (fun i => (show aFr m_cOfTwoA st s12 from (fr_tr (fr_tr (fr_tr (fr_tr (fr_tr (fr_rf _ _) fs7 rfl) fs9 rfl) fs10 rfl) fs11 rfl) fs12 rfl)) 2 i rfl rfl) ((show aFr m_cOfTwoA st s12 from (fr_tr (fr_tr (fr_tr (fr_tr (fr_tr (fr_rf _ _) fs7 rfl) fs9 rfl) fs10 rfl) fs11 rfl) fs12 rfl)) 1 1 rfl rfl) ((show aFr m_cOfTwoA st s12 from (fr_tr (fr_tr (fr_tr (fr_tr (fr_tr (fr_rf _ _) fs7 rfl) fs9 rfl) fs10 rfl) fs11 rfl) fs12 rfl)) 148 2 rfl rfl)) ht_) (fun z => by have z1 := (tv_s hv_ 41).mp z; omega)⟩))⟩
        · refine ⟨fun h48 => ?_, fun h48 => (by exfalso; omega)⟩
          refine ⟨by omega, ?_⟩
          exact hQ _ _ ⟨gs12, (fr_tr (fr_tr (fr_tr (fr_tr (fr_tr (fr_rf _ _) fs7 rfl) fs9 rfl) fs10 rfl) fs11 rfl) fs12 rfl), (show ((0 : Int) = 1 ∧ ∃ c : List Int, GrS st 4 o (st 149 5) (s12 149 5) c ∧ RDc s12 ∧ CDA (st 122 16) (s12 122 16) (st 134) (s12 134) c) ∨ ((0 : Int) = 0 ∧ FlS st 4 o (st 149 5)) from Or.inr ⟨rfl, Fl_two3 (tkS_e (sT_of (fun i => (show aFr m_cOfTwoA st st from (fr_rf _ _)) 2 i rfl rfl) ((show aFr m_cOfTwoA st st from (fr_rf _ _)) 1 1 rfl rfl) ((show aFr m_cOfTwoA st st from (fr_rf _ _)) 148 2 rfl rfl)) (nx_two rd ow nx7 (by omega) (by omega) k.2.2)) (two_v k.2.2) (tkS_e (sT_of (fun i => (show aFr m_cOfTwoA st s7 from (fr_tr (fr_rf _ _) fs7 rfl)) 2 i rfl rfl) ((show aFr m_cOfTwoA st s7 from (fr_tr (fr_rf _ _) fs7 rfl)) 1 1 rfl rfl) ((show aFr m_cOfTwoA st s7 from (fr_tr (fr_rf _ _) fs7 rfl)) 148 2 rfl rfl)) (nx_sgx rd7 (fun i hi => ((show aFr m_cOfTwoA st s7 from (fr_tr (fr_rf _ _) fs7 rfl)) 150 i rfl rfl).trans (ow i hi)) nx9 (by omega) (by omega))) (by omega) (GrS_e (sT_of (fun i => (show aFr m_cOfTwoA st s9 from (fr_tr (fr_tr (fr_rf _ _) fs7 rfl) fs9 rfl)) 2 i rfl rfl) ((show aFr m_cOfTwoA st s9 from (fr_tr (fr_tr (fr_rf _ _) fs7 rfl) fs9 rfl)) 1 1 rfl rfl) ((show aFr m_cOfTwoA st s9 from (fr_tr (fr_tr (fr_rf _ _) fs7 rfl) fs9 rfl)) 148 2 rfl rfl)) g10) (tkS_e (sT_of (fun i => (show aFr m_cOfTwoA st s10 from (fr_tr (fr_tr (fr_tr (fr_rf _ _) fs7 rfl) fs9 rfl) fs10 rfl)) 2 i rfl rfl) ((show aFr m_cOfTwoA st s10 from (fr_tr (fr_tr (fr_tr (fr_rf _ _) fs7 rfl) fs9 rfl) fs10 rfl)) 1 1 rfl rfl) ((show aFr m_cOfTwoA st s10 from (fr_tr (fr_tr (fr_tr (fr_rf _ _) fs7 rfl) fs9 rfl) fs10 rfl)) 148 2 rfl rfl)) (nx_sgx rd10 (fun i hi => ((show aFr m_cOfTwoA st s10 from (fr_tr (fr_tr (fr_tr (fr_rf _ _) fs7 rfl) fs9 rfl) fs10 rfl)) 150 i rfl rfl).trans (ow i hi)) nx11 (by omega) (by omega))) (FlS_e (sT_of (fun i => (show aFr m_cOfTwoA st s11 from (fr_tr (fr_tr (fr_tr (fr_tr (fr_rf _ _) fs7 rfl) fs9 rfl) fs10 rfl) fs11 rfl)) 2 i rfl rfl) ((show aFr m_cOfTwoA st s11 from (fr_tr (fr_tr (fr_tr (fr_tr (fr_rf _ _) fs7 rfl) fs9 rfl) fs10 rfl) fs11 rfl)) 1 1 rfl rfl) ((show aFr m_cOfTwoA st s11 from (fr_tr (fr_tr (fr_tr (fr_tr (fr_rf _ _) fs7 rfl) fs9 rfl) fs10 rfl) fs11 rfl)) 148 2 rfl rfl)) l12)⟩)⟩
      · refine ⟨fun h49 => (by exfalso; omega), fun h49 => ?_⟩
        refine ⟨by omega, ?_⟩
        have g50 := g_wStart gs11
        have e51 : s11 122 16 = s10 122 16 := fs11 122 16 rfl rfl
        exact hQ _ _ ⟨gs11, (fr_tr (fr_tr (fr_tr (fr_tr (fr_rf _ _) fs7 rfl) fs9 rfl) fs10 rfl) fs11 rfl), (show ((0 : Int) = 1 ∧ ∃ c : List Int, GrS st 4 o (st 149 5) (s11 149 5) c ∧ RDc s11 ∧ CDA (st 122 16) (s11 122 16) (st 134) (s11 134) c) ∨ ((0 : Int) = 0 ∧ FlS st 4 o (st 149 5)) from (by
            obtain ⟨tk_, tv_, te_, ht_, hv_⟩ := rd_tk rd10 (fun i hi => ((show aFr m_cOfTwoA st s10 from (fr_tr (fr_tr (fr_tr (fr_rf _ _) fs7 rfl) fs9 rfl) fs10 rfl)) 150 i rfl rfl).trans (ow i hi))
            exact Or.inr ⟨rfl, Fl_two2 (tkS_e (sT_of (fun i => (show aFr m_cOfTwoA st st from (fr_rf _ _)) 2 i rfl rfl) ((show aFr m_cOfTwoA st st from (fr_rf _ _)) 1 1 rfl rfl) ((show aFr m_cOfTwoA st st from (fr_rf _ _)) 148 2 rfl rfl)) (nx_two rd ow nx7 (by omega) (by omega) k.2.2)) (two_v k.2.2) (tkS_e (sT_of (fun i => (show aFr m_cOfTwoA st s7 from (fr_tr (fr_rf _ _) fs7 rfl)) 2 i rfl rfl) ((show aFr m_cOfTwoA st s7 from (fr_tr (fr_rf _ _) fs7 rfl)) 1 1 rfl rfl) ((show aFr m_cOfTwoA st s7 from (fr_tr (fr_rf _ _) fs7 rfl)) 148 2 rfl rfl)) (nx_sgx rd7 (fun i hi => ((show aFr m_cOfTwoA st s7 from (fr_tr (fr_rf _ _) fs7 rfl)) 150 i rfl rfl).trans (ow i hi)) nx9 (by omega) (by omega))) (by omega) (GrS_e (sT_of (fun i => (show aFr m_cOfTwoA st s9 from (fr_tr (fr_tr (fr_rf _ _) fs7 rfl) fs9 rfl)) 2 i rfl rfl) ((show aFr m_cOfTwoA st s9 from (fr_tr (fr_tr (fr_rf _ _) fs7 rfl) fs9 rfl)) 1 1 rfl rfl) ((show aFr m_cOfTwoA st s9 from (fr_tr (fr_tr (fr_rf _ _) fs7 rfl) fs9 rfl)) 148 2 rfl rfl)) g10) (tkS_e (sT_of (fun i => (show aFr m_cOfTwoA st s10 from (fr_tr (fr_tr (fr_tr (fr_rf _ _) fs7 rfl) fs9 rfl) fs10 rfl)) 2 i rfl rfl) ((show aFr m_cOfTwoA st s10 from (fr_tr (fr_tr (fr_tr (fr_rf _ _) fs7 rfl) fs9 rfl) fs10 rfl)) 1 1 rfl rfl) ((show aFr m_cOfTwoA st s10 from (fr_tr (fr_tr (fr_tr (fr_rf _ _) fs7 rfl) fs9 rfl) fs10 rfl)) 148 2 rfl rfl)) ht_) (fun z => by have z1 := (tv_s hv_ 44).mp z; omega)⟩))⟩
    · refine ⟨fun h52 => ?_, fun h52 => (by exfalso; omega)⟩
      refine ⟨by omega, ?_⟩
      exact hQ _ _ ⟨gs10, (fr_tr (fr_tr (fr_tr (fr_rf _ _) fs7 rfl) fs9 rfl) fs10 rfl), (show ((0 : Int) = 1 ∧ ∃ c : List Int, GrS st 4 o (st 149 5) (s10 149 5) c ∧ RDc s10 ∧ CDA (st 122 16) (s10 122 16) (st 134) (s10 134) c) ∨ ((0 : Int) = 0 ∧ FlS st 4 o (st 149 5)) from Or.inr ⟨rfl, Fl_two1 (tkS_e (sT_of (fun i => (show aFr m_cOfTwoA st st from (fr_rf _ _)) 2 i rfl rfl) ((show aFr m_cOfTwoA st st from (fr_rf _ _)) 1 1 rfl rfl) ((show aFr m_cOfTwoA st st from (fr_rf _ _)) 148 2 rfl rfl)) (nx_two rd ow nx7 (by omega) (by omega) k.2.2)) (two_v k.2.2) (tkS_e (sT_of (fun i => (show aFr m_cOfTwoA st s7 from (fr_tr (fr_rf _ _) fs7 rfl)) 2 i rfl rfl) ((show aFr m_cOfTwoA st s7 from (fr_tr (fr_rf _ _) fs7 rfl)) 1 1 rfl rfl) ((show aFr m_cOfTwoA st s7 from (fr_tr (fr_rf _ _) fs7 rfl)) 148 2 rfl rfl)) (nx_sgx rd7 (fun i hi => ((show aFr m_cOfTwoA st s7 from (fr_tr (fr_rf _ _) fs7 rfl)) 150 i rfl rfl).trans (ow i hi)) nx9 (by omega) (by omega))) (by omega) (FlS_e (sT_of (fun i => (show aFr m_cOfTwoA st s9 from (fr_tr (fr_tr (fr_rf _ _) fs7 rfl) fs9 rfl)) 2 i rfl rfl) ((show aFr m_cOfTwoA st s9 from (fr_tr (fr_tr (fr_rf _ _) fs7 rfl) fs9 rfl)) 1 1 rfl rfl) ((show aFr m_cOfTwoA st s9 from (fr_tr (fr_tr (fr_rf _ _) fs7 rfl) fs9 rfl)) 148 2 rfl rfl)) l10)⟩)⟩
  · refine ⟨fun h53 => ?_, fun h53 => (by exfalso; omega)⟩
    refine ⟨by omega, ?_⟩
    have g54 := g_wStart gs9
    have e56 : s7 122 16 = st 122 16 := fs7 122 16 rfl rfl
    have e55 : s9 122 16 = s7 122 16 := fs9 122 16 rfl rfl
    exact hQ _ _ ⟨gs9, (fr_tr (fr_tr (fr_rf _ _) fs7 rfl) fs9 rfl), (show ((0 : Int) = 1 ∧ ∃ c : List Int, GrS st 4 o (st 149 5) (s9 149 5) c ∧ RDc s9 ∧ CDA (st 122 16) (s9 122 16) (st 134) (s9 134) c) ∨ ((0 : Int) = 0 ∧ FlS st 4 o (st 149 5)) from (by
            obtain ⟨tk_, tv_, te_, ht_, hv_⟩ := rd_tk rd7 (fun i hi => ((show aFr m_cOfTwoA st s7 from (fr_tr (fr_rf _ _) fs7 rfl)) 150 i rfl rfl).trans (ow i hi))
            have z1 := tv_s hv_ 40
            exact Or.inr ⟨rfl, Fl_two0 (tkS_e (sT_of (fun i => (show aFr m_cOfTwoA st st from (fr_rf _ _)) 2 i rfl rfl) ((show aFr m_cOfTwoA st st from (fr_rf _ _)) 1 1 rfl rfl) ((show aFr m_cOfTwoA st st from (fr_rf _ _)) 148 2 rfl rfl)) (nx_two rd ow nx7 (by omega) (by omega) k.2.2)) (by have z := two_v k.2.2; omega) (tkS_e (sT_of (fun i => (show aFr m_cOfTwoA st s7 from (fr_tr (fr_rf _ _) fs7 rfl)) 2 i rfl rfl) ((show aFr m_cOfTwoA st s7 from (fr_tr (fr_rf _ _) fs7 rfl)) 1 1 rfl rfl) ((show aFr m_cOfTwoA st s7 from (fr_tr (fr_rf _ _) fs7 rfl)) 148 2 rfl rfl)) ht_) (by omega)⟩))⟩
theorem k_cOfTwoA_m (hTb : aTb zSh rx_tb cl) {m : Nat} (hB : BNDA cl m) {D : Nat} (hD : m + 21 ≤ D) : ∀ as st (Q Q' : zQ), (∀ r st', Q r st' → Q' r st') → k_cOfTwoA (m + 1) 257 as st Q → cl D 257 as st Q' := by
  intro as st Q Q' hQ h
  unfold k_cOfTwoA at h
  split at h
  · obtain ⟨rfl, h⟩ := h
    exact c_cOfTwoA hTb hB hD (ct_cOfTwoA_m hQ h)
  · exact h.elim
set_option maxHeartbeats 4000000 in
set_option maxRecDepth 100000 in
theorem c_cIfA (hTb : aTb zSh rx_tb cl) {m : Nat} (hB : BNDA cl m) {D : Nat} (hD : m + 21 ≤ D) {o : Int} {st : zS} {Q : zQ} (h : ct_cIfA (m + 1) o st Q) : cl D 258 [.inr (.inr (.inl 148)), .inl o] st Q := by
  obtain ⟨d, rfl⟩ : ∃ d, D = d + 1 := ⟨D - 1, by omega⟩
  refine hTb d 258 (rx_m258, 2, 0, 0, 2) rfl _ _ _ (Nat.le_of_ble_eq_true rfl) (fun K hcl hsf hsl => ?_)
  have hcm : zmo (wcL [(143, k_cNext), (302, k_cIsSign), (252, k_cTakeOpen), (253, k_cSumA m), (259, k_cTestA m), (251, k_cTakeSign), (282, k_cAddCodeA)]) (cl d) := (wcL_m (wm_cons (k_cNext_m hTb (by omega)) (wm_cons (k_cIsSign_m hTb (by omega)) (wm_cons (k_cTakeOpen_m hTb (by omega)) (wm_cons ((hB d (by omega)).2.2.2.2.1) (wm_cons ((hB d (by omega)).1) (wm_cons (k_cTakeSign_m hTb (by omega)) (wm_cons (k_cAddCodeA_m hTb (by omega)) wm_nil))))))))
  obtain ⟨hR, hQ⟩ := h
  obtain ⟨hG, rd, ow, tw, cb, dd, oo, k⟩ := hR
  change RDc st at rd
  change cOW st at ow
  change st 148 1 = 122 at tw
  change st 122 16 + 1 ≤ st 149 5 at cb
  change 0 ≤ o ∧ o ≤ 7 at oo
  change st 149 3 = 2 ∧ st 149 4 = 19 at k
  have rb := rd.1
  have g1 := g_f148_1 hG
  have g2 := g_f122_16 hG
  have g3 := g_wStart hG
  have g4 := g_wKind hG
  have g5 := g_wValue hG
  have g6 := g_tsize hG
  refine dr1_ok (Rt := Q) (wc := (wcL [(143, k_cNext), (302, k_cIsSign), (252, k_cTakeOpen), (253, k_cSumA m), (259, k_cTestA m), (251, k_cTakeSign), (282, k_cAddCodeA)])) (stp := []) hcm hcl [(86, 122)] [] 72 ?_
  show (149 = 149 ∧ (rq_cNext  st ∧ (∀ (s7 : zS), en_cNext  st s7 → (149 = 149 ∧ (∀ (r8 : Int), en_cIsSign (40) s7 r8 → (148 = 148 ∧ (rq_cTakeOpen r8 o s7 ∧ (∀ (r9 : Int) (s9 : zS), en_cTakeOpen r8 o s7 r9 s9 → ((r9 = (0 : Int) → ((0 = (0 : Int) ∨ 0 = (1 : Int)) ∧ Q (some (.inl 0)) s9)) ∧ (¬ (r9 = (0 : Int)) → ((-2147483648 ≤ o + 1 ∧ o + 1 ≤ 2147483647) ∧ (148 = 148 ∧ (rq_cTestA m (o + 1) s9 ∧ (∀ (r10 : Int) (s10 : zS), en_cTestA m (o + 1) s9 r10 s10 → ((r10 = (0 : Int) → ((0 = (0 : Int) ∨ 0 = (1 : Int)) ∧ Q (some (.inl 0)) s10)) ∧ (¬ (r10 = (0 : Int)) → (148 = 148 ∧ (rq_cTakeSign (44) s10 ∧ (∀ (r11 : Int) (s11 : zS), en_cTakeSign (44) s10 r11 s11 → ((¬ r11 = (0 : Int) → ((-2147483648 ≤ o + 1 ∧ o + 1 ≤ 2147483647) ∧ (148 = 148 ∧ (rq_cSumA m (o + 1) s11 ∧ (∀ (r12 : Int) (s12 : zS), en_cSumA m (o + 1) s11 r12 s12 → ((r12 = (0 : Int) → ((0 = (0 : Int) ∨ 0 = (1 : Int)) ∧ Q (some (.inl 0)) s12)) ∧ (¬ (r12 = (0 : Int)) → (148 = 148 ∧ (rq_cTakeSign (44) s12 ∧ (∀ (r13 : Int) (s13 : zS), en_cTakeSign (44) s12 r13 s13 → ((r13 = (0 : Int) → ((0 = (0 : Int) ∨ 0 = (1 : Int)) ∧ Q (some (.inl 0)) s13)) ∧ (¬ (r13 = (0 : Int)) → ((-2147483648 ≤ o + 1 ∧ o + 1 ≤ 2147483647) ∧ (148 = 148 ∧ (rq_cSumA m (o + 1) s13 ∧ (∀ (r14 : Int) (s14 : zS), en_cSumA m (o + 1) s13 r14 s14 → ((r14 = (0 : Int) → ((0 = (0 : Int) ∨ 0 = (1 : Int)) ∧ Q (some (.inl 0)) s14)) ∧ (¬ (r14 = (0 : Int)) → (148 = 148 ∧ (rq_cTakeSign (41) s14 ∧ (∀ (r15 : Int) (s15 : zS), en_cTakeSign (41) s14 r15 s15 → ((¬ r15 = (0 : Int) → ((s15 148 1 = (122 : Int)) ∧ (122 = 122 ∧ (rq_cAddCodeA (19) (0) s15 ∧ (∀ (s16 : zS), en_cAddCodeA (19) (0) s15 s16 → ((1 = (0 : Int) ∨ 1 = (1 : Int)) ∧ Q (some (.inl 1)) s16)))))) ∧ (¬ (¬ r15 = (0 : Int)) → ((0 = (0 : Int) ∨ 0 = (1 : Int)) ∧ Q (some (.inl 0)) s15)))))))))))))))))))))))) ∧ (¬ (¬ r11 = (0 : Int)) → ((0 = (0 : Int) ∨ 0 = (1 : Int)) ∧ Q (some (.inl 0)) s11))))))))))))))))))))))
  refine ⟨rfl, ⟨hG, (show RDc st from rd), (show 1 ≤ st 149 3 ∧ st 149 3 ≤ 4 from by omega)⟩, fun s7 q7 => ?_⟩
  obtain ⟨gs7, fs7, rd7, nx7⟩ := q7
  change RDc s7 at rd7
  change NX st s7 at nx7
  refine ⟨rfl, fun r8 q8 => ?_⟩
  have b8 := q8
  change (r8 = 0 ∨ r8 = 1) ∧ (r8 = 1 ↔ s7 149 3 = 4 ∧ s7 149 4 = (40)) at b8
  have g17 := g_wKind gs7
  have g18 := g_wValue gs7
  refine ⟨rfl, ⟨gs7, (show RDc s7 from rd7), (show (r8 = 0 ∨ r8 = 1) ∧ (r8 = 1 → 1 ≤ s7 149 3 ∧ s7 149 3 ≤ 4) from by omega)⟩, fun r9 s9 q9 => ?_⟩
  obtain ⟨gs9, fs9, o9⟩ := q9
  change (r9 = 1 ∧ r8 = 1 ∧ o < 7 ∧ RDc s9 ∧ NX s7 s9) ∨ (r9 = 0 ∧ (r8 = 0 ∨ 7 ≤ o)) at o9
  rcases o9 with ⟨y9, k9, v9, rd9, nx9⟩ | ⟨y9, k9⟩
  · refine ⟨fun h19 => (by exfalso; omega), fun h19 => ?_⟩
    refine ⟨by omega, ?_⟩
    have e21 : s7 148 1 = st 148 1 := fs7 148 1 rfl rfl
    have e20 : s9 148 1 = s7 148 1 := fs9 148 1 rfl rfl
    have e23 : s7 122 16 = st 122 16 := fs7 122 16 rfl rfl
    have e22 : s9 122 16 = s7 122 16 := fs9 122 16 rfl rfl
    have g24 := g_wStart gs9
    refine ⟨rfl, ⟨gs9, (show RDc s9 from rd9), (show cOW s9 from (fun i hi => ((show aFr m_cIfA st s9 from (fr_tr (fr_tr (fr_rf _ _) fs7 rfl) fs9 rfl)) 150 i rfl rfl).trans (ow i hi))), (show s9 148 1 = 122 from by omega), (show s9 122 16 + 1 ≤ s9 149 5 from by have zt9 := tk_lt (nx_sig rd7 (fun i hi => ((show aFr m_cIfA st s7 from (fr_tr (fr_rf _ _) fs7 rfl)) 150 i rfl rfl).trans (ow i hi)) nx9 (by omega)) rd7.1.1 (by omega); have zt7 := tk_lt ((nx_own rd ow nx7 (by omega)).2) rd.1.1 (by omega); omega), (show 8 + 12 * (7 - (o + 1)) ≤ (m : Int) from by omega), (show 0 ≤ (o + 1) ∧ (o + 1) ≤ 7 from by omega)⟩, fun r10 s10 q10 => ?_⟩
    obtain ⟨gs10, fs10, o10⟩ := q10
    change (r10 = 1 ∧ ∃ c : List Int, GrS s9 5 (o + 1) (s9 149 5) (s10 149 5) c ∧ RDc s10 ∧ CDA (s9 122 16) (s10 122 16) (s9 134) (s10 134) c) ∨ (r10 = 0 ∧ FlS s9 5 (o + 1) (s9 149 5)) at o10
    have g25 := g_wStart gs10
    have g26 := g_f122_16 gs10
    rcases o10 with ⟨y10, c10, g10, rd10, cd10⟩ | ⟨y10, l10⟩
    · have gl10 := Gr_len g10 rd9.1.1
      have cn10 := cd10.2.1
      have rb10 := rd10.1
      have rt10 := g_tsize gs10
      refine ⟨fun h27 => (by exfalso; omega), fun h27 => ?_⟩
      refine ⟨rfl, ⟨gs10, (show RDc s10 from rd10)⟩, fun r11 s11 q11 => ?_⟩
      obtain ⟨gs11, fs11, o11⟩ := q11
      change (r11 = 1 ∧ s10 149 3 = 4 ∧ s10 149 4 = (44) ∧ RDc s11 ∧ NX s10 s11) ∨ (r11 = 0 ∧ ¬ (s10 149 3 = 4 ∧ s10 149 4 = (44))) at o11
      have g28 := g_wKind gs10
      have g29 := g_wValue gs10
      rcases o11 with ⟨y11, k11, v11, rd11, nx11⟩ | ⟨y11, k11⟩
      · refine ⟨fun h30 => ?_, fun h30 => (by exfalso; omega)⟩
        refine ⟨by omega, ?_⟩
        have e32 : s10 148 1 = s9 148 1 := fs10 148 1 rfl rfl
        have e31 : s11 148 1 = s10 148 1 := fs11 148 1 rfl rfl
        have e33 : s11 122 16 = s10 122 16 := fs11 122 16 rfl rfl
        have g34 := g_wStart gs11
        refine ⟨rfl, ⟨gs11, (show RDc s11 from rd11), (show cOW s11 from (fun i hi => ((show aFr m_cIfA st s11 from (fr_tr (fr_tr (fr_tr (fr_tr (fr_rf _ _) fs7 rfl) fs9 rfl) fs10 rfl) fs11 rfl)) 150 i rfl rfl).trans (ow i hi))), (show s11 148 1 = 122 from by omega), (show s11 122 16 + 1 ≤ s11 149 5 from by have zt11 := tk_lt (nx_sig rd10 (fun i hi => ((show aFr m_cIfA st s10 from (fr_tr (fr_tr (fr_tr (fr_rf _ _) fs7 rfl) fs9 rfl) fs10 rfl)) 150 i rfl rfl).trans (ow i hi)) nx11 (by omega)) rd10.1.1 (by omega); have zt9 := tk_lt (nx_sig rd7 (fun i hi => ((show aFr m_cIfA st s7 from (fr_tr (fr_rf _ _) fs7 rfl)) 150 i rfl rfl).trans (ow i hi)) nx9 (by omega)) rd7.1.1 (by omega); have zt7 := tk_lt ((nx_own rd ow nx7 (by omega)).2) rd.1.1 (by omega); omega), (show 4 + 12 * (7 - (o + 1)) ≤ (m : Int) from by omega), (show 0 ≤ (o + 1) ∧ (o + 1) ≤ 7 from by omega)⟩, fun r12 s12 q12 => ?_⟩
        obtain ⟨gs12, fs12, o12⟩ := q12
        change (r12 = 1 ∧ ∃ c : List Int, GrS s11 0 (o + 1) (s11 149 5) (s12 149 5) c ∧ RDc s12 ∧ CDA (s11 122 16) (s12 122 16) (s11 134) (s12 134) c) ∨ (r12 = 0 ∧ FlS s11 0 (o + 1) (s11 149 5)) at o12
        have g35 := g_wStart gs12
        have g36 := g_f122_16 gs12
        rcases o12 with ⟨y12, c12, g12, rd12, cd12⟩ | ⟨y12, l12⟩
        · have gl12 := Gr_len g12 rd11.1.1
          have cn12 := cd12.2.1
          have rb12 := rd12.1
          have rt12 := g_tsize gs12
          refine ⟨fun h37 => (by exfalso; omega), fun h37 => ?_⟩
          refine ⟨rfl, ⟨gs12, (show RDc s12 from rd12)⟩, fun r13 s13 q13 => ?_⟩
          obtain ⟨gs13, fs13, o13⟩ := q13
          change (r13 = 1 ∧ s12 149 3 = 4 ∧ s12 149 4 = (44) ∧ RDc s13 ∧ NX s12 s13) ∨ (r13 = 0 ∧ ¬ (s12 149 3 = 4 ∧ s12 149 4 = (44))) at o13
          have g38 := g_wKind gs12
          have g39 := g_wValue gs12
          rcases o13 with ⟨y13, k13, v13, rd13, nx13⟩ | ⟨y13, k13⟩
          · refine ⟨fun h40 => (by exfalso; omega), fun h40 => ?_⟩
            refine ⟨by omega, ?_⟩
            have e42 : s12 148 1 = s11 148 1 := fs12 148 1 rfl rfl
            have e41 : s13 148 1 = s12 148 1 := fs13 148 1 rfl rfl
            have e43 : s13 122 16 = s12 122 16 := fs13 122 16 rfl rfl
            have g44 := g_wStart gs13
            refine ⟨rfl, ⟨gs13, (show RDc s13 from rd13), (show cOW s13 from (fun i hi => ((show aFr m_cIfA st s13 from (fr_tr (fr_tr (fr_tr (fr_tr (fr_tr (fr_tr (fr_rf _ _) fs7 rfl) fs9 rfl) fs10 rfl) fs11 rfl) fs12 rfl) fs13 rfl)) 150 i rfl rfl).trans (ow i hi))), (show s13 148 1 = 122 from by omega), (show s13 122 16 + 1 ≤ s13 149 5 from by have zt13 := tk_lt (nx_sig rd12 (fun i hi => ((show aFr m_cIfA st s12 from (fr_tr (fr_tr (fr_tr (fr_tr (fr_tr (fr_rf _ _) fs7 rfl) fs9 rfl) fs10 rfl) fs11 rfl) fs12 rfl)) 150 i rfl rfl).trans (ow i hi)) nx13 (by omega)) rd12.1.1 (by omega); have zt11 := tk_lt (nx_sig rd10 (fun i hi => ((show aFr m_cIfA st s10 from (fr_tr (fr_tr (fr_tr (fr_rf _ _) fs7 rfl) fs9 rfl) fs10 rfl)) 150 i rfl rfl).trans (ow i hi)) nx11 (by omega)) rd10.1.1 (by omega); have zt9 := tk_lt (nx_sig rd7 (fun i hi => ((show aFr m_cIfA st s7 from (fr_tr (fr_rf _ _) fs7 rfl)) 150 i rfl rfl).trans (ow i hi)) nx9 (by omega)) rd7.1.1 (by omega); have zt7 := tk_lt ((nx_own rd ow nx7 (by omega)).2) rd.1.1 (by omega); omega), (show 4 + 12 * (7 - (o + 1)) ≤ (m : Int) from by omega), (show 0 ≤ (o + 1) ∧ (o + 1) ≤ 7 from by omega)⟩, fun r14 s14 q14 => ?_⟩
            obtain ⟨gs14, fs14, o14⟩ := q14
            change (r14 = 1 ∧ ∃ c : List Int, GrS s13 0 (o + 1) (s13 149 5) (s14 149 5) c ∧ RDc s14 ∧ CDA (s13 122 16) (s14 122 16) (s13 134) (s14 134) c) ∨ (r14 = 0 ∧ FlS s13 0 (o + 1) (s13 149 5)) at o14
            have g45 := g_wStart gs14
            have g46 := g_f122_16 gs14
            rcases o14 with ⟨y14, c14, g14, rd14, cd14⟩ | ⟨y14, l14⟩
            · have gl14 := Gr_len g14 rd13.1.1
              have cn14 := cd14.2.1
              have rb14 := rd14.1
              have rt14 := g_tsize gs14
              refine ⟨fun h47 => (by exfalso; omega), fun h47 => ?_⟩
              refine ⟨rfl, ⟨gs14, (show RDc s14 from rd14)⟩, fun r15 s15 q15 => ?_⟩
              obtain ⟨gs15, fs15, o15⟩ := q15
              change (r15 = 1 ∧ s14 149 3 = 4 ∧ s14 149 4 = (41) ∧ RDc s15 ∧ NX s14 s15) ∨ (r15 = 0 ∧ ¬ (s14 149 3 = 4 ∧ s14 149 4 = (41))) at o15
              have g48 := g_wKind gs14
              have g49 := g_wValue gs14
              rcases o15 with ⟨y15, k15, v15, rd15, nx15⟩ | ⟨y15, k15⟩
              · refine ⟨fun h50 => ?_, fun h50 => (by exfalso; omega)⟩
                have e52 : s14 148 1 = s13 148 1 := fs14 148 1 rfl rfl
                have e51 : s15 148 1 = s14 148 1 := fs15 148 1 rfl rfl
                refine ⟨by omega, ?_⟩
                have e53 : s15 122 16 = s14 122 16 := fs15 122 16 rfl rfl
                refine ⟨rfl, ⟨gs15, (show (0 ≤ (19) ∧ (19) ≤ 255) ∧ 0 ≤ (0) ∧ (0) ≤ 9999 from by omega), (show s15 122 16 ≤ 1599 from by have zt15 := tk_lt (nx_sig rd14 (fun i hi => ((show aFr m_cIfA st s14 from (fr_tr (fr_tr (fr_tr (fr_tr (fr_tr (fr_tr (fr_tr (fr_rf _ _) fs7 rfl) fs9 rfl) fs10 rfl) fs11 rfl) fs12 rfl) fs13 rfl) fs14 rfl)) 150 i rfl rfl).trans (ow i hi)) nx15 (by omega)) rd14.1.1 (by omega); have zt13 := tk_lt (nx_sig rd12 (fun i hi => ((show aFr m_cIfA st s12 from (fr_tr (fr_tr (fr_tr (fr_tr (fr_tr (fr_rf _ _) fs7 rfl) fs9 rfl) fs10 rfl) fs11 rfl) fs12 rfl)) 150 i rfl rfl).trans (ow i hi)) nx13 (by omega)) rd12.1.1 (by omega); have zt11 := tk_lt (nx_sig rd10 (fun i hi => ((show aFr m_cIfA st s10 from (fr_tr (fr_tr (fr_tr (fr_rf _ _) fs7 rfl) fs9 rfl) fs10 rfl)) 150 i rfl rfl).trans (ow i hi)) nx11 (by omega)) rd10.1.1 (by omega); have zt9 := tk_lt (nx_sig rd7 (fun i hi => ((show aFr m_cIfA st s7 from (fr_tr (fr_rf _ _) fs7 rfl)) 150 i rfl rfl).trans (ow i hi)) nx9 (by omega)) rd7.1.1 (by omega); have zt7 := tk_lt ((nx_own rd ow nx7 (by omega)).2) rd.1.1 (by omega); omega)⟩, fun s16 q16 => ?_⟩
                obtain ⟨gs16, fs16, cc16, cf16⟩ := q16
                change s16 122 16 = s15 122 16 + 1 at cc16
                have g54 := g_f122_16 gs16
                change (s16 134) = up1 (s15 134) (s15 122 16).toNat (65536 * (19) + (0)) at cf16
                refine ⟨by omega, ?_⟩
                have g56 := g_wStart gs15
                have e55 : s16 149 5 = s15 149 5 := fs16 149 5 rfl rfl
                exact hQ _ _ ⟨gs16, (fr_tr (fr_tr (fr_tr (fr_tr (fr_tr (fr_tr (fr_tr (fr_tr (fr_tr (fr_rf _ _) fs7 rfl) fs9 rfl) fs10 rfl) fs11 rfl) fs12 rfl) fs13 rfl) fs14 rfl) fs15 rfl) fs16 rfl), (show ((1 : Int) = 1 ∧ ∃ c : List Int, GrS st 4 o (st 149 5) (s16 149 5) c ∧ RDc s16 ∧ CDA (st 122 16) (s16 122 16) (st 134) (s16 134) c) ∨ ((1 : Int) = 0 ∧ FlS st 4 o (st 149 5)) from (by rw [show s16 149 5 = s15 149 5 from fs16 149 5 rfl rfl]; exact Or.inl ⟨rfl, c10 ++ (c12 ++ (c14 ++ [44])), Gr_iff ((show tk (ctx st) (st 1 1) _ 1 (26982 : Int) _ from tkS_e (sT_of (fun i => (show aFr m_cIfA st st from (fr_rf _ _)) 2 i rfl rfl) ((show aFr m_cIfA st st from (fr_rf _ _)) 1 1 rfl rfl) ((show aFr m_cIfA st st from (fr_rf _ _)) 148 2 rfl rfl)) (nx_ow 19 rd ow nx7 (by omega) (by omega) rfl))) (tkS_e (sT_of (fun i => (show aFr m_cIfA st s7 from (fr_tr (fr_rf _ _) fs7 rfl)) 2 i rfl rfl) ((show aFr m_cIfA st s7 from (fr_tr (fr_rf _ _) fs7 rfl)) 1 1 rfl rfl) ((show aFr m_cIfA st s7 from (fr_tr (fr_rf _ _) fs7 rfl)) 148 2 rfl rfl)) (nx_sgx rd7 (fun i hi => ((show aFr m_cIfA st s7 from (fr_tr (fr_rf _ _) fs7 rfl)) 150 i rfl rfl).trans (ow i hi)) nx9 (by omega) (by omega))) (by omega) (GrS_e (sT_of (fun i => (show aFr m_cIfA st s9 from (fr_tr (fr_tr (fr_rf _ _) fs7 rfl) fs9 rfl)) 2 i rfl rfl) ((show aFr m_cIfA st s9 from (fr_tr (fr_tr (fr_rf _ _) fs7 rfl) fs9 rfl)) 1 1 rfl rfl) ((show aFr m_cIfA st s9 from (fr_tr (fr_tr (fr_rf _ _) fs7 rfl) fs9 rfl)) 148 2 rfl rfl)) g10) (tkS_e (sT_of (fun i => (show aFr m_cIfA st s10 from (fr_tr (fr_tr (fr_tr (fr_rf _ _) fs7 rfl) fs9 rfl) fs10 rfl)) 2 i rfl rfl) ((show aFr m_cIfA st s10 from (fr_tr (fr_tr (fr_tr (fr_rf _ _) fs7 rfl) fs9 rfl) fs10 rfl)) 1 1 rfl rfl) ((show aFr m_cIfA st s10 from (fr_tr (fr_tr (fr_tr (fr_rf _ _) fs7 rfl) fs9 rfl) fs10 rfl)) 148 2 rfl rfl)) (nx_sgx rd10 (fun i hi => ((show aFr m_cIfA st s10 from (fr_tr (fr_tr (fr_tr (fr_rf _ _) fs7 rfl) fs9 rfl) fs10 rfl)) 150 i rfl rfl).trans (ow i hi)) nx11 (by omega) (by omega))) (GrS_e (sT_of (fun i => (show aFr m_cIfA st s11 from (fr_tr (fr_tr (fr_tr (fr_tr (fr_rf _ _) fs7 rfl) fs9 rfl) fs10 rfl) fs11 rfl)) 2 i rfl rfl) ((show aFr m_cIfA st s11 from (fr_tr (fr_tr (fr_tr (fr_tr (fr_rf _ _) fs7 rfl) fs9 rfl) fs10 rfl) fs11 rfl)) 1 1 rfl rfl) ((show aFr m_cIfA st s11 from (fr_tr (fr_tr (fr_tr (fr_tr (fr_rf _ _) fs7 rfl) fs9 rfl) fs10 rfl) fs11 rfl)) 148 2 rfl rfl)) g12) (tkS_e (sT_of (fun i => (show aFr m_cIfA st s12 from (fr_tr (fr_tr (fr_tr (fr_tr (fr_tr (fr_rf _ _) fs7 rfl) fs9 rfl) fs10 rfl) fs11 rfl) fs12 rfl)) 2 i rfl rfl) ((show aFr m_cIfA st s12 from (fr_tr (fr_tr (fr_tr (fr_tr (fr_tr (fr_rf _ _) fs7 rfl) fs9 rfl) fs10 rfl) fs11 rfl) fs12 rfl)) 1 1 rfl rfl) ((show aFr m_cIfA st s12 from (fr_tr (fr_tr (fr_tr (fr_tr (fr_tr (fr_rf _ _) fs7 rfl) fs9 rfl) fs10 rfl) fs11 rfl) fs12 rfl)) 148 2 rfl rfl)) (nx_sgx rd12 (fun i hi => ((show aFr m_cIfA st s12 from (fr_tr (fr_tr (fr_tr (fr_tr (fr_tr (fr_rf _ _) fs7 rfl) fs9 rfl) fs10 rfl) fs11 rfl) fs12 rfl)) 150 i rfl rfl).trans (ow i hi)) nx13 (by omega) (by omega))) (GrS_e (sT_of (fun i => (show aFr m_cIfA st s13 from (fr_tr (fr_tr (fr_tr (fr_tr (fr_tr (fr_tr (fr_rf _ _) fs7 rfl) fs9 rfl) fs10 rfl) fs11 rfl) fs12 rfl) fs13 rfl)) 2 i rfl rfl) ((show aFr m_cIfA st s13 from (fr_tr (fr_tr (fr_tr (fr_tr (fr_tr (fr_tr (fr_rf _ _) fs7 rfl) fs9 rfl) fs10 rfl) fs11 rfl) fs12 rfl) fs13 rfl)) 1 1 rfl rfl) ((show aFr m_cIfA st s13 from (fr_tr (fr_tr (fr_tr (fr_tr (fr_tr (fr_tr (fr_rf _ _) fs7 rfl) fs9 rfl) fs10 rfl) fs11 rfl) fs12 rfl) fs13 rfl)) 148 2 rfl rfl)) g14) (tkS_e (sT_of (fun i => (show aFr m_cIfA st s14 from (fr_tr (fr_tr (fr_tr (fr_tr (fr_tr (fr_tr (fr_tr (fr_rf _ _) fs7 rfl) fs9 rfl) fs10 rfl) fs11 rfl) fs12 rfl) fs13 rfl) fs14 rfl)) 2 i rfl rfl) ((show aFr m_cIfA st s14 from (fr_tr (fr_tr (fr_tr (fr_tr (fr_tr (fr_tr (fr_tr (fr_rf _ _) fs7 rfl) fs9 rfl) fs10 rfl) fs11 rfl) fs12 rfl) fs13 rfl) fs14 rfl)) 1 1 rfl rfl) ((show aFr m_cIfA st s14 from (fr_tr (fr_tr (fr_tr (fr_tr (fr_tr (fr_tr (fr_tr (fr_rf _ _) fs7 rfl) fs9 rfl) fs10 rfl) fs11 rfl) fs12 rfl) fs13 rfl) fs14 rfl)) 148 2 rfl rfl)) (nx_sgx rd14 (fun i hi => ((show aFr m_cIfA st s14 from (fr_tr (fr_tr (fr_tr (fr_tr (fr_tr (fr_tr (fr_tr (fr_rf _ _) fs7 rfl) fs9 rfl) fs10 rfl) fs11 rfl) fs12 rfl) fs13 rfl) fs14 rfl)) 150 i rfl rfl).trans (ow i hi)) nx15 (by omega) (by omega))), (RDc_of (fun i => fs16 2 i rfl rfl) (fs16 1 1 rfl rfl) (fs16 149 2 rfl rfl) (fs16 149 3 rfl rfl) (fs16 149 4 rfl rfl) (fs16 149 5 rfl rfl) (fun i => fs16 150 i rfl rfl) rd15), CDA_c (CDA_tr (CDA_f (CDA_tr (CDA_f (CDA_tr (CDA_f (CDA_tr (CDA_f (CDA_f (CDA_nil (st 134) (g_f122_16 hG).1) (fs7 122 16 rfl rfl) (funext (fun i => fs7 134 i rfl rfl))) (fs9 122 16 rfl rfl) (funext (fun i => fs9 134 i rfl rfl))) cd10) (fs11 122 16 rfl rfl) (funext (fun i => fs11 134 i rfl rfl))) cd12) (fs13 122 16 rfl rfl) (funext (fun i => fs13 134 i rfl rfl))) cd14) (fs15 122 16 rfl rfl) (funext (fun i => fs15 134 i rfl rfl))) (CDA_one (y := 44) (g_f122_16 gs15).1 cc16 cf16 rfl)) (by simp only [List.nil_append, List.append_assoc, List.cons_append, List.append_nil])⟩))⟩
              · refine ⟨fun h57 => (by exfalso; omega), fun h57 => ?_⟩
                refine ⟨by omega, ?_⟩
                have g58 := g_wStart gs15
                have e59 : s15 122 16 = s14 122 16 := fs15 122 16 rfl rfl
                exact hQ _ _ ⟨gs15, (fr_tr (fr_tr (fr_tr (fr_tr (fr_tr (fr_tr (fr_tr (fr_tr (fr_rf _ _) fs7 rfl) fs9 rfl) fs10 rfl) fs11 rfl) fs12 rfl) fs13 rfl) fs14 rfl) fs15 rfl), (show ((0 : Int) = 1 ∧ ∃ c : List Int, GrS st 4 o (st 149 5) (s15 149 5) c ∧ RDc s15 ∧ CDA (st 122 16) (s15 122 16) (st 134) (s15 134) c) ∨ ((0 : Int) = 0 ∧ FlS st 4 o (st 149 5)) from (by
            obtain ⟨tk_, tv_, te_, ht_, hv_⟩ := rd_tk rd14 (fun i hi => ((show aFr m_cIfA st s14 from (fr_tr (fr_tr (fr_tr (fr_tr (fr_tr (fr_tr (fr_tr (fr_rf _ _) fs7 rfl) fs9 rfl) fs10 rfl) fs11 rfl) fs12 rfl) fs13 rfl) fs14 rfl)) 150 i rfl rfl).trans (ow i hi))
            exact Or.inr ⟨rfl, Fl_iff6 ((show tk (ctx st) (st 1 1) _ 1 (26982 : Int) _ from tkS_e (sT_of (fun i => (show aFr m_cIfA st st from (fr_rf _ _)) 2 i rfl rfl) ((show aFr m_cIfA st st from (fr_rf _ _)) 1 1 rfl rfl) ((show aFr m_cIfA st st from (fr_rf _ _)) 148 2 rfl rfl)) (nx_ow 19 rd ow nx7 (by omega) (by omega) rfl))) (tkS_e (sT_of (fun i => (show aFr m_cIfA st s7 from (fr_tr (fr_rf _ _) fs7 rfl)) 2 i rfl rfl) ((show aFr m_cIfA st s7 from (fr_tr (fr_rf _ _) fs7 rfl)) 1 1 rfl rfl) ((show aFr m_cIfA st s7 from (fr_tr (fr_rf _ _) fs7 rfl)) 148 2 rfl rfl)) (nx_sgx rd7 (fun i hi => ((show aFr m_cIfA st s7 from (fr_tr (fr_rf _ _) fs7 rfl)) 150 i rfl rfl).trans (ow i hi)) nx9 (by omega) (by omega))) (by omega) (GrS_e (sT_of (fun i => (show aFr m_cIfA st s9 from (fr_tr (fr_tr (fr_rf _ _) fs7 rfl) fs9 rfl)) 2 i rfl rfl) ((show aFr m_cIfA st s9 from (fr_tr (fr_tr (fr_rf _ _) fs7 rfl) fs9 rfl)) 1 1 rfl rfl) ((show aFr m_cIfA st s9 from (fr_tr (fr_tr (fr_rf _ _) fs7 rfl) fs9 rfl)) 148 2 rfl rfl)) g10) (tkS_e (sT_of (fun i => (show aFr m_cIfA st s10 from (fr_tr (fr_tr (fr_tr (fr_rf _ _) fs7 rfl) fs9 rfl) fs10 rfl)) 2 i rfl rfl) ((show aFr m_cIfA st s10 from (fr_tr (fr_tr (fr_tr (fr_rf _ _) fs7 rfl) fs9 rfl) fs10 rfl)) 1 1 rfl rfl) ((show aFr m_cIfA st s10 from (fr_tr (fr_tr (fr_tr (fr_rf _ _) fs7 rfl) fs9 rfl) fs10 rfl)) 148 2 rfl rfl)) (nx_sgx rd10 (fun i hi => ((show aFr m_cIfA st s10 from (fr_tr (fr_tr (fr_tr (fr_rf _ _) fs7 rfl) fs9 rfl) fs10 rfl)) 150 i rfl rfl).trans (ow i hi)) nx11 (by omega) (by omega))) (GrS_e (sT_of (fun i => (show aFr m_cIfA st s11 from (fr_tr (fr_tr (fr_tr (fr_tr (fr_rf _ _) fs7 rfl) fs9 rfl) fs10 rfl) fs11 rfl)) 2 i rfl rfl) ((show aFr m_cIfA st s11 from (fr_tr (fr_tr (fr_tr (fr_tr (fr_rf _ _) fs7 rfl) fs9 rfl) fs10 rfl) fs11 rfl)) 1 1 rfl rfl) ((show aFr m_cIfA st s11 from (fr_tr (fr_tr (fr_tr (fr_tr (fr_rf _ _) fs7 rfl) fs9 rfl) fs10 rfl) fs11 rfl)) 148 2 rfl rfl)) g12) (tkS_e (sT_of (fun i => (show aFr m_cIfA st s12 from (fr_tr (fr_tr (fr_tr (fr_tr (fr_tr (fr_rf _ _) fs7 rfl) fs9 rfl) fs10 rfl) fs11 rfl) fs12 rfl)) 2 i rfl rfl) ((show aFr m_cIfA st s12 from (fr_tr (fr_tr (fr_tr (fr_tr (fr_tr (fr_rf _ _) fs7 rfl) fs9 rfl) fs10 rfl) fs11 rfl) fs12 rfl)) 1 1 rfl rfl) ((show aFr m_cIfA st s12 from (fr_tr (fr_tr (fr_tr (fr_tr (fr_tr (fr_rf _ _) fs7 rfl) fs9 rfl) fs10 rfl) fs11 rfl) fs12 rfl)) 148 2 rfl rfl)) (nx_sgx rd12 (fun i hi => ((show aFr m_cIfA st s12 from (fr_tr (fr_tr (fr_tr (fr_tr (fr_tr (fr_rf _ _) fs7 rfl) fs9 rfl) fs10 rfl) fs11 rfl) fs12 rfl)) 150 i rfl rfl).trans (ow i hi)) nx13 (by omega) (by omega))) (GrS_e (sT_of (fun i => (show aFr m_cIfA st s13 from (fr_tr (fr_tr (fr_tr (fr_tr (fr_tr (fr_tr (fr_rf _ _) fs7 rfl) fs9 rfl) fs10 rfl) fs11 rfl) fs12 rfl) fs13 rfl)) 2 i rfl rfl) ((show aFr m_cIfA st s13 from (fr_tr (fr_tr (fr_tr (fr_tr (fr_tr (fr_tr (fr_rf _ _) fs7 rfl) fs9 rfl) fs10 rfl) fs11 rfl) fs12 rfl) fs13 rfl)) 1 1 rfl rfl) ((show aFr m_cIfA st s13 from (fr_tr (fr_tr (fr_tr (fr_tr (fr_tr (fr_tr (fr_rf _ _) fs7 rfl) fs9 rfl) fs10 rfl) fs11 rfl) fs12 rfl) fs13 rfl)) 148 2 rfl rfl)) g14) (tkS_e (sT_of (fun i => (show aFr m_cIfA st s14 from (fr_tr (fr_tr (fr_tr (fr_tr (fr_tr (fr_tr (fr_tr (fr_rf _ _) fs7 rfl) fs9 rfl) fs10 rfl) fs11 rfl) fs12 rfl) fs13 rfl) fs14 rfl)) 2 i rfl rfl) ((show aFr m_cIfA st s14 from (fr_tr (fr_tr (fr_tr (fr_tr (fr_tr (fr_tr (fr_tr (fr_rf _ _) fs7 rfl) fs9 rfl) fs10 rfl) fs11 rfl) fs12 rfl) fs13 rfl) fs14 rfl)) 1 1 rfl rfl) ((show aFr m_cIfA st s14 from (fr_tr (fr_tr (fr_tr (fr_tr (fr_tr (fr_tr (fr_tr (fr_rf _ _) fs7 rfl) fs9 rfl) fs10 rfl) fs11 rfl) fs12 rfl) fs13 rfl) fs14 rfl)) 148 2 rfl rfl)) ht_) (fun z => by have z1 := (tv_s hv_ 41).mp z; omega)⟩))⟩
            · refine ⟨fun h60 => ?_, fun h60 => (by exfalso; omega)⟩
              refine ⟨by omega, ?_⟩
              exact hQ _ _ ⟨gs14, (fr_tr (fr_tr (fr_tr (fr_tr (fr_tr (fr_tr (fr_tr (fr_rf _ _) fs7 rfl) fs9 rfl) fs10 rfl) fs11 rfl) fs12 rfl) fs13 rfl) fs14 rfl), (show ((0 : Int) = 1 ∧ ∃ c : List Int, GrS st 4 o (st 149 5) (s14 149 5) c ∧ RDc s14 ∧ CDA (st 122 16) (s14 122 16) (st 134) (s14 134) c) ∨ ((0 : Int) = 0 ∧ FlS st 4 o (st 149 5)) from Or.inr ⟨rfl, Fl_iff5 ((show tk (ctx st) (st 1 1) _ 1 (26982 : Int) _ from tkS_e (sT_of (fun i => (show aFr m_cIfA st st from (fr_rf _ _)) 2 i rfl rfl) ((show aFr m_cIfA st st from (fr_rf _ _)) 1 1 rfl rfl) ((show aFr m_cIfA st st from (fr_rf _ _)) 148 2 rfl rfl)) (nx_ow 19 rd ow nx7 (by omega) (by omega) rfl))) (tkS_e (sT_of (fun i => (show aFr m_cIfA st s7 from (fr_tr (fr_rf _ _) fs7 rfl)) 2 i rfl rfl) ((show aFr m_cIfA st s7 from (fr_tr (fr_rf _ _) fs7 rfl)) 1 1 rfl rfl) ((show aFr m_cIfA st s7 from (fr_tr (fr_rf _ _) fs7 rfl)) 148 2 rfl rfl)) (nx_sgx rd7 (fun i hi => ((show aFr m_cIfA st s7 from (fr_tr (fr_rf _ _) fs7 rfl)) 150 i rfl rfl).trans (ow i hi)) nx9 (by omega) (by omega))) (by omega) (GrS_e (sT_of (fun i => (show aFr m_cIfA st s9 from (fr_tr (fr_tr (fr_rf _ _) fs7 rfl) fs9 rfl)) 2 i rfl rfl) ((show aFr m_cIfA st s9 from (fr_tr (fr_tr (fr_rf _ _) fs7 rfl) fs9 rfl)) 1 1 rfl rfl) ((show aFr m_cIfA st s9 from (fr_tr (fr_tr (fr_rf _ _) fs7 rfl) fs9 rfl)) 148 2 rfl rfl)) g10) (tkS_e (sT_of (fun i => (show aFr m_cIfA st s10 from (fr_tr (fr_tr (fr_tr (fr_rf _ _) fs7 rfl) fs9 rfl) fs10 rfl)) 2 i rfl rfl) ((show aFr m_cIfA st s10 from (fr_tr (fr_tr (fr_tr (fr_rf _ _) fs7 rfl) fs9 rfl) fs10 rfl)) 1 1 rfl rfl) ((show aFr m_cIfA st s10 from (fr_tr (fr_tr (fr_tr (fr_rf _ _) fs7 rfl) fs9 rfl) fs10 rfl)) 148 2 rfl rfl)) (nx_sgx rd10 (fun i hi => ((show aFr m_cIfA st s10 from (fr_tr (fr_tr (fr_tr (fr_rf _ _) fs7 rfl) fs9 rfl) fs10 rfl)) 150 i rfl rfl).trans (ow i hi)) nx11 (by omega) (by omega))) (GrS_e (sT_of (fun i => (show aFr m_cIfA st s11 from (fr_tr (fr_tr (fr_tr (fr_tr (fr_rf _ _) fs7 rfl) fs9 rfl) fs10 rfl) fs11 rfl)) 2 i rfl rfl) ((show aFr m_cIfA st s11 from (fr_tr (fr_tr (fr_tr (fr_tr (fr_rf _ _) fs7 rfl) fs9 rfl) fs10 rfl) fs11 rfl)) 1 1 rfl rfl) ((show aFr m_cIfA st s11 from (fr_tr (fr_tr (fr_tr (fr_tr (fr_rf _ _) fs7 rfl) fs9 rfl) fs10 rfl) fs11 rfl)) 148 2 rfl rfl)) g12) (tkS_e (sT_of (fun i => (show aFr m_cIfA st s12 from (fr_tr (fr_tr (fr_tr (fr_tr (fr_tr (fr_rf _ _) fs7 rfl) fs9 rfl) fs10 rfl) fs11 rfl) fs12 rfl)) 2 i rfl rfl) ((show aFr m_cIfA st s12 from (fr_tr (fr_tr (fr_tr (fr_tr (fr_tr (fr_rf _ _) fs7 rfl) fs9 rfl) fs10 rfl) fs11 rfl) fs12 rfl)) 1 1 rfl rfl) ((show aFr m_cIfA st s12 from (fr_tr (fr_tr (fr_tr (fr_tr (fr_tr (fr_rf _ _) fs7 rfl) fs9 rfl) fs10 rfl) fs11 rfl) fs12 rfl)) 148 2 rfl rfl)) (nx_sgx rd12 (fun i hi => ((show aFr m_cIfA st s12 from (fr_tr (fr_tr (fr_tr (fr_tr (fr_tr (fr_rf _ _) fs7 rfl) fs9 rfl) fs10 rfl) fs11 rfl) fs12 rfl)) 150 i rfl rfl).trans (ow i hi)) nx13 (by omega) (by omega))) (FlS_e (sT_of (fun i => (show aFr m_cIfA st s13 from (fr_tr (fr_tr (fr_tr (fr_tr (fr_tr (fr_tr (fr_rf _ _) fs7 rfl) fs9 rfl) fs10 rfl) fs11 rfl) fs12 rfl) fs13 rfl)) 2 i rfl rfl) ((show aFr m_cIfA st s13 from (fr_tr (fr_tr (fr_tr (fr_tr (fr_tr (fr_tr (fr_rf _ _) fs7 rfl) fs9 rfl) fs10 rfl) fs11 rfl) fs12 rfl) fs13 rfl)) 1 1 rfl rfl) ((show aFr m_cIfA st s13 from (fr_tr (fr_tr (fr_tr (fr_tr (fr_tr (fr_tr (fr_rf _ _) fs7 rfl) fs9 rfl) fs10 rfl) fs11 rfl) fs12 rfl) fs13 rfl)) 148 2 rfl rfl)) l14)⟩)⟩
          · refine ⟨fun h61 => ?_, fun h61 => (by exfalso; omega)⟩
            refine ⟨by omega, ?_⟩
            have g62 := g_wStart gs13
            have e63 : s13 122 16 = s12 122 16 := fs13 122 16 rfl rfl
            exact hQ _ _ ⟨gs13, (fr_tr (fr_tr (fr_tr (fr_tr (fr_tr (fr_tr (fr_rf _ _) fs7 rfl) fs9 rfl) fs10 rfl) fs11 rfl) fs12 rfl) fs13 rfl), (show ((0 : Int) = 1 ∧ ∃ c : List Int, GrS st 4 o (st 149 5) (s13 149 5) c ∧ RDc s13 ∧ CDA (st 122 16) (s13 122 16) (st 134) (s13 134) c) ∨ ((0 : Int) = 0 ∧ FlS st 4 o (st 149 5)) from (by
            obtain ⟨tk_, tv_, te_, ht_, hv_⟩ := rd_tk rd12 (fun i hi => ((show aFr m_cIfA st s12 from (fr_tr (fr_tr (fr_tr (fr_tr (fr_tr (fr_rf _ _) fs7 rfl) fs9 rfl) fs10 rfl) fs11 rfl) fs12 rfl)) 150 i rfl rfl).trans (ow i hi))
            exact Or.inr ⟨rfl, Fl_iff4 ((show tk (ctx st) (st 1 1) _ 1 (26982 : Int) _ from tkS_e (sT_of (fun i => (show aFr m_cIfA st st from (fr_rf _ _)) 2 i rfl rfl) ((show aFr m_cIfA st st from (fr_rf _ _)) 1 1 rfl rfl) ((show aFr m_cIfA st st from (fr_rf _ _)) 148 2 rfl rfl)) (nx_ow 19 rd ow nx7 (by omega) (by omega) rfl))) (tkS_e (sT_of (fun i => (show aFr m_cIfA st s7 from (fr_tr (fr_rf _ _) fs7 rfl)) 2 i rfl rfl) ((show aFr m_cIfA st s7 from (fr_tr (fr_rf _ _) fs7 rfl)) 1 1 rfl rfl) ((show aFr m_cIfA st s7 from (fr_tr (fr_rf _ _) fs7 rfl)) 148 2 rfl rfl)) (nx_sgx rd7 (fun i hi => ((show aFr m_cIfA st s7 from (fr_tr (fr_rf _ _) fs7 rfl)) 150 i rfl rfl).trans (ow i hi)) nx9 (by omega) (by omega))) (by omega) (GrS_e (sT_of (fun i => (show aFr m_cIfA st s9 from (fr_tr (fr_tr (fr_rf _ _) fs7 rfl) fs9 rfl)) 2 i rfl rfl) ((show aFr m_cIfA st s9 from (fr_tr (fr_tr (fr_rf _ _) fs7 rfl) fs9 rfl)) 1 1 rfl rfl) ((show aFr m_cIfA st s9 from (fr_tr (fr_tr (fr_rf _ _) fs7 rfl) fs9 rfl)) 148 2 rfl rfl)) g10) (tkS_e (sT_of (fun i => (show aFr m_cIfA st s10 from (fr_tr (fr_tr (fr_tr (fr_rf _ _) fs7 rfl) fs9 rfl) fs10 rfl)) 2 i rfl rfl) ((show aFr m_cIfA st s10 from (fr_tr (fr_tr (fr_tr (fr_rf _ _) fs7 rfl) fs9 rfl) fs10 rfl)) 1 1 rfl rfl) ((show aFr m_cIfA st s10 from (fr_tr (fr_tr (fr_tr (fr_rf _ _) fs7 rfl) fs9 rfl) fs10 rfl)) 148 2 rfl rfl)) (nx_sgx rd10 (fun i hi => ((show aFr m_cIfA st s10 from (fr_tr (fr_tr (fr_tr (fr_rf _ _) fs7 rfl) fs9 rfl) fs10 rfl)) 150 i rfl rfl).trans (ow i hi)) nx11 (by omega) (by omega))) (GrS_e (sT_of (fun i => (show aFr m_cIfA st s11 from (fr_tr (fr_tr (fr_tr (fr_tr (fr_rf _ _) fs7 rfl) fs9 rfl) fs10 rfl) fs11 rfl)) 2 i rfl rfl) ((show aFr m_cIfA st s11 from (fr_tr (fr_tr (fr_tr (fr_tr (fr_rf _ _) fs7 rfl) fs9 rfl) fs10 rfl) fs11 rfl)) 1 1 rfl rfl) ((show aFr m_cIfA st s11 from (fr_tr (fr_tr (fr_tr (fr_tr (fr_rf _ _) fs7 rfl) fs9 rfl) fs10 rfl) fs11 rfl)) 148 2 rfl rfl)) g12) (tkS_e (sT_of (fun i => (show aFr m_cIfA st s12 from (fr_tr (fr_tr (fr_tr (fr_tr (fr_tr (fr_rf _ _) fs7 rfl) fs9 rfl) fs10 rfl) fs11 rfl) fs12 rfl)) 2 i rfl rfl) ((show aFr m_cIfA st s12 from (fr_tr (fr_tr (fr_tr (fr_tr (fr_tr (fr_rf _ _) fs7 rfl) fs9 rfl) fs10 rfl) fs11 rfl) fs12 rfl)) 1 1 rfl rfl) ((show aFr m_cIfA st s12 from (fr_tr (fr_tr (fr_tr (fr_tr (fr_tr (fr_rf _ _) fs7 rfl) fs9 rfl) fs10 rfl) fs11 rfl) fs12 rfl)) 148 2 rfl rfl)) ht_) (fun z => by have z1 := (tv_s hv_ 44).mp z; omega)⟩))⟩
        · refine ⟨fun h64 => ?_, fun h64 => (by exfalso; omega)⟩
          refine ⟨by omega, ?_⟩
          exact hQ _ _ ⟨gs12, (fr_tr (fr_tr (fr_tr (fr_tr (fr_tr (fr_rf _ _) fs7 rfl) fs9 rfl) fs10 rfl) fs11 rfl) fs12 rfl), (show ((0 : Int) = 1 ∧ ∃ c : List Int, GrS st 4 o (st 149 5) (s12 149 5) c ∧ RDc s12 ∧ CDA (st 122 16) (s12 122 16) (st 134) (s12 134) c) ∨ ((0 : Int) = 0 ∧ FlS st 4 o (st 149 5)) from Or.inr ⟨rfl, Fl_iff3 ((show tk (ctx st) (st 1 1) _ 1 (26982 : Int) _ from tkS_e (sT_of (fun i => (show aFr m_cIfA st st from (fr_rf _ _)) 2 i rfl rfl) ((show aFr m_cIfA st st from (fr_rf _ _)) 1 1 rfl rfl) ((show aFr m_cIfA st st from (fr_rf _ _)) 148 2 rfl rfl)) (nx_ow 19 rd ow nx7 (by omega) (by omega) rfl))) (tkS_e (sT_of (fun i => (show aFr m_cIfA st s7 from (fr_tr (fr_rf _ _) fs7 rfl)) 2 i rfl rfl) ((show aFr m_cIfA st s7 from (fr_tr (fr_rf _ _) fs7 rfl)) 1 1 rfl rfl) ((show aFr m_cIfA st s7 from (fr_tr (fr_rf _ _) fs7 rfl)) 148 2 rfl rfl)) (nx_sgx rd7 (fun i hi => ((show aFr m_cIfA st s7 from (fr_tr (fr_rf _ _) fs7 rfl)) 150 i rfl rfl).trans (ow i hi)) nx9 (by omega) (by omega))) (by omega) (GrS_e (sT_of (fun i => (show aFr m_cIfA st s9 from (fr_tr (fr_tr (fr_rf _ _) fs7 rfl) fs9 rfl)) 2 i rfl rfl) ((show aFr m_cIfA st s9 from (fr_tr (fr_tr (fr_rf _ _) fs7 rfl) fs9 rfl)) 1 1 rfl rfl) ((show aFr m_cIfA st s9 from (fr_tr (fr_tr (fr_rf _ _) fs7 rfl) fs9 rfl)) 148 2 rfl rfl)) g10) (tkS_e (sT_of (fun i => (show aFr m_cIfA st s10 from (fr_tr (fr_tr (fr_tr (fr_rf _ _) fs7 rfl) fs9 rfl) fs10 rfl)) 2 i rfl rfl) ((show aFr m_cIfA st s10 from (fr_tr (fr_tr (fr_tr (fr_rf _ _) fs7 rfl) fs9 rfl) fs10 rfl)) 1 1 rfl rfl) ((show aFr m_cIfA st s10 from (fr_tr (fr_tr (fr_tr (fr_rf _ _) fs7 rfl) fs9 rfl) fs10 rfl)) 148 2 rfl rfl)) (nx_sgx rd10 (fun i hi => ((show aFr m_cIfA st s10 from (fr_tr (fr_tr (fr_tr (fr_rf _ _) fs7 rfl) fs9 rfl) fs10 rfl)) 150 i rfl rfl).trans (ow i hi)) nx11 (by omega) (by omega))) (FlS_e (sT_of (fun i => (show aFr m_cIfA st s11 from (fr_tr (fr_tr (fr_tr (fr_tr (fr_rf _ _) fs7 rfl) fs9 rfl) fs10 rfl) fs11 rfl)) 2 i rfl rfl) ((show aFr m_cIfA st s11 from (fr_tr (fr_tr (fr_tr (fr_tr (fr_rf _ _) fs7 rfl) fs9 rfl) fs10 rfl) fs11 rfl)) 1 1 rfl rfl) ((show aFr m_cIfA st s11 from (fr_tr (fr_tr (fr_tr (fr_tr (fr_rf _ _) fs7 rfl) fs9 rfl) fs10 rfl) fs11 rfl)) 148 2 rfl rfl)) l12)⟩)⟩
      · refine ⟨fun h65 => (by exfalso; omega), fun h65 => ?_⟩
        refine ⟨by omega, ?_⟩
        have g66 := g_wStart gs11
        have e67 : s11 122 16 = s10 122 16 := fs11 122 16 rfl rfl
        exact hQ _ _ ⟨gs11, (fr_tr (fr_tr (fr_tr (fr_tr (fr_rf _ _) fs7 rfl) fs9 rfl) fs10 rfl) fs11 rfl), (show ((0 : Int) = 1 ∧ ∃ c : List Int, GrS st 4 o (st 149 5) (s11 149 5) c ∧ RDc s11 ∧ CDA (st 122 16) (s11 122 16) (st 134) (s11 134) c) ∨ ((0 : Int) = 0 ∧ FlS st 4 o (st 149 5)) from (by
            obtain ⟨tk_, tv_, te_, ht_, hv_⟩ := rd_tk rd10 (fun i hi => ((show aFr m_cIfA st s10 from (fr_tr (fr_tr (fr_tr (fr_rf _ _) fs7 rfl) fs9 rfl) fs10 rfl)) 150 i rfl rfl).trans (ow i hi))
            exact Or.inr ⟨rfl, Fl_iff2 ((show tk (ctx st) (st 1 1) _ 1 (26982 : Int) _ from tkS_e (sT_of (fun i => (show aFr m_cIfA st st from (fr_rf _ _)) 2 i rfl rfl) ((show aFr m_cIfA st st from (fr_rf _ _)) 1 1 rfl rfl) ((show aFr m_cIfA st st from (fr_rf _ _)) 148 2 rfl rfl)) (nx_ow 19 rd ow nx7 (by omega) (by omega) rfl))) (tkS_e (sT_of (fun i => (show aFr m_cIfA st s7 from (fr_tr (fr_rf _ _) fs7 rfl)) 2 i rfl rfl) ((show aFr m_cIfA st s7 from (fr_tr (fr_rf _ _) fs7 rfl)) 1 1 rfl rfl) ((show aFr m_cIfA st s7 from (fr_tr (fr_rf _ _) fs7 rfl)) 148 2 rfl rfl)) (nx_sgx rd7 (fun i hi => ((show aFr m_cIfA st s7 from (fr_tr (fr_rf _ _) fs7 rfl)) 150 i rfl rfl).trans (ow i hi)) nx9 (by omega) (by omega))) (by omega) (GrS_e (sT_of (fun i => (show aFr m_cIfA st s9 from (fr_tr (fr_tr (fr_rf _ _) fs7 rfl) fs9 rfl)) 2 i rfl rfl) ((show aFr m_cIfA st s9 from (fr_tr (fr_tr (fr_rf _ _) fs7 rfl) fs9 rfl)) 1 1 rfl rfl) ((show aFr m_cIfA st s9 from (fr_tr (fr_tr (fr_rf _ _) fs7 rfl) fs9 rfl)) 148 2 rfl rfl)) g10) (tkS_e (sT_of (fun i => (show aFr m_cIfA st s10 from (fr_tr (fr_tr (fr_tr (fr_rf _ _) fs7 rfl) fs9 rfl) fs10 rfl)) 2 i rfl rfl) ((show aFr m_cIfA st s10 from (fr_tr (fr_tr (fr_tr (fr_rf _ _) fs7 rfl) fs9 rfl) fs10 rfl)) 1 1 rfl rfl) ((show aFr m_cIfA st s10 from (fr_tr (fr_tr (fr_tr (fr_rf _ _) fs7 rfl) fs9 rfl) fs10 rfl)) 148 2 rfl rfl)) ht_) (fun z => by have z1 := (tv_s hv_ 44).mp z; omega)⟩))⟩
    · refine ⟨fun h68 => ?_, fun h68 => (by exfalso; omega)⟩
      refine ⟨by omega, ?_⟩
      exact hQ _ _ ⟨gs10, (fr_tr (fr_tr (fr_tr (fr_rf _ _) fs7 rfl) fs9 rfl) fs10 rfl), (show ((0 : Int) = 1 ∧ ∃ c : List Int, GrS st 4 o (st 149 5) (s10 149 5) c ∧ RDc s10 ∧ CDA (st 122 16) (s10 122 16) (st 134) (s10 134) c) ∨ ((0 : Int) = 0 ∧ FlS st 4 o (st 149 5)) from Or.inr ⟨rfl, Fl_iff1 ((show tk (ctx st) (st 1 1) _ 1 (26982 : Int) _ from tkS_e (sT_of (fun i => (show aFr m_cIfA st st from (fr_rf _ _)) 2 i rfl rfl) ((show aFr m_cIfA st st from (fr_rf _ _)) 1 1 rfl rfl) ((show aFr m_cIfA st st from (fr_rf _ _)) 148 2 rfl rfl)) (nx_ow 19 rd ow nx7 (by omega) (by omega) rfl))) (tkS_e (sT_of (fun i => (show aFr m_cIfA st s7 from (fr_tr (fr_rf _ _) fs7 rfl)) 2 i rfl rfl) ((show aFr m_cIfA st s7 from (fr_tr (fr_rf _ _) fs7 rfl)) 1 1 rfl rfl) ((show aFr m_cIfA st s7 from (fr_tr (fr_rf _ _) fs7 rfl)) 148 2 rfl rfl)) (nx_sgx rd7 (fun i hi => ((show aFr m_cIfA st s7 from (fr_tr (fr_rf _ _) fs7 rfl)) 150 i rfl rfl).trans (ow i hi)) nx9 (by omega) (by omega))) (by omega) (FlS_e (sT_of (fun i => (show aFr m_cIfA st s9 from (fr_tr (fr_tr (fr_rf _ _) fs7 rfl) fs9 rfl)) 2 i rfl rfl) ((show aFr m_cIfA st s9 from (fr_tr (fr_tr (fr_rf _ _) fs7 rfl) fs9 rfl)) 1 1 rfl rfl) ((show aFr m_cIfA st s9 from (fr_tr (fr_tr (fr_rf _ _) fs7 rfl) fs9 rfl)) 148 2 rfl rfl)) l10)⟩)⟩
  · refine ⟨fun h69 => ?_, fun h69 => (by exfalso; omega)⟩
    refine ⟨by omega, ?_⟩
    have g70 := g_wStart gs9
    have e72 : s7 122 16 = st 122 16 := fs7 122 16 rfl rfl
    have e71 : s9 122 16 = s7 122 16 := fs9 122 16 rfl rfl
    exact hQ _ _ ⟨gs9, (fr_tr (fr_tr (fr_rf _ _) fs7 rfl) fs9 rfl), (show ((0 : Int) = 1 ∧ ∃ c : List Int, GrS st 4 o (st 149 5) (s9 149 5) c ∧ RDc s9 ∧ CDA (st 122 16) (s9 122 16) (st 134) (s9 134) c) ∨ ((0 : Int) = 0 ∧ FlS st 4 o (st 149 5)) from (by
            obtain ⟨tk_, tv_, te_, ht_, hv_⟩ := rd_tk rd7 (fun i hi => ((show aFr m_cIfA st s7 from (fr_tr (fr_rf _ _) fs7 rfl)) 150 i rfl rfl).trans (ow i hi))
            have z1 := tv_s hv_ 40
            exact Or.inr ⟨rfl, Fl_two0 ((show tk (ctx st) (st 1 1) _ 1 (26982 : Int) _ from tkS_e (sT_of (fun i => (show aFr m_cIfA st st from (fr_rf _ _)) 2 i rfl rfl) ((show aFr m_cIfA st st from (fr_rf _ _)) 1 1 rfl rfl) ((show aFr m_cIfA st st from (fr_rf _ _)) 148 2 rfl rfl)) (nx_ow 19 rd ow nx7 (by omega) (by omega) rfl))) (by omega) (tkS_e (sT_of (fun i => (show aFr m_cIfA st s7 from (fr_tr (fr_rf _ _) fs7 rfl)) 2 i rfl rfl) ((show aFr m_cIfA st s7 from (fr_tr (fr_rf _ _) fs7 rfl)) 1 1 rfl rfl) ((show aFr m_cIfA st s7 from (fr_tr (fr_rf _ _) fs7 rfl)) 148 2 rfl rfl)) ht_) (by omega)⟩))⟩
theorem k_cIfA_m (hTb : aTb zSh rx_tb cl) {m : Nat} (hB : BNDA cl m) {D : Nat} (hD : m + 21 ≤ D) : ∀ as st (Q Q' : zQ), (∀ r st', Q r st' → Q' r st') → k_cIfA (m + 1) 258 as st Q → cl D 258 as st Q' := by
  intro as st Q Q' hQ h
  unfold k_cIfA at h
  split at h
  · obtain ⟨rfl, h⟩ := h
    exact c_cIfA hTb hB hD (ct_cIfA_m hQ h)
  · exact h.elim
set_option maxHeartbeats 4000000 in
set_option maxRecDepth 100000 in
theorem c_cCompA (hTb : aTb zSh rx_tb cl) {m : Nat} (hB : BNDA cl m) {D : Nat} (hD : m + 21 ≤ D) {o : Int} {st : zS} {Q : zQ} (h : ct_cCompA (m + 1) o st Q) : cl D 262 [.inr (.inr (.inl 148)), .inl o] st Q := by
  obtain ⟨d, rfl⟩ : ∃ d, D = d + 1 := ⟨D - 1, by omega⟩
  refine hTb d 262 (rx_m262, 3, 0, 0, 2) rfl _ _ _ (Nat.le_of_ble_eq_true rfl) (fun K hcl hsf hsl => ?_)
  have hcm : zmo (wcL [(253, k_cSumA m), (302, k_cIsSign), (236, k_cUnfit), (143, k_cNext), (282, k_cAddCodeA)]) (cl d) := (wcL_m (wm_cons ((hB d (by omega)).2.2.2.2.1) (wm_cons (k_cIsSign_m hTb (by omega)) (wm_cons (k_cUnfit_m hTb (by omega)) (wm_cons (k_cNext_m hTb (by omega)) (wm_cons (k_cAddCodeA_m hTb (by omega)) wm_nil))))))
  obtain ⟨hR, hQ⟩ := h
  obtain ⟨hG, rd, ow, tw, cb, dd, oo⟩ := hR
  change RDc st at rd
  change cOW st at ow
  change st 148 1 = 122 at tw
  change st 122 16 + 1 ≤ st 149 5 at cb
  change 0 ≤ o ∧ o ≤ 7 at oo
  have rb := rd.1
  have g1 := g_f148_1 hG
  have g2 := g_f122_16 hG
  have g3 := g_wStart hG
  have g4 := g_wKind hG
  have g5 := g_wValue hG
  have g6 := g_tsize hG
  refine dr1_ok (Rt := Q) (wc := (wcL [(253, k_cSumA m), (302, k_cIsSign), (236, k_cUnfit), (143, k_cNext), (282, k_cAddCodeA)])) (stp := []) hcm hcl [(77, 122)] [] 64 ?_
  show (148 = 148 ∧ (rq_cSumA m o st ∧ (∀ (r7 : Int) (s7 : zS), en_cSumA m o st r7 s7 → ((¬ r7 = (0 : Int) → (149 = 149 ∧ (∀ (r8 : Int), en_cIsSign (60) s7 r8 → ((¬ r8 = (0 : Int) → (149 = 149 ∧ (rq_cNext  s7 ∧ (∀ (s9 : zS), en_cNext  s7 s9 → (148 = 148 ∧ (rq_cSumA m o s9 ∧ (∀ (r10 : Int) (s10 : zS), en_cSumA m o s9 r10 s10 → ((¬ r10 = (0 : Int) → ((s10 148 1 = (122 : Int)) ∧ (122 = 122 ∧ (rq_cAddCodeA (s7 149 4) (0) s10 ∧ (∀ (s11 : zS), en_cAddCodeA (s7 149 4) (0) s10 s11 → ((1 = (0 : Int) ∨ 1 = (1 : Int)) ∧ Q (some (.inl 1)) s11)))))) ∧ (¬ (¬ r10 = (0 : Int)) → ((0 = (0 : Int) ∨ 0 = (1 : Int)) ∧ Q (some (.inl 0)) s10)))))))))) ∧ (¬ (¬ r8 = (0 : Int)) → (149 = 149 ∧ (∀ (r12 : Int), en_cIsSign (62) s7 r12 → ((¬ r12 = (0 : Int) → (149 = 149 ∧ (rq_cNext  s7 ∧ (∀ (s13 : zS), en_cNext  s7 s13 → (148 = 148 ∧ (rq_cSumA m o s13 ∧ (∀ (r14 : Int) (s14 : zS), en_cSumA m o s13 r14 s14 → ((¬ r14 = (0 : Int) → ((s14 148 1 = (122 : Int)) ∧ (122 = 122 ∧ (rq_cAddCodeA (s7 149 4) (0) s14 ∧ (∀ (s15 : zS), en_cAddCodeA (s7 149 4) (0) s14 s15 → ((1 = (0 : Int) ∨ 1 = (1 : Int)) ∧ Q (some (.inl 1)) s15)))))) ∧ (¬ (¬ r14 = (0 : Int)) → ((0 = (0 : Int) ∨ 0 = (1 : Int)) ∧ Q (some (.inl 0)) s14)))))))))) ∧ (¬ (¬ r12 = (0 : Int)) → (149 = 149 ∧ (∀ (r16 : Int), en_cIsSign (61) s7 r16 → ((¬ r16 = (0 : Int) → (149 = 149 ∧ (rq_cNext  s7 ∧ (∀ (s17 : zS), en_cNext  s7 s17 → (148 = 148 ∧ (rq_cSumA m o s17 ∧ (∀ (r18 : Int) (s18 : zS), en_cSumA m o s17 r18 s18 → ((¬ r18 = (0 : Int) → ((s18 148 1 = (122 : Int)) ∧ (122 = 122 ∧ (rq_cAddCodeA (s7 149 4) (0) s18 ∧ (∀ (s19 : zS), en_cAddCodeA (s7 149 4) (0) s18 s19 → ((1 = (0 : Int) ∨ 1 = (1 : Int)) ∧ Q (some (.inl 1)) s19)))))) ∧ (¬ (¬ r18 = (0 : Int)) → ((0 = (0 : Int) ∨ 0 = (1 : Int)) ∧ Q (some (.inl 0)) s18)))))))))) ∧ (¬ (¬ r16 = (0 : Int)) → (148 = 148 ∧ (rq_cUnfit  s7 ∧ (((0 = (0 : Int) ∨ 0 = (1 : Int)) ∧ Q (some (.inl 0)) (zup (zup s7 148 3 1) 148 4 (s7 149 6))))))))))))))))))) ∧ (¬ (¬ r7 = (0 : Int)) → ((0 = (0 : Int) ∨ 0 = (1 : Int)) ∧ Q (some (.inl 0)) s7))))))
  refine ⟨rfl, ⟨hG, (show RDc st from rd), (show cOW st from ow), (show st 148 1 = 122 from by omega), (show st 122 16 + 1 ≤ st 149 5 from by omega), (show 4 + 12 * (7 - o) ≤ (m : Int) from by omega), (show 0 ≤ o ∧ o ≤ 7 from by omega)⟩, fun r7 s7 q7 => ?_⟩
  obtain ⟨gs7, fs7, o7⟩ := q7
  change (r7 = 1 ∧ ∃ c : List Int, GrS st 0 o (st 149 5) (s7 149 5) c ∧ RDc s7 ∧ CDA (st 122 16) (s7 122 16) (st 134) (s7 134) c) ∨ (r7 = 0 ∧ FlS st 0 o (st 149 5)) at o7
  have g21 := g_wStart gs7
  have g22 := g_f122_16 gs7
  rcases o7 with ⟨y7, c7, g7, rd7, cd7⟩ | ⟨y7, l7⟩
  · have gl7 := Gr_len g7 rd.1.1
    have cn7 := cd7.2.1
    have rb7 := rd7.1
    have rt7 := g_tsize gs7
    refine ⟨fun h23 => ?_, fun h23 => (by exfalso; omega)⟩
    refine ⟨rfl, fun r8 q8 => ?_⟩
    have b8 := q8
    change (r8 = 0 ∨ r8 = 1) ∧ (r8 = 1 ↔ s7 149 3 = 4 ∧ s7 149 4 = (60)) at b8
    have g24 := g_wKind gs7
    have g25 := g_wValue gs7
    refine ⟨fun h26 => ?_, fun h26 => ?_⟩
    · refine ⟨rfl, ⟨gs7, (show RDc s7 from rd7), (show 1 ≤ s7 149 3 ∧ s7 149 3 ≤ 4 from by omega)⟩, fun s9 q9 => ?_⟩
      obtain ⟨gs9, fs9, rd9, nx9⟩ := q9
      change RDc s9 at rd9
      change NX s7 s9 at nx9
      have e28 : s7 148 1 = st 148 1 := fs7 148 1 rfl rfl
      have e27 : s9 148 1 = s7 148 1 := fs9 148 1 rfl rfl
      have e29 : s9 122 16 = s7 122 16 := fs9 122 16 rfl rfl
      have g30 := g_wStart gs9
      refine ⟨rfl, ⟨gs9, (show RDc s9 from rd9), (show cOW s9 from (fun i hi => ((show aFr m_cCompA st s9 from (fr_tr (fr_tr (fr_rf _ _) fs7 rfl) fs9 rfl)) 150 i rfl rfl).trans (ow i hi))), (show s9 148 1 = 122 from by omega), (show s9 122 16 + 1 ≤ s9 149 5 from by have zt9 := tk_lt (nx_sig rd7 (fun i hi => ((show aFr m_cCompA st s7 from (fr_tr (fr_rf _ _) fs7 rfl)) 150 i rfl rfl).trans (ow i hi)) nx9 (by omega)) rd7.1.1 (by omega); omega), (show 4 + 12 * (7 - o) ≤ (m : Int) from by omega), (show 0 ≤ o ∧ o ≤ 7 from by omega)⟩, fun r10 s10 q10 => ?_⟩
      obtain ⟨gs10, fs10, o10⟩ := q10
      change (r10 = 1 ∧ ∃ c : List Int, GrS s9 0 o (s9 149 5) (s10 149 5) c ∧ RDc s10 ∧ CDA (s9 122 16) (s10 122 16) (s9 134) (s10 134) c) ∨ (r10 = 0 ∧ FlS s9 0 o (s9 149 5)) at o10
      have g31 := g_wStart gs10
      have g32 := g_f122_16 gs10
      rcases o10 with ⟨y10, c10, g10, rd10, cd10⟩ | ⟨y10, l10⟩
      · have gl10 := Gr_len g10 rd9.1.1
        have cn10 := cd10.2.1
        have rb10 := rd10.1
        have rt10 := g_tsize gs10
        refine ⟨fun h33 => ?_, fun h33 => (by exfalso; omega)⟩
        have e34 : s10 148 1 = s9 148 1 := fs10 148 1 rfl rfl
        refine ⟨by omega, ?_⟩
        refine ⟨rfl, ⟨gs10, (show (0 ≤ (s7 149 4) ∧ (s7 149 4) ≤ 255) ∧ 0 ≤ (0) ∧ (0) ≤ 9999 from by omega), (show s10 122 16 ≤ 1599 from by have zt9 := tk_lt (nx_sig rd7 (fun i hi => ((show aFr m_cCompA st s7 from (fr_tr (fr_rf _ _) fs7 rfl)) 150 i rfl rfl).trans (ow i hi)) nx9 (by omega)) rd7.1.1 (by omega); omega)⟩, fun s11 q11 => ?_⟩
        obtain ⟨gs11, fs11, cc11, cf11⟩ := q11
        change s11 122 16 = s10 122 16 + 1 at cc11
        have g35 := g_f122_16 gs11
        change (s11 134) = up1 (s10 134) (s10 122 16).toNat (65536 * (s7 149 4) + (0)) at cf11
        refine ⟨by omega, ?_⟩
        have e36 : s11 149 5 = s10 149 5 := fs11 149 5 rfl rfl
        exact hQ _ _ ⟨gs11, (fr_tr (fr_tr (fr_tr (fr_tr (fr_rf _ _) fs7 rfl) fs9 rfl) fs10 rfl) fs11 rfl), (show ((1 : Int) = 1 ∧ ∃ c : List Int, GrS st 10 o (st 149 5) (s11 149 5) c ∧ RDc s11 ∧ CDA (st 122 16) (s11 122 16) (st 134) (s11 134) c) ∨ ((1 : Int) = 0 ∧ FlS st 10 o (st 149 5)) from (by rw [show s11 149 5 = s10 149 5 from fs11 149 5 rfl rfl]; exact Or.inl ⟨rfl, c7 ++ (c10 ++ [sop (s7 149 4)]), Gr_cmp (GrS_e (sT_of (fun i => (show aFr m_cCompA st st from (fr_rf _ _)) 2 i rfl rfl) ((show aFr m_cCompA st st from (fr_rf _ _)) 1 1 rfl rfl) ((show aFr m_cCompA st st from (fr_rf _ _)) 148 2 rfl rfl)) g7) (tkS_e (sT_of (fun i => (show aFr m_cCompA st s7 from (fr_tr (fr_rf _ _) fs7 rfl)) 2 i rfl rfl) ((show aFr m_cCompA st s7 from (fr_tr (fr_rf _ _) fs7 rfl)) 1 1 rfl rfl) ((show aFr m_cCompA st s7 from (fr_tr (fr_rf _ _) fs7 rfl)) 148 2 rfl rfl)) (nx_sig rd7 (fun i hi => ((show aFr m_cCompA st s7 from (fr_tr (fr_rf _ _) fs7 rfl)) 150 i rfl rfl).trans (ow i hi)) nx9 (by omega))) (by omega) (GrS_e (sT_of (fun i => (show aFr m_cCompA st s9 from (fr_tr (fr_tr (fr_rf _ _) fs7 rfl) fs9 rfl)) 2 i rfl rfl) ((show aFr m_cCompA st s9 from (fr_tr (fr_tr (fr_rf _ _) fs7 rfl) fs9 rfl)) 1 1 rfl rfl) ((show aFr m_cCompA st s9 from (fr_tr (fr_tr (fr_rf _ _) fs7 rfl) fs9 rfl)) 148 2 rfl rfl)) g10), (RDc_of (fun i => fs11 2 i rfl rfl) (fs11 1 1 rfl rfl) (fs11 149 2 rfl rfl) (fs11 149 3 rfl rfl) (fs11 149 4 rfl rfl) (fs11 149 5 rfl rfl) (fun i => fs11 150 i rfl rfl) rd10), CDA_c (CDA_tr (CDA_tr (CDA_f (CDA_tr (CDA_nil (st 134) (g_f122_16 hG).1) cd7) (fs9 122 16 rfl rfl) (funext (fun i => fs9 134 i rfl rfl))) cd10) (CDA_one (y := sop (s7 149 4)) (g_f122_16 gs10).1 cc11 cf11 (cenc_c (by omega)))) (by simp only [List.nil_append, List.append_assoc, List.cons_append, List.append_nil])⟩))⟩
      · refine ⟨fun h37 => (by exfalso; omega), fun h37 => ?_⟩
        refine ⟨by omega, ?_⟩
        exact hQ _ _ ⟨gs10, (fr_tr (fr_tr (fr_tr (fr_rf _ _) fs7 rfl) fs9 rfl) fs10 rfl), (show ((0 : Int) = 1 ∧ ∃ c : List Int, GrS st 10 o (st 149 5) (s10 149 5) c ∧ RDc s10 ∧ CDA (st 122 16) (s10 122 16) (st 134) (s10 134) c) ∨ ((0 : Int) = 0 ∧ FlS st 10 o (st 149 5)) from Or.inr ⟨rfl, Fl_cmp3 (GrS_e (sT_of (fun i => (show aFr m_cCompA st st from (fr_rf _ _)) 2 i rfl rfl) ((show aFr m_cCompA st st from (fr_rf _ _)) 1 1 rfl rfl) ((show aFr m_cCompA st st from (fr_rf _ _)) 148 2 rfl rfl)) g7) (tkS_e (sT_of (fun i => (show aFr m_cCompA st s7 from (fr_tr (fr_rf _ _) fs7 rfl)) 2 i rfl rfl) ((show aFr m_cCompA st s7 from (fr_tr (fr_rf _ _) fs7 rfl)) 1 1 rfl rfl) ((show aFr m_cCompA st s7 from (fr_tr (fr_rf _ _) fs7 rfl)) 148 2 rfl rfl)) (nx_sig rd7 (fun i hi => ((show aFr m_cCompA st s7 from (fr_tr (fr_rf _ _) fs7 rfl)) 150 i rfl rfl).trans (ow i hi)) nx9 (by omega))) (by omega) (FlS_e (sT_of (fun i => (show aFr m_cCompA st s9 from (fr_tr (fr_tr (fr_rf _ _) fs7 rfl) fs9 rfl)) 2 i rfl rfl) ((show aFr m_cCompA st s9 from (fr_tr (fr_tr (fr_rf _ _) fs7 rfl) fs9 rfl)) 1 1 rfl rfl) ((show aFr m_cCompA st s9 from (fr_tr (fr_tr (fr_rf _ _) fs7 rfl) fs9 rfl)) 148 2 rfl rfl)) l10)⟩)⟩
    · refine ⟨rfl, fun r12 q12 => ?_⟩
      have b12 := q12
      change (r12 = 0 ∨ r12 = 1) ∧ (r12 = 1 ↔ s7 149 3 = 4 ∧ s7 149 4 = (62)) at b12
      refine ⟨fun h38 => ?_, fun h38 => ?_⟩
      · refine ⟨rfl, ⟨gs7, (show RDc s7 from rd7), (show 1 ≤ s7 149 3 ∧ s7 149 3 ≤ 4 from by omega)⟩, fun s13 q13 => ?_⟩
        obtain ⟨gs13, fs13, rd13, nx13⟩ := q13
        change RDc s13 at rd13
        change NX s7 s13 at nx13
        have e40 : s7 148 1 = st 148 1 := fs7 148 1 rfl rfl
        have e39 : s13 148 1 = s7 148 1 := fs13 148 1 rfl rfl
        have e41 : s13 122 16 = s7 122 16 := fs13 122 16 rfl rfl
        have g42 := g_wStart gs13
        refine ⟨rfl, ⟨gs13, (show RDc s13 from rd13), (show cOW s13 from (fun i hi => ((show aFr m_cCompA st s13 from (fr_tr (fr_tr (fr_rf _ _) fs7 rfl) fs13 rfl)) 150 i rfl rfl).trans (ow i hi))), (show s13 148 1 = 122 from by omega), (show s13 122 16 + 1 ≤ s13 149 5 from by have zt13 := tk_lt (nx_sig rd7 (fun i hi => ((show aFr m_cCompA st s7 from (fr_tr (fr_rf _ _) fs7 rfl)) 150 i rfl rfl).trans (ow i hi)) nx13 (by omega)) rd7.1.1 (by omega); omega), (show 4 + 12 * (7 - o) ≤ (m : Int) from by omega), (show 0 ≤ o ∧ o ≤ 7 from by omega)⟩, fun r14 s14 q14 => ?_⟩
        obtain ⟨gs14, fs14, o14⟩ := q14
        change (r14 = 1 ∧ ∃ c : List Int, GrS s13 0 o (s13 149 5) (s14 149 5) c ∧ RDc s14 ∧ CDA (s13 122 16) (s14 122 16) (s13 134) (s14 134) c) ∨ (r14 = 0 ∧ FlS s13 0 o (s13 149 5)) at o14
        have g43 := g_wStart gs14
        have g44 := g_f122_16 gs14
        rcases o14 with ⟨y14, c14, g14, rd14, cd14⟩ | ⟨y14, l14⟩
        · have gl14 := Gr_len g14 rd13.1.1
          have cn14 := cd14.2.1
          have rb14 := rd14.1
          have rt14 := g_tsize gs14
          refine ⟨fun h45 => ?_, fun h45 => (by exfalso; omega)⟩
          have e46 : s14 148 1 = s13 148 1 := fs14 148 1 rfl rfl
          refine ⟨by omega, ?_⟩
          refine ⟨rfl, ⟨gs14, (show (0 ≤ (s7 149 4) ∧ (s7 149 4) ≤ 255) ∧ 0 ≤ (0) ∧ (0) ≤ 9999 from by omega), (show s14 122 16 ≤ 1599 from by have zt13 := tk_lt (nx_sig rd7 (fun i hi => ((show aFr m_cCompA st s7 from (fr_tr (fr_rf _ _) fs7 rfl)) 150 i rfl rfl).trans (ow i hi)) nx13 (by omega)) rd7.1.1 (by omega); omega)⟩, fun s15 q15 => ?_⟩
          obtain ⟨gs15, fs15, cc15, cf15⟩ := q15
          change s15 122 16 = s14 122 16 + 1 at cc15
          have g47 := g_f122_16 gs15
          change (s15 134) = up1 (s14 134) (s14 122 16).toNat (65536 * (s7 149 4) + (0)) at cf15
          refine ⟨by omega, ?_⟩
          have e48 : s15 149 5 = s14 149 5 := fs15 149 5 rfl rfl
          exact hQ _ _ ⟨gs15, (fr_tr (fr_tr (fr_tr (fr_tr (fr_rf _ _) fs7 rfl) fs13 rfl) fs14 rfl) fs15 rfl), (show ((1 : Int) = 1 ∧ ∃ c : List Int, GrS st 10 o (st 149 5) (s15 149 5) c ∧ RDc s15 ∧ CDA (st 122 16) (s15 122 16) (st 134) (s15 134) c) ∨ ((1 : Int) = 0 ∧ FlS st 10 o (st 149 5)) from (by rw [show s15 149 5 = s14 149 5 from fs15 149 5 rfl rfl]; exact Or.inl ⟨rfl, c7 ++ (c14 ++ [sop (s7 149 4)]), Gr_cmp (GrS_e (sT_of (fun i => (show aFr m_cCompA st st from (fr_rf _ _)) 2 i rfl rfl) ((show aFr m_cCompA st st from (fr_rf _ _)) 1 1 rfl rfl) ((show aFr m_cCompA st st from (fr_rf _ _)) 148 2 rfl rfl)) g7) (tkS_e (sT_of (fun i => (show aFr m_cCompA st s7 from (fr_tr (fr_rf _ _) fs7 rfl)) 2 i rfl rfl) ((show aFr m_cCompA st s7 from (fr_tr (fr_rf _ _) fs7 rfl)) 1 1 rfl rfl) ((show aFr m_cCompA st s7 from (fr_tr (fr_rf _ _) fs7 rfl)) 148 2 rfl rfl)) (nx_sig rd7 (fun i hi => ((show aFr m_cCompA st s7 from (fr_tr (fr_rf _ _) fs7 rfl)) 150 i rfl rfl).trans (ow i hi)) nx13 (by omega))) (by omega) (GrS_e (sT_of (fun i => (show aFr m_cCompA st s13 from (fr_tr (fr_tr (fr_rf _ _) fs7 rfl) fs13 rfl)) 2 i rfl rfl) ((show aFr m_cCompA st s13 from (fr_tr (fr_tr (fr_rf _ _) fs7 rfl) fs13 rfl)) 1 1 rfl rfl) ((show aFr m_cCompA st s13 from (fr_tr (fr_tr (fr_rf _ _) fs7 rfl) fs13 rfl)) 148 2 rfl rfl)) g14), (RDc_of (fun i => fs15 2 i rfl rfl) (fs15 1 1 rfl rfl) (fs15 149 2 rfl rfl) (fs15 149 3 rfl rfl) (fs15 149 4 rfl rfl) (fs15 149 5 rfl rfl) (fun i => fs15 150 i rfl rfl) rd14), CDA_c (CDA_tr (CDA_tr (CDA_f (CDA_tr (CDA_nil (st 134) (g_f122_16 hG).1) cd7) (fs13 122 16 rfl rfl) (funext (fun i => fs13 134 i rfl rfl))) cd14) (CDA_one (y := sop (s7 149 4)) (g_f122_16 gs14).1 cc15 cf15 (cenc_c (by omega)))) (by simp only [List.nil_append, List.append_assoc, List.cons_append, List.append_nil])⟩))⟩
        · refine ⟨fun h49 => (by exfalso; omega), fun h49 => ?_⟩
          refine ⟨by omega, ?_⟩
          exact hQ _ _ ⟨gs14, (fr_tr (fr_tr (fr_tr (fr_rf _ _) fs7 rfl) fs13 rfl) fs14 rfl), (show ((0 : Int) = 1 ∧ ∃ c : List Int, GrS st 10 o (st 149 5) (s14 149 5) c ∧ RDc s14 ∧ CDA (st 122 16) (s14 122 16) (st 134) (s14 134) c) ∨ ((0 : Int) = 0 ∧ FlS st 10 o (st 149 5)) from Or.inr ⟨rfl, Fl_cmp3 (GrS_e (sT_of (fun i => (show aFr m_cCompA st st from (fr_rf _ _)) 2 i rfl rfl) ((show aFr m_cCompA st st from (fr_rf _ _)) 1 1 rfl rfl) ((show aFr m_cCompA st st from (fr_rf _ _)) 148 2 rfl rfl)) g7) (tkS_e (sT_of (fun i => (show aFr m_cCompA st s7 from (fr_tr (fr_rf _ _) fs7 rfl)) 2 i rfl rfl) ((show aFr m_cCompA st s7 from (fr_tr (fr_rf _ _) fs7 rfl)) 1 1 rfl rfl) ((show aFr m_cCompA st s7 from (fr_tr (fr_rf _ _) fs7 rfl)) 148 2 rfl rfl)) (nx_sig rd7 (fun i hi => ((show aFr m_cCompA st s7 from (fr_tr (fr_rf _ _) fs7 rfl)) 150 i rfl rfl).trans (ow i hi)) nx13 (by omega))) (by omega) (FlS_e (sT_of (fun i => (show aFr m_cCompA st s13 from (fr_tr (fr_tr (fr_rf _ _) fs7 rfl) fs13 rfl)) 2 i rfl rfl) ((show aFr m_cCompA st s13 from (fr_tr (fr_tr (fr_rf _ _) fs7 rfl) fs13 rfl)) 1 1 rfl rfl) ((show aFr m_cCompA st s13 from (fr_tr (fr_tr (fr_rf _ _) fs7 rfl) fs13 rfl)) 148 2 rfl rfl)) l14)⟩)⟩
      · refine ⟨rfl, fun r16 q16 => ?_⟩
        have b16 := q16
        change (r16 = 0 ∨ r16 = 1) ∧ (r16 = 1 ↔ s7 149 3 = 4 ∧ s7 149 4 = (61)) at b16
        refine ⟨fun h50 => ?_, fun h50 => ?_⟩
        · refine ⟨rfl, ⟨gs7, (show RDc s7 from rd7), (show 1 ≤ s7 149 3 ∧ s7 149 3 ≤ 4 from by omega)⟩, fun s17 q17 => ?_⟩
          obtain ⟨gs17, fs17, rd17, nx17⟩ := q17
          change RDc s17 at rd17
          change NX s7 s17 at nx17
          have e52 : s7 148 1 = st 148 1 := fs7 148 1 rfl rfl
          have e51 : s17 148 1 = s7 148 1 := fs17 148 1 rfl rfl
          have e53 : s17 122 16 = s7 122 16 := fs17 122 16 rfl rfl
          have g54 := g_wStart gs17
          refine ⟨rfl, ⟨gs17, (show RDc s17 from rd17), (show cOW s17 from (fun i hi => ((show aFr m_cCompA st s17 from (fr_tr (fr_tr (fr_rf _ _) fs7 rfl) fs17 rfl)) 150 i rfl rfl).trans (ow i hi))), (show s17 148 1 = 122 from by omega), (show s17 122 16 + 1 ≤ s17 149 5 from by have zt17 := tk_lt (nx_sig rd7 (fun i hi => ((show aFr m_cCompA st s7 from (fr_tr (fr_rf _ _) fs7 rfl)) 150 i rfl rfl).trans (ow i hi)) nx17 (by omega)) rd7.1.1 (by omega); omega), (show 4 + 12 * (7 - o) ≤ (m : Int) from by omega), (show 0 ≤ o ∧ o ≤ 7 from by omega)⟩, fun r18 s18 q18 => ?_⟩
          obtain ⟨gs18, fs18, o18⟩ := q18
          change (r18 = 1 ∧ ∃ c : List Int, GrS s17 0 o (s17 149 5) (s18 149 5) c ∧ RDc s18 ∧ CDA (s17 122 16) (s18 122 16) (s17 134) (s18 134) c) ∨ (r18 = 0 ∧ FlS s17 0 o (s17 149 5)) at o18
          have g55 := g_wStart gs18
          have g56 := g_f122_16 gs18
          rcases o18 with ⟨y18, c18, g18, rd18, cd18⟩ | ⟨y18, l18⟩
          · have gl18 := Gr_len g18 rd17.1.1
            have cn18 := cd18.2.1
            have rb18 := rd18.1
            have rt18 := g_tsize gs18
            refine ⟨fun h57 => ?_, fun h57 => (by exfalso; omega)⟩
            have e58 : s18 148 1 = s17 148 1 := fs18 148 1 rfl rfl
            refine ⟨by omega, ?_⟩
            refine ⟨rfl, ⟨gs18, (show (0 ≤ (s7 149 4) ∧ (s7 149 4) ≤ 255) ∧ 0 ≤ (0) ∧ (0) ≤ 9999 from by omega), (show s18 122 16 ≤ 1599 from by have zt17 := tk_lt (nx_sig rd7 (fun i hi => ((show aFr m_cCompA st s7 from (fr_tr (fr_rf _ _) fs7 rfl)) 150 i rfl rfl).trans (ow i hi)) nx17 (by omega)) rd7.1.1 (by omega); omega)⟩, fun s19 q19 => ?_⟩
            obtain ⟨gs19, fs19, cc19, cf19⟩ := q19
            change s19 122 16 = s18 122 16 + 1 at cc19
            have g59 := g_f122_16 gs19
            change (s19 134) = up1 (s18 134) (s18 122 16).toNat (65536 * (s7 149 4) + (0)) at cf19
            refine ⟨by omega, ?_⟩
            have e60 : s19 149 5 = s18 149 5 := fs19 149 5 rfl rfl
            exact hQ _ _ ⟨gs19, (fr_tr (fr_tr (fr_tr (fr_tr (fr_rf _ _) fs7 rfl) fs17 rfl) fs18 rfl) fs19 rfl), (show ((1 : Int) = 1 ∧ ∃ c : List Int, GrS st 10 o (st 149 5) (s19 149 5) c ∧ RDc s19 ∧ CDA (st 122 16) (s19 122 16) (st 134) (s19 134) c) ∨ ((1 : Int) = 0 ∧ FlS st 10 o (st 149 5)) from (by rw [show s19 149 5 = s18 149 5 from fs19 149 5 rfl rfl]; exact Or.inl ⟨rfl, c7 ++ (c18 ++ [sop (s7 149 4)]), Gr_cmp (GrS_e (sT_of (fun i => (show aFr m_cCompA st st from (fr_rf _ _)) 2 i rfl rfl) ((show aFr m_cCompA st st from (fr_rf _ _)) 1 1 rfl rfl) ((show aFr m_cCompA st st from (fr_rf _ _)) 148 2 rfl rfl)) g7) (tkS_e (sT_of (fun i => (show aFr m_cCompA st s7 from (fr_tr (fr_rf _ _) fs7 rfl)) 2 i rfl rfl) ((show aFr m_cCompA st s7 from (fr_tr (fr_rf _ _) fs7 rfl)) 1 1 rfl rfl) ((show aFr m_cCompA st s7 from (fr_tr (fr_rf _ _) fs7 rfl)) 148 2 rfl rfl)) (nx_sig rd7 (fun i hi => ((show aFr m_cCompA st s7 from (fr_tr (fr_rf _ _) fs7 rfl)) 150 i rfl rfl).trans (ow i hi)) nx17 (by omega))) (by omega) (GrS_e (sT_of (fun i => (show aFr m_cCompA st s17 from (fr_tr (fr_tr (fr_rf _ _) fs7 rfl) fs17 rfl)) 2 i rfl rfl) ((show aFr m_cCompA st s17 from (fr_tr (fr_tr (fr_rf _ _) fs7 rfl) fs17 rfl)) 1 1 rfl rfl) ((show aFr m_cCompA st s17 from (fr_tr (fr_tr (fr_rf _ _) fs7 rfl) fs17 rfl)) 148 2 rfl rfl)) g18), (RDc_of (fun i => fs19 2 i rfl rfl) (fs19 1 1 rfl rfl) (fs19 149 2 rfl rfl) (fs19 149 3 rfl rfl) (fs19 149 4 rfl rfl) (fs19 149 5 rfl rfl) (fun i => fs19 150 i rfl rfl) rd18), CDA_c (CDA_tr (CDA_tr (CDA_f (CDA_tr (CDA_nil (st 134) (g_f122_16 hG).1) cd7) (fs17 122 16 rfl rfl) (funext (fun i => fs17 134 i rfl rfl))) cd18) (CDA_one (y := sop (s7 149 4)) (g_f122_16 gs18).1 cc19 cf19 (cenc_c (by omega)))) (by simp only [List.nil_append, List.append_assoc, List.cons_append, List.append_nil])⟩))⟩
          · refine ⟨fun h61 => (by exfalso; omega), fun h61 => ?_⟩
            refine ⟨by omega, ?_⟩
            exact hQ _ _ ⟨gs18, (fr_tr (fr_tr (fr_tr (fr_rf _ _) fs7 rfl) fs17 rfl) fs18 rfl), (show ((0 : Int) = 1 ∧ ∃ c : List Int, GrS st 10 o (st 149 5) (s18 149 5) c ∧ RDc s18 ∧ CDA (st 122 16) (s18 122 16) (st 134) (s18 134) c) ∨ ((0 : Int) = 0 ∧ FlS st 10 o (st 149 5)) from Or.inr ⟨rfl, Fl_cmp3 (GrS_e (sT_of (fun i => (show aFr m_cCompA st st from (fr_rf _ _)) 2 i rfl rfl) ((show aFr m_cCompA st st from (fr_rf _ _)) 1 1 rfl rfl) ((show aFr m_cCompA st st from (fr_rf _ _)) 148 2 rfl rfl)) g7) (tkS_e (sT_of (fun i => (show aFr m_cCompA st s7 from (fr_tr (fr_rf _ _) fs7 rfl)) 2 i rfl rfl) ((show aFr m_cCompA st s7 from (fr_tr (fr_rf _ _) fs7 rfl)) 1 1 rfl rfl) ((show aFr m_cCompA st s7 from (fr_tr (fr_rf _ _) fs7 rfl)) 148 2 rfl rfl)) (nx_sig rd7 (fun i hi => ((show aFr m_cCompA st s7 from (fr_tr (fr_rf _ _) fs7 rfl)) 150 i rfl rfl).trans (ow i hi)) nx17 (by omega))) (by omega) (FlS_e (sT_of (fun i => (show aFr m_cCompA st s17 from (fr_tr (fr_tr (fr_rf _ _) fs7 rfl) fs17 rfl)) 2 i rfl rfl) ((show aFr m_cCompA st s17 from (fr_tr (fr_tr (fr_rf _ _) fs7 rfl) fs17 rfl)) 1 1 rfl rfl) ((show aFr m_cCompA st s17 from (fr_tr (fr_tr (fr_rf _ _) fs7 rfl) fs17 rfl)) 148 2 rfl rfl)) l18)⟩)⟩
        · have g62 := g_wSpot gs7
          refine ⟨rfl, gs7, ?_⟩
          refine ⟨by omega, ?_⟩
          exact hQ _ _ ⟨(gInv_up (gInv_up gs7 (p_rFault (by omega))) (p_rFaultAt (by omega))), (fr_f (fr_f (fr_tr (fr_rf _ _) fs7 rfl) rfl) rfl), (show ((0 : Int) = 1 ∧ ∃ c : List Int, GrS st 10 o (st 149 5) (s7 149 5) c ∧ RDc (zup (zup s7 148 3 1) 148 4 (s7 149 6)) ∧ CDA (st 122 16) (s7 122 16) (st 134) (s7 134) c) ∨ ((0 : Int) = 0 ∧ FlS st 10 o (st 149 5)) from (by
            obtain ⟨tk_, tv_, te_, ht_, hv_⟩ := rd_tk rd7 (fun i hi => ((show aFr m_cCompA st s7 from (fr_tr (fr_rf _ _) fs7 rfl)) 150 i rfl rfl).trans (ow i hi))
            have z0 := tv_s hv_ 60
            have z1 := tv_s hv_ 61
            have z2 := tv_s hv_ 62
            exact Or.inr ⟨rfl, Fl_cmp2 (GrS_e (sT_of (fun i => (show aFr m_cCompA st st from (fr_rf _ _)) 2 i rfl rfl) ((show aFr m_cCompA st st from (fr_rf _ _)) 1 1 rfl rfl) ((show aFr m_cCompA st st from (fr_rf _ _)) 148 2 rfl rfl)) g7) (tkS_e (sT_of (fun i => (show aFr m_cCompA st s7 from (fr_tr (fr_rf _ _) fs7 rfl)) 2 i rfl rfl) ((show aFr m_cCompA st s7 from (fr_tr (fr_rf _ _) fs7 rfl)) 1 1 rfl rfl) ((show aFr m_cCompA st s7 from (fr_tr (fr_rf _ _) fs7 rfl)) 148 2 rfl rfl)) ht_) (by omega)⟩))⟩
  · refine ⟨fun h63 => (by exfalso; omega), fun h63 => ?_⟩
    refine ⟨by omega, ?_⟩
    exact hQ _ _ ⟨gs7, (fr_tr (fr_rf _ _) fs7 rfl), (show ((0 : Int) = 1 ∧ ∃ c : List Int, GrS st 10 o (st 149 5) (s7 149 5) c ∧ RDc s7 ∧ CDA (st 122 16) (s7 122 16) (st 134) (s7 134) c) ∨ ((0 : Int) = 0 ∧ FlS st 10 o (st 149 5)) from Or.inr ⟨rfl, Fl_cmp1 (FlS_e (sT_of (fun i => (show aFr m_cCompA st st from (fr_rf _ _)) 2 i rfl rfl) ((show aFr m_cCompA st st from (fr_rf _ _)) 1 1 rfl rfl) ((show aFr m_cCompA st st from (fr_rf _ _)) 148 2 rfl rfl)) l7)⟩)⟩
theorem k_cCompA_m (hTb : aTb zSh rx_tb cl) {m : Nat} (hB : BNDA cl m) {D : Nat} (hD : m + 21 ≤ D) : ∀ as st (Q Q' : zQ), (∀ r st', Q r st' → Q' r st') → k_cCompA (m + 1) 262 as st Q → cl D 262 as st Q' := by
  intro as st Q Q' hQ h
  unfold k_cCompA at h
  split at h
  · obtain ⟨rfl, h⟩ := h
    exact c_cCompA hTb hB hD (ct_cCompA_m hQ h)
  · exact h.elim
set_option maxHeartbeats 4000000 in
set_option maxRecDepth 100000 in
theorem c_cFactA (hTb : aTb zSh rx_tb cl) {m : Nat} (hB : BNDA cl m) {D : Nat} (hD : m + 21 ≤ D) {o : Int} {st : zS} {Q : zQ} (h : ct_cFactA (m + 1) o st Q) : cl D 261 [.inr (.inr (.inl 148)), .inl o] st Q := by
  obtain ⟨d, rfl⟩ : ∃ d, D = d + 1 := ⟨D - 1, by omega⟩
  refine hTb d 261 (rx_m261, 2, 0, 0, 2) rfl _ _ _ (Nat.le_of_ble_eq_true rfl) (fun K hcl hsf hsl => ?_)
  have hcm : zmo (wcL [(301, k_cIsOwn), (302, k_cIsSign), (252, k_cTakeOpen), (261, k_cFactA m), (259, k_cTestA m), (251, k_cTakeSign), (282, k_cAddCodeA), (143, k_cNext), (262, k_cCompA m)]) (cl d) := (wcL_m (wm_cons (k_cIsOwn_m hTb (by omega)) (wm_cons (k_cIsSign_m hTb (by omega)) (wm_cons (k_cTakeOpen_m hTb (by omega)) (wm_cons ((hB d (by omega)).2.2.1) (wm_cons ((hB d (by omega)).1) (wm_cons (k_cTakeSign_m hTb (by omega)) (wm_cons (k_cAddCodeA_m hTb (by omega)) (wm_cons (k_cNext_m hTb (by omega)) (wm_cons ((hB d (by omega)).2.2.2.1) wm_nil))))))))))
  obtain ⟨hR, hQ⟩ := h
  obtain ⟨hG, rd, ow, tw, cb, dd, oo⟩ := hR
  change RDc st at rd
  change cOW st at ow
  change st 148 1 = 122 at tw
  change st 122 16 + 1 ≤ st 149 5 at cb
  change 0 ≤ o ∧ o ≤ 7 at oo
  have rb := rd.1
  have g1 := g_f148_1 hG
  have g2 := g_f122_16 hG
  have g3 := g_wStart hG
  have g4 := g_wKind hG
  have g5 := g_wValue hG
  have g6 := g_tsize hG
  refine dr1_ok (Rt := Q) (wc := (wcL [(301, k_cIsOwn), (302, k_cIsSign), (252, k_cTakeOpen), (261, k_cFactA m), (259, k_cTestA m), (251, k_cTakeSign), (282, k_cAddCodeA), (143, k_cNext), (262, k_cCompA m)])) (stp := []) hcm hcl [(34, 122), (104, 122)] [] 88 ?_
  show (149 = 149 ∧ (∀ (r7 : Int), en_cIsOwn (22) st r7 → ((r7 = (0 : Int) → (149 = 149 ∧ (∀ (r8 : Int), en_cIsSign (91) st r8 → ((r8 = (0 : Int) → (149 = 149 ∧ (∀ (r9 : Int), en_cIsOwn (23) st r9 → ((r9 = (0 : Int) → (148 = 148 ∧ (rq_cCompA m o st ∧ (∀ (r10 : Int) (s10 : zS), en_cCompA m o st r10 s10 → ((r10 = (0 : Int) ∨ r10 = (1 : Int)) ∧ Q (some (.inl r10)) s10))))) ∧ (¬ (r9 = (0 : Int)) → ((st 148 1 = (122 : Int)) ∧ (122 = 122 ∧ (rq_cAddCodeA (200) (1) st ∧ (∀ (s11 : zS), en_cAddCodeA (200) (1) st s11 → (149 = 149 ∧ (rq_cNext  s11 ∧ (∀ (s12 : zS), en_cNext  s11 s12 → ((1 = (0 : Int) ∨ 1 = (1 : Int)) ∧ Q (some (.inl 1)) s12))))))))))))) ∧ (¬ (r8 = (0 : Int)) → (148 = 148 ∧ (rq_cTakeOpen (1) o st ∧ (∀ (r13 : Int) (s13 : zS), en_cTakeOpen (1) o st r13 s13 → ((r13 = (0 : Int) → ((0 = (0 : Int) ∨ 0 = (1 : Int)) ∧ Q (some (.inl 0)) s13)) ∧ (¬ (r13 = (0 : Int)) → ((-2147483648 ≤ o + 1 ∧ o + 1 ≤ 2147483647) ∧ (148 = 148 ∧ (rq_cTestA m (o + 1) s13 ∧ (∀ (r14 : Int) (s14 : zS), en_cTestA m (o + 1) s13 r14 s14 → ((r14 = (0 : Int) → ((0 = (0 : Int) ∨ 0 = (1 : Int)) ∧ Q (some (.inl 0)) s14)) ∧ (¬ (r14 = (0 : Int)) → (148 = 148 ∧ (rq_cTakeSign (93) s14 ∧ (∀ (r15 : Int) (s15 : zS), en_cTakeSign (93) s14 r15 s15 → ((r15 = (0 : Int) → ((0 = (0 : Int) ∨ 0 = (1 : Int)) ∧ Q (some (.inl 0)) s15)) ∧ (¬ (r15 = (0 : Int)) → ((1 = (0 : Int) ∨ 1 = (1 : Int)) ∧ Q (some (.inl 1)) s15)))))))))))))))))))))) ∧ (¬ (r7 = (0 : Int)) → (148 = 148 ∧ (rq_cTakeOpen (1) o st ∧ (∀ (r16 : Int) (s16 : zS), en_cTakeOpen (1) o st r16 s16 → ((r16 = (0 : Int) → ((0 = (0 : Int) ∨ 0 = (1 : Int)) ∧ Q (some (.inl 0)) s16)) ∧ (¬ (r16 = (0 : Int)) → ((-2147483648 ≤ o + 1 ∧ o + 1 ≤ 2147483647) ∧ (148 = 148 ∧ (rq_cFactA m (o + 1) s16 ∧ (∀ (r17 : Int) (s17 : zS), en_cFactA m (o + 1) s16 r17 s17 → ((¬ r17 = (0 : Int) → ((s17 148 1 = (122 : Int)) ∧ (122 = 122 ∧ (rq_cAddCodeA (22) (0) s17 ∧ (∀ (s18 : zS), en_cAddCodeA (22) (0) s17 s18 → ((1 = (0 : Int) ∨ 1 = (1 : Int)) ∧ Q (some (.inl 1)) s18)))))) ∧ (¬ (¬ r17 = (0 : Int)) → ((0 = (0 : Int) ∨ 0 = (1 : Int)) ∧ Q (some (.inl 0)) s17))))))))))))))))
  refine ⟨rfl, fun r7 q7 => ?_⟩
  have b7 := q7
  change (r7 = 0 ∨ r7 = 1) ∧ (r7 = 1 ↔ st 149 3 = 2 ∧ st 149 4 = (22)) at b7
  refine ⟨fun h19 => ?_, fun h19 => ?_⟩
  · refine ⟨rfl, fun r8 q8 => ?_⟩
    have b8 := q8
    change (r8 = 0 ∨ r8 = 1) ∧ (r8 = 1 ↔ st 149 3 = 4 ∧ st 149 4 = (91)) at b8
    refine ⟨fun h20 => ?_, fun h20 => ?_⟩
    · refine ⟨rfl, fun r9 q9 => ?_⟩
      have b9 := q9
      change (r9 = 0 ∨ r9 = 1) ∧ (r9 = 1 ↔ st 149 3 = 2 ∧ st 149 4 = (23)) at b9
      refine ⟨fun h21 => ?_, fun h21 => ?_⟩
      · refine ⟨rfl, ⟨hG, (show RDc st from rd), (show cOW st from ow), (show st 148 1 = 122 from by omega), (show st 122 16 + 1 ≤ st 149 5 from by omega), (show 5 + 12 * (7 - o) ≤ (m : Int) from by omega), (show 0 ≤ o ∧ o ≤ 7 from by omega)⟩, fun r10 s10 q10 => ?_⟩
        obtain ⟨gs10, fs10, o10⟩ := q10
        change (r10 = 1 ∧ ∃ c : List Int, GrS st 10 o (st 149 5) (s10 149 5) c ∧ RDc s10 ∧ CDA (st 122 16) (s10 122 16) (st 134) (s10 134) c) ∨ (r10 = 0 ∧ FlS st 10 o (st 149 5)) at o10
        have g22 := g_wStart gs10
        have g23 := g_f122_16 gs10
        rcases o10 with ⟨y10, c10, g10, rd10, cd10⟩ | ⟨y10, l10⟩
        · have gl10 := Gr_len g10 rd.1.1
          have cn10 := cd10.2.1
          have rb10 := rd10.1
          have rt10 := g_tsize gs10
          refine ⟨by omega, ?_⟩
          exact hQ _ _ ⟨gs10, (fr_tr (fr_rf _ _) fs10 rfl), (show (r10 = 1 ∧ ∃ c : List Int, GrS st 9 o (st 149 5) (s10 149 5) c ∧ RDc s10 ∧ CDA (st 122 16) (s10 122 16) (st 134) (s10 134) c) ∨ (r10 = 0 ∧ FlS st 9 o (st 149 5)) from (by
            obtain ⟨tk_, tv_, te_, ht_, hv_⟩ := rd_tk rd ow
            have z0 := tv_w hv_ 22 (by omega)
            have z1 := tv_w hv_ 23 (by omega)
            have z2 := tv_s hv_ 91
            change (tk_ = 1 ∧ tv_ = 7237492) ↔ (st 149 3 = 2 ∧ st 149 4 = ((22 : Nat) : Int)) at z0
            change (tk_ = 1 ∧ tv_ = 6384748) ↔ (st 149 3 = 2 ∧ st 149 4 = ((23 : Nat) : Int)) at z1
            exact Or.inl ⟨y10, c10, Gr_fcm (tkS_e (sT_of (fun i => (show aFr m_cFactA st st from (fr_rf _ _)) 2 i rfl rfl) ((show aFr m_cFactA st st from (fr_rf _ _)) 1 1 rfl rfl) ((show aFr m_cFactA st st from (fr_rf _ _)) 148 2 rfl rfl)) ht_) (by omega) (by omega) g10, rd10, cd10⟩))⟩
        · refine ⟨by omega, ?_⟩
          exact hQ _ _ ⟨gs10, (fr_tr (fr_rf _ _) fs10 rfl), (show (r10 = 1 ∧ ∃ c : List Int, GrS st 9 o (st 149 5) (s10 149 5) c ∧ RDc s10 ∧ CDA (st 122 16) (s10 122 16) (st 134) (s10 134) c) ∨ (r10 = 0 ∧ FlS st 9 o (st 149 5)) from (by
            obtain ⟨tk_, tv_, te_, ht_, hv_⟩ := rd_tk rd ow
            have z0 := tv_w hv_ 22 (by omega)
            have z1 := tv_w hv_ 23 (by omega)
            have z2 := tv_s hv_ 91
            change (tk_ = 1 ∧ tv_ = 7237492) ↔ (st 149 3 = 2 ∧ st 149 4 = ((22 : Nat) : Int)) at z0
            change (tk_ = 1 ∧ tv_ = 6384748) ↔ (st 149 3 = 2 ∧ st 149 4 = ((23 : Nat) : Int)) at z1
            exact Or.inr ⟨y10, Fl_fcm (tkS_e (sT_of (fun i => (show aFr m_cFactA st st from (fr_rf _ _)) 2 i rfl rfl) ((show aFr m_cFactA st st from (fr_rf _ _)) 1 1 rfl rfl) ((show aFr m_cFactA st st from (fr_rf _ _)) 148 2 rfl rfl)) ht_) (by omega) (by omega) l10⟩))⟩
      · refine ⟨by omega, ?_⟩
        refine ⟨rfl, ⟨hG, (show (0 ≤ (200) ∧ (200) ≤ 255) ∧ 0 ≤ (1) ∧ (1) ≤ 9999 from by omega), (show st 122 16 ≤ 1599 from by omega)⟩, fun s11 q11 => ?_⟩
        obtain ⟨gs11, fs11, cc11, cf11⟩ := q11
        change s11 122 16 = st 122 16 + 1 at cc11
        have g24 := g_f122_16 gs11
        change (s11 134) = up1 (st 134) (st 122 16).toNat (65536 * (200) + (1)) at cf11
        have e25 : s11 149 3 = st 149 3 := fs11 149 3 rfl rfl
        refine ⟨rfl, ⟨gs11, (show RDc s11 from (RDc_of (fun i => fs11 2 i rfl rfl) (fs11 1 1 rfl rfl) (fs11 149 2 rfl rfl) (fs11 149 3 rfl rfl) (fs11 149 4 rfl rfl) (fs11 149 5 rfl rfl) (fun i => fs11 150 i rfl rfl) rd)), (show 1 ≤ s11 149 3 ∧ s11 149 3 ≤ 4 from by omega)⟩, fun s12 q12 => ?_⟩
        obtain ⟨gs12, fs12, rd12, nx12⟩ := q12
        change RDc s12 at rd12
        change NX s11 s12 at nx12
        refine ⟨by omega, ?_⟩
        have g26 := g_wStart gs12
        have e27 : s12 122 16 = s11 122 16 := fs12 122 16 rfl rfl
        exact hQ _ _ ⟨gs12, (fr_tr (fr_tr (fr_rf _ _) fs11 rfl) fs12 rfl), (show ((1 : Int) = 1 ∧ ∃ c : List Int, GrS st 9 o (st 149 5) (s12 149 5) c ∧ RDc s12 ∧ CDA (st 122 16) (s12 122 16) (st 134) (s12 134) c) ∨ ((1 : Int) = 0 ∧ FlS st 9 o (st 149 5)) from Or.inl ⟨rfl, [30], Gr_fal (tkS_e (sT_of (fun i => (show aFr m_cFactA st st from (fr_rf _ _)) 2 i rfl rfl) ((show aFr m_cFactA st st from (fr_rf _ _)) 1 1 rfl rfl) ((show aFr m_cFactA st st from (fr_rf _ _)) 148 2 rfl rfl)) (nx_ow 23 rd ow (NX_e (sT_of (fun i => (show aFr m_cFactA st s11 from (fr_tr (fr_rf _ _) fs11 rfl)) 2 i rfl rfl) ((show aFr m_cFactA st s11 from (fr_tr (fr_rf _ _) fs11 rfl)) 1 1 rfl rfl) ((show aFr m_cFactA st s11 from (fr_tr (fr_rf _ _) fs11 rfl)) 148 2 rfl rfl)) (fs11 149 5 rfl rfl) nx12) (by omega) (by omega) rfl)), rd12, CDA_c (CDA_f (CDA_tr (CDA_nil (st 134) (g_f122_16 hG).1) (CDA_one (y := 30) (g_f122_16 hG).1 cc11 cf11 rfl)) (fs12 122 16 rfl rfl) (funext (fun i => fs12 134 i rfl rfl))) (by simp only [List.nil_append, List.append_assoc, List.cons_append, List.append_nil])⟩)⟩
    · refine ⟨rfl, ⟨hG, (show RDc st from rd), (show ((1) = 0 ∨ (1) = 1) ∧ ((1) = 1 → 1 ≤ st 149 3 ∧ st 149 3 ≤ 4) from by omega)⟩, fun r13 s13 q13 => ?_⟩
      obtain ⟨gs13, fs13, o13⟩ := q13
      change (r13 = 1 ∧ (1) = 1 ∧ o < 7 ∧ RDc s13 ∧ NX st s13) ∨ (r13 = 0 ∧ ((1) = 0 ∨ 7 ≤ o)) at o13
      rcases o13 with ⟨y13, k13, v13, rd13, nx13⟩ | ⟨y13, k13⟩
      · refine ⟨fun h28 => (by exfalso; omega), fun h28 => ?_⟩
        refine ⟨by omega, ?_⟩
        have e29 : s13 148 1 = st 148 1 := fs13 148 1 rfl rfl
        have e30 : s13 122 16 = st 122 16 := fs13 122 16 rfl rfl
        have g31 := g_wStart gs13
        refine ⟨rfl, ⟨gs13, (show RDc s13 from rd13), (show cOW s13 from (fun i hi => ((show aFr m_cFactA st s13 from (fr_tr (fr_rf _ _) fs13 rfl)) 150 i rfl rfl).trans (ow i hi))), (show s13 148 1 = 122 from by omega), (show s13 122 16 + 1 ≤ s13 149 5 from by have zt13 := tk_lt (nx_sig rd ow nx13 (by omega)) rd.1.1 (by omega); omega), (show 8 + 12 * (7 - (o + 1)) ≤ (m : Int) from by omega), (show 0 ≤ (o + 1) ∧ (o + 1) ≤ 7 from by omega)⟩, fun r14 s14 q14 => ?_⟩
        obtain ⟨gs14, fs14, o14⟩ := q14
        change (r14 = 1 ∧ ∃ c : List Int, GrS s13 5 (o + 1) (s13 149 5) (s14 149 5) c ∧ RDc s14 ∧ CDA (s13 122 16) (s14 122 16) (s13 134) (s14 134) c) ∨ (r14 = 0 ∧ FlS s13 5 (o + 1) (s13 149 5)) at o14
        have g32 := g_wStart gs14
        have g33 := g_f122_16 gs14
        rcases o14 with ⟨y14, c14, g14, rd14, cd14⟩ | ⟨y14, l14⟩
        · have gl14 := Gr_len g14 rd13.1.1
          have cn14 := cd14.2.1
          have rb14 := rd14.1
          have rt14 := g_tsize gs14
          refine ⟨fun h34 => (by exfalso; omega), fun h34 => ?_⟩
          refine ⟨rfl, ⟨gs14, (show RDc s14 from rd14)⟩, fun r15 s15 q15 => ?_⟩
          obtain ⟨gs15, fs15, o15⟩ := q15
          change (r15 = 1 ∧ s14 149 3 = 4 ∧ s14 149 4 = (93) ∧ RDc s15 ∧ NX s14 s15) ∨ (r15 = 0 ∧ ¬ (s14 149 3 = 4 ∧ s14 149 4 = (93))) at o15
          have g35 := g_wKind gs14
          have g36 := g_wValue gs14
          rcases o15 with ⟨y15, k15, v15, rd15, nx15⟩ | ⟨y15, k15⟩
          · refine ⟨fun h37 => (by exfalso; omega), fun h37 => ?_⟩
            refine ⟨by omega, ?_⟩
            have g38 := g_wStart gs15
            have e39 : s15 122 16 = s14 122 16 := fs15 122 16 rfl rfl
            exact hQ _ _ ⟨gs15, (fr_tr (fr_tr (fr_tr (fr_rf _ _) fs13 rfl) fs14 rfl) fs15 rfl), (show ((1 : Int) = 1 ∧ ∃ c : List Int, GrS st 9 o (st 149 5) (s15 149 5) c ∧ RDc s15 ∧ CDA (st 122 16) (s15 122 16) (st 134) (s15 134) c) ∨ ((1 : Int) = 0 ∧ FlS st 9 o (st 149 5)) from Or.inl ⟨rfl, c14, Gr_fbr (tkS_e (sT_of (fun i => (show aFr m_cFactA st st from (fr_rf _ _)) 2 i rfl rfl) ((show aFr m_cFactA st st from (fr_rf _ _)) 1 1 rfl rfl) ((show aFr m_cFactA st st from (fr_rf _ _)) 148 2 rfl rfl)) (nx_sgx rd ow nx13 (by omega) (by omega))) (by omega) (GrS_e (sT_of (fun i => (show aFr m_cFactA st s13 from (fr_tr (fr_rf _ _) fs13 rfl)) 2 i rfl rfl) ((show aFr m_cFactA st s13 from (fr_tr (fr_rf _ _) fs13 rfl)) 1 1 rfl rfl) ((show aFr m_cFactA st s13 from (fr_tr (fr_rf _ _) fs13 rfl)) 148 2 rfl rfl)) g14) (tkS_e (sT_of (fun i => (show aFr m_cFactA st s14 from (fr_tr (fr_tr (fr_rf _ _) fs13 rfl) fs14 rfl)) 2 i rfl rfl) ((show aFr m_cFactA st s14 from (fr_tr (fr_tr (fr_rf _ _) fs13 rfl) fs14 rfl)) 1 1 rfl rfl) ((show aFr m_cFactA st s14 from (fr_tr (fr_tr (fr_rf _ _) fs13 rfl) fs14 rfl)) 148 2 rfl rfl)) (nx_sgx rd14 (fun i hi => ((show aFr m_cFactA st s14 from (fr_tr (fr_tr (fr_rf _ _) fs13 rfl) fs14 rfl)) 150 i rfl rfl).trans (ow i hi)) nx15 (by omega) (by omega))), rd15, CDA_c (CDA_f (CDA_tr (CDA_f (CDA_nil (st 134) (g_f122_16 hG).1) (fs13 122 16 rfl rfl) (funext (fun i => fs13 134 i rfl rfl))) cd14) (fs15 122 16 rfl rfl) (funext (fun i => fs15 134 i rfl rfl))) (by simp only [List.nil_append, List.append_assoc, List.cons_append, List.append_nil])⟩)⟩
          · refine ⟨fun h40 => ?_, fun h40 => (by exfalso; omega)⟩
            refine ⟨by omega, ?_⟩
            have g41 := g_wStart gs15
            have e42 : s15 122 16 = s14 122 16 := fs15 122 16 rfl rfl
            exact hQ _ _ ⟨gs15, (fr_tr (fr_tr (fr_tr (fr_rf _ _) fs13 rfl) fs14 rfl) fs15 rfl), (show ((0 : Int) = 1 ∧ ∃ c : List Int, GrS st 9 o (st 149 5) (s15 149 5) c ∧ RDc s15 ∧ CDA (st 122 16) (s15 122 16) (st 134) (s15 134) c) ∨ ((0 : Int) = 0 ∧ FlS st 9 o (st 149 5)) from (by
            obtain ⟨tk_, tv_, te_, ht_, hv_⟩ := rd_tk rd14 (fun i hi => ((show aFr m_cFactA st s14 from (fr_tr (fr_tr (fr_rf _ _) fs13 rfl) fs14 rfl)) 150 i rfl rfl).trans (ow i hi))
            exact Or.inr ⟨rfl, Fl_fbr2 (tkS_e (sT_of (fun i => (show aFr m_cFactA st st from (fr_rf _ _)) 2 i rfl rfl) ((show aFr m_cFactA st st from (fr_rf _ _)) 1 1 rfl rfl) ((show aFr m_cFactA st st from (fr_rf _ _)) 148 2 rfl rfl)) (nx_sgx rd ow nx13 (by omega) (by omega))) (by omega) (GrS_e (sT_of (fun i => (show aFr m_cFactA st s13 from (fr_tr (fr_rf _ _) fs13 rfl)) 2 i rfl rfl) ((show aFr m_cFactA st s13 from (fr_tr (fr_rf _ _) fs13 rfl)) 1 1 rfl rfl) ((show aFr m_cFactA st s13 from (fr_tr (fr_rf _ _) fs13 rfl)) 148 2 rfl rfl)) g14) (tkS_e (sT_of (fun i => (show aFr m_cFactA st s14 from (fr_tr (fr_tr (fr_rf _ _) fs13 rfl) fs14 rfl)) 2 i rfl rfl) ((show aFr m_cFactA st s14 from (fr_tr (fr_tr (fr_rf _ _) fs13 rfl) fs14 rfl)) 1 1 rfl rfl) ((show aFr m_cFactA st s14 from (fr_tr (fr_tr (fr_rf _ _) fs13 rfl) fs14 rfl)) 148 2 rfl rfl)) ht_) (fun z => by have z1 := (tv_s hv_ 93).mp z; omega)⟩))⟩
        · refine ⟨fun h43 => ?_, fun h43 => (by exfalso; omega)⟩
          refine ⟨by omega, ?_⟩
          exact hQ _ _ ⟨gs14, (fr_tr (fr_tr (fr_rf _ _) fs13 rfl) fs14 rfl), (show ((0 : Int) = 1 ∧ ∃ c : List Int, GrS st 9 o (st 149 5) (s14 149 5) c ∧ RDc s14 ∧ CDA (st 122 16) (s14 122 16) (st 134) (s14 134) c) ∨ ((0 : Int) = 0 ∧ FlS st 9 o (st 149 5)) from Or.inr ⟨rfl, Fl_fbr1 (tkS_e (sT_of (fun i => (show aFr m_cFactA st st from (fr_rf _ _)) 2 i rfl rfl) ((show aFr m_cFactA st st from (fr_rf _ _)) 1 1 rfl rfl) ((show aFr m_cFactA st st from (fr_rf _ _)) 148 2 rfl rfl)) (nx_sgx rd ow nx13 (by omega) (by omega))) (by omega) (FlS_e (sT_of (fun i => (show aFr m_cFactA st s13 from (fr_tr (fr_rf _ _) fs13 rfl)) 2 i rfl rfl) ((show aFr m_cFactA st s13 from (fr_tr (fr_rf _ _) fs13 rfl)) 1 1 rfl rfl) ((show aFr m_cFactA st s13 from (fr_tr (fr_rf _ _) fs13 rfl)) 148 2 rfl rfl)) l14)⟩)⟩
      · refine ⟨fun h44 => ?_, fun h44 => (by exfalso; omega)⟩
        refine ⟨by omega, ?_⟩
        have g45 := g_wStart gs13
        have e46 : s13 122 16 = st 122 16 := fs13 122 16 rfl rfl
        exact hQ _ _ ⟨gs13, (fr_tr (fr_rf _ _) fs13 rfl), (show ((0 : Int) = 1 ∧ ∃ c : List Int, GrS st 9 o (st 149 5) (s13 149 5) c ∧ RDc s13 ∧ CDA (st 122 16) (s13 122 16) (st 134) (s13 134) c) ∨ ((0 : Int) = 0 ∧ FlS st 9 o (st 149 5)) from (by
            obtain ⟨tk_, tv_, te_, ht_, hv_⟩ := rd_tk rd ow
            have z := (tv_s hv_ 91).mpr (by omega)
            have hh := (tkS_e (sT_of (fun i => (show aFr m_cFactA st st from (fr_rf _ _)) 2 i rfl rfl) ((show aFr m_cFactA st st from (fr_rf _ _)) 1 1 rfl rfl) ((show aFr m_cFactA st st from (fr_rf _ _)) 148 2 rfl rfl)) ht_)
            rw [z.1, z.2] at hh
            exact Or.inr ⟨rfl, Fl_fbr0 hh (by omega)⟩))⟩
  · refine ⟨rfl, ⟨hG, (show RDc st from rd), (show ((1) = 0 ∨ (1) = 1) ∧ ((1) = 1 → 1 ≤ st 149 3 ∧ st 149 3 ≤ 4) from by omega)⟩, fun r16 s16 q16 => ?_⟩
    obtain ⟨gs16, fs16, o16⟩ := q16
    change (r16 = 1 ∧ (1) = 1 ∧ o < 7 ∧ RDc s16 ∧ NX st s16) ∨ (r16 = 0 ∧ ((1) = 0 ∨ 7 ≤ o)) at o16
    rcases o16 with ⟨y16, k16, v16, rd16, nx16⟩ | ⟨y16, k16⟩
    · refine ⟨fun h47 => (by exfalso; omega), fun h47 => ?_⟩
      refine ⟨by omega, ?_⟩
      have e48 : s16 148 1 = st 148 1 := fs16 148 1 rfl rfl
      have e49 : s16 122 16 = st 122 16 := fs16 122 16 rfl rfl
      have g50 := g_wStart gs16
      refine ⟨rfl, ⟨gs16, (show RDc s16 from rd16), (show cOW s16 from (fun i hi => ((show aFr m_cFactA st s16 from (fr_tr (fr_rf _ _) fs16 rfl)) 150 i rfl rfl).trans (ow i hi))), (show s16 148 1 = 122 from by omega), (show s16 122 16 + 1 ≤ s16 149 5 from by have zt16 := tk_lt ((nx_own rd ow nx16 (by omega)).2) rd.1.1 (by omega); omega), (show 6 + 12 * (7 - (o + 1)) ≤ (m : Int) from by omega), (show 0 ≤ (o + 1) ∧ (o + 1) ≤ 7 from by omega)⟩, fun r17 s17 q17 => ?_⟩
      obtain ⟨gs17, fs17, o17⟩ := q17
      change (r17 = 1 ∧ ∃ c : List Int, GrS s16 9 (o + 1) (s16 149 5) (s17 149 5) c ∧ RDc s17 ∧ CDA (s16 122 16) (s17 122 16) (s16 134) (s17 134) c) ∨ (r17 = 0 ∧ FlS s16 9 (o + 1) (s16 149 5)) at o17
      have g51 := g_wStart gs17
      have g52 := g_f122_16 gs17
      rcases o17 with ⟨y17, c17, g17, rd17, cd17⟩ | ⟨y17, l17⟩
      · have gl17 := Gr_len g17 rd16.1.1
        have cn17 := cd17.2.1
        have rb17 := rd17.1
        have rt17 := g_tsize gs17
        refine ⟨fun h53 => ?_, fun h53 => (by exfalso; omega)⟩
        have e54 : s17 148 1 = s16 148 1 := fs17 148 1 rfl rfl
        refine ⟨by omega, ?_⟩
        refine ⟨rfl, ⟨gs17, (show (0 ≤ (22) ∧ (22) ≤ 255) ∧ 0 ≤ (0) ∧ (0) ≤ 9999 from by omega), (show s17 122 16 ≤ 1599 from by have zt16 := tk_lt ((nx_own rd ow nx16 (by omega)).2) rd.1.1 (by omega); omega)⟩, fun s18 q18 => ?_⟩
        obtain ⟨gs18, fs18, cc18, cf18⟩ := q18
        change s18 122 16 = s17 122 16 + 1 at cc18
        have g55 := g_f122_16 gs18
        change (s18 134) = up1 (s17 134) (s17 122 16).toNat (65536 * (22) + (0)) at cf18
        refine ⟨by omega, ?_⟩
        have e56 : s18 149 5 = s17 149 5 := fs18 149 5 rfl rfl
        exact hQ _ _ ⟨gs18, (fr_tr (fr_tr (fr_tr (fr_rf _ _) fs16 rfl) fs17 rfl) fs18 rfl), (show ((1 : Int) = 1 ∧ ∃ c : List Int, GrS st 9 o (st 149 5) (s18 149 5) c ∧ RDc s18 ∧ CDA (st 122 16) (s18 122 16) (st 134) (s18 134) c) ∨ ((1 : Int) = 0 ∧ FlS st 9 o (st 149 5)) from (by rw [show s18 149 5 = s17 149 5 from fs18 149 5 rfl rfl]; exact Or.inl ⟨rfl, c17 ++ [43], Gr_fnt ((show tk (ctx st) (st 1 1) _ 1 (7237492 : Int) _ from tkS_e (sT_of (fun i => (show aFr m_cFactA st st from (fr_rf _ _)) 2 i rfl rfl) ((show aFr m_cFactA st st from (fr_rf _ _)) 1 1 rfl rfl) ((show aFr m_cFactA st st from (fr_rf _ _)) 148 2 rfl rfl)) (nx_ow 22 rd ow nx16 (by omega) (by omega) rfl))) (by omega) (GrS_e (sT_of (fun i => (show aFr m_cFactA st s16 from (fr_tr (fr_rf _ _) fs16 rfl)) 2 i rfl rfl) ((show aFr m_cFactA st s16 from (fr_tr (fr_rf _ _) fs16 rfl)) 1 1 rfl rfl) ((show aFr m_cFactA st s16 from (fr_tr (fr_rf _ _) fs16 rfl)) 148 2 rfl rfl)) g17), (RDc_of (fun i => fs18 2 i rfl rfl) (fs18 1 1 rfl rfl) (fs18 149 2 rfl rfl) (fs18 149 3 rfl rfl) (fs18 149 4 rfl rfl) (fs18 149 5 rfl rfl) (fun i => fs18 150 i rfl rfl) rd17), CDA_c (CDA_tr (CDA_tr (CDA_f (CDA_nil (st 134) (g_f122_16 hG).1) (fs16 122 16 rfl rfl) (funext (fun i => fs16 134 i rfl rfl))) cd17) (CDA_one (y := 43) (g_f122_16 gs17).1 cc18 cf18 rfl)) (by simp only [List.nil_append, List.append_assoc, List.cons_append, List.append_nil])⟩))⟩
      · refine ⟨fun h57 => (by exfalso; omega), fun h57 => ?_⟩
        refine ⟨by omega, ?_⟩
        exact hQ _ _ ⟨gs17, (fr_tr (fr_tr (fr_rf _ _) fs16 rfl) fs17 rfl), (show ((0 : Int) = 1 ∧ ∃ c : List Int, GrS st 9 o (st 149 5) (s17 149 5) c ∧ RDc s17 ∧ CDA (st 122 16) (s17 122 16) (st 134) (s17 134) c) ∨ ((0 : Int) = 0 ∧ FlS st 9 o (st 149 5)) from Or.inr ⟨rfl, Fl_fnt1 ((show tk (ctx st) (st 1 1) _ 1 (7237492 : Int) _ from tkS_e (sT_of (fun i => (show aFr m_cFactA st st from (fr_rf _ _)) 2 i rfl rfl) ((show aFr m_cFactA st st from (fr_rf _ _)) 1 1 rfl rfl) ((show aFr m_cFactA st st from (fr_rf _ _)) 148 2 rfl rfl)) (nx_ow 22 rd ow nx16 (by omega) (by omega) rfl))) (by omega) (FlS_e (sT_of (fun i => (show aFr m_cFactA st s16 from (fr_tr (fr_rf _ _) fs16 rfl)) 2 i rfl rfl) ((show aFr m_cFactA st s16 from (fr_tr (fr_rf _ _) fs16 rfl)) 1 1 rfl rfl) ((show aFr m_cFactA st s16 from (fr_tr (fr_rf _ _) fs16 rfl)) 148 2 rfl rfl)) l17)⟩)⟩
    · refine ⟨fun h58 => ?_, fun h58 => (by exfalso; omega)⟩
      refine ⟨by omega, ?_⟩
      have g59 := g_wStart gs16
      have e60 : s16 122 16 = st 122 16 := fs16 122 16 rfl rfl
      exact hQ _ _ ⟨gs16, (fr_tr (fr_rf _ _) fs16 rfl), (show ((0 : Int) = 1 ∧ ∃ c : List Int, GrS st 9 o (st 149 5) (s16 149 5) c ∧ RDc s16 ∧ CDA (st 122 16) (s16 122 16) (st 134) (s16 134) c) ∨ ((0 : Int) = 0 ∧ FlS st 9 o (st 149 5)) from (by
            obtain ⟨tk_, tv_, te_, ht_, hv_⟩ := rd_tk rd ow
            have z := (tv_w hv_ 22 (by omega)).mpr (by omega)
            have hh := (tkS_e (sT_of (fun i => (show aFr m_cFactA st st from (fr_rf _ _)) 2 i rfl rfl) ((show aFr m_cFactA st st from (fr_rf _ _)) 1 1 rfl rfl) ((show aFr m_cFactA st st from (fr_rf _ _)) 148 2 rfl rfl)) ht_)
            rw [z.1, show tv_ = 7237492 from z.2] at hh
            exact Or.inr ⟨rfl, Fl_fnt0 hh (by omega)⟩))⟩
theorem k_cFactA_m (hTb : aTb zSh rx_tb cl) {m : Nat} (hB : BNDA cl m) {D : Nat} (hD : m + 21 ≤ D) : ∀ as st (Q Q' : zQ), (∀ r st', Q r st' → Q' r st') → k_cFactA (m + 1) 261 as st Q → cl D 261 as st Q' := by
  intro as st Q Q' hQ h
  unfold k_cFactA at h
  split at h
  · obtain ⟨rfl, h⟩ := h
    exact c_cFactA hTb hB hD (ct_cFactA_m hQ h)
  · exact h.elim
theorem BNDA_all (hTb : aTb zSh rx_tb cl) : ∀ m : Nat, BNDA cl m := by
  intro m
  induction m with
  | zero =>
    intro d hd
    refine ⟨?_, ?_, ?_, ?_, ?_, ?_, ?_, ?_, ?_⟩
    · intro as st Q Q' hQ h
      unfold k_cTestA at h
      split at h
      · have z := h.2.1
        unfold rq_cTestA at z
        omega
      · exact h.elim
    · intro as st Q Q' hQ h
      unfold k_cBothA at h
      split at h
      · have z := h.2.1
        unfold rq_cBothA at z
        omega
      · exact h.elim
    · intro as st Q Q' hQ h
      unfold k_cFactA at h
      split at h
      · have z := h.2.1
        unfold rq_cFactA at z
        omega
      · exact h.elim
    · intro as st Q Q' hQ h
      unfold k_cCompA at h
      split at h
      · have z := h.2.1
        unfold rq_cCompA at z
        omega
      · exact h.elim
    · intro as st Q Q' hQ h
      unfold k_cSumA at h
      split at h
      · have z := h.2.1
        unfold rq_cSumA at z
        omega
      · exact h.elim
    · intro as st Q Q' hQ h
      unfold k_cProdA at h
      split at h
      · have z := h.2.1
        unfold rq_cProdA at z
        omega
      · exact h.elim
    · intro as st Q Q' hQ h
      unfold k_cPartA at h
      split at h
      · have z := h.2.1
        unfold rq_cPartA at z
        omega
      · exact h.elim
    · intro as st Q Q' hQ h
      unfold k_cOfTwoA at h
      split at h
      · have z := h.2.1
        unfold rq_cOfTwoA at z
        omega
      · exact h.elim
    · intro as st Q Q' hQ h
      unfold k_cIfA at h
      split at h
      · have z := h.2.1
        unfold rq_cIfA at z
        omega
      · exact h.elim
  | succ m ih =>
    intro d hd
    exact ⟨k_cTestA_m hTb ih (by omega), k_cBothA_m hTb ih (by omega), k_cFactA_m hTb ih (by omega), k_cCompA_m hTb ih (by omega), k_cSumA_m hTb ih (by omega), k_cProdA_m hTb ih (by omega), k_cPartA_m hTb ih (by omega), k_cOfTwoA_m hTb ih (by omega), k_cIfA_m hTb ih (by omega)⟩
theorem k_cSumA_a (hTb : aTb zSh rx_tb cl) (m : Nat) {D : Nat} (hD : m + 20 ≤ D) : ∀ as st (Q Q' : zQ), (∀ r st', Q r st' → Q' r st') → k_cSumA m 253 as st Q → cl D 253 as st Q' := (BNDA_all hTb m D hD).2.2.2.2.1
theorem k_cTestA_a (hTb : aTb zSh rx_tb cl) (m : Nat) {D : Nat} (hD : m + 20 ≤ D) : ∀ as st (Q Q' : zQ), (∀ r st', Q r st' → Q' r st') → k_cTestA m 259 as st Q → cl D 259 as st Q' := (BNDA_all hTb m D hD).1
end R9i
