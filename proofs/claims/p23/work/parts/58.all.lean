/-! all summaries of the class hold -/
def allIt (P : Nat → aS → Prop) : aIt → Nat → Prop
  | [], _ => True
  | x :: t, i => (∀ s ∈ x.2, P i s) ∧ allIt P t (i + 1)
theorem allIt_ok {P : Nat → aS → Prop} : ∀ {it : aIt} {i : Nat}, allIt P it i → ∀ nu x s, it[nu]? = some x → s ∈ x.2 → P (i + nu) s := by
  intro it
  induction it with
  | nil => intro i h nu x s h1; simp at h1
  | cons a t ih =>
    intro i h nu x s h1 h2
    cases nu with
    | zero =>
      simp at h1
      subst h1
      exact h.1 s h2
    | succ nu =>
      have := ih h.2 nu x s (by simpa using h1) h2
      rw [show i + (nu + 1) = i + 1 + nu by omega]
      exact this
theorem it_nil {P : aS → Prop} : ∀ s ∈ ([] : List aS), P s := fun _ h => by cases h
theorem it_cons {P : aS → Prop} {a : aS} {l : List aS} (h : P a) (k : ∀ s ∈ l, P s) : ∀ s ∈ a :: l, P s := by
  intro s hs
  rcases List.mem_cons.mp hs with e | e
  · rw [e]; exact h
  · exact k s e
theorem two_i {b c : aB} {asz : List zV} (h : aTs [.inl b, .inl c] asz) : ∃ x y, asz = [.inl x, .inl y] ∧ (b.1 ≤ x ∧ x ≤ b.2) ∧ (c.1 ≤ y ∧ y ≤ c.2) := by
  cases asz with
  | nil => exact absurd h id
  | cons u t =>
    cases t with
    | nil => exact absurd h.2 id
    | cons w r =>
      cases r with
      | cons z r => exact absurd h.2.2 id
      | nil =>
        rcases u with x | (x | (o | j))
        · rcases w with y | (y | (o | j))
          · exact ⟨x, y, rfl, h.1, h.2.1⟩
          · exact absurd h.2.1 id
          · exact absurd h.2.1 id
          · exact absurd h.2.1 id
        · exact absurd h.1 id
        · exact absurd h.1 id
        · exact absurd h.1 id
section ALLS
variable {cl : Nat → zCall}
theorem m_fm89 (hTb : aTb zSh rx_tb cl) (D : Nat) : aSp zgt cl D 29 zu_89 := by
  intro asz st hm hG hnd Q hQ
  have hD : (3 : Int) ≤ (D : Int) := hnd.1 rfl
  obtain ⟨d, rfl⟩ : ∃ d, D = d + 1 := ⟨D - 1, by omega⟩
  obtain ⟨x, y, rfl, hx, hy⟩ := two_i hm
  have hy1 : 840 ≤ y := hy.1
  have hy2 : y ≤ 840 := hy.2
  refine hTb d 29 (rx_m29, 3, 0, 0, 1) rfl _ _ _ (Nat.le_of_ble_eq_true rfl) (fun K hcl hsf hsl => ?_)
  refine zh_floorMod hcl hx (by unfold zsI; omega) (by omega) (fun z _ hz => hQ _ _ hG (fun _ _ _ _ => rfl) ?_)
  have := hz (by omega)
  exact ⟨this.1, by show z ≤ 839; omega⟩
theorem m_fm169 (hTb : aTb zSh rx_tb cl) (D : Nat) : aSp zgt cl D 29 zu_169 := by
  intro asz st hm hG hnd Q hQ
  have hD : (3 : Int) ≤ (D : Int) := hnd.1 rfl
  obtain ⟨d, rfl⟩ : ∃ d, D = d + 1 := ⟨D - 1, by omega⟩
  obtain ⟨x, y, rfl, hx, hy⟩ := two_i hm
  have hy1 : -2147483648 ≤ y := hy.1
  have hy2 : y ≤ -1 := hy.2
  refine hTb d 29 (rx_m29, 3, 0, 0, 1) rfl _ _ _ (Nat.le_of_ble_eq_true rfl) (fun K hcl hsf hsl => ?_)
  refine zh_floorMod hcl hx (by unfold zsI; omega) (by omega) (fun z hz _ => hQ _ _ hG (fun _ _ _ _ => rfl) hz)
theorem m_fm170 (hTb : aTb zSh rx_tb cl) (D : Nat) : aSp zgt cl D 29 zu_170 := by
  intro asz st hm hG hnd Q hQ
  have hD : (3 : Int) ≤ (D : Int) := hnd.1 rfl
  obtain ⟨d, rfl⟩ : ∃ d, D = d + 1 := ⟨D - 1, by omega⟩
  obtain ⟨x, y, rfl, hx, hy⟩ := two_i hm
  have hy1 : 1 ≤ y := hy.1
  have hy2 : y ≤ 2147483647 := hy.2
  refine hTb d 29 (rx_m29, 3, 0, 0, 1) rfl _ _ _ (Nat.le_of_ble_eq_true rfl) (fun K hcl hsf hsl => ?_)
  refine zh_floorMod hcl hx (by unfold zsI; omega) (by omega) (fun z hz _ => hQ _ _ hG (fun _ _ _ _ => rfl) hz)
theorem m_fd171 (hTb : aTb zSh rx_tb cl) (D : Nat) : aSp zgt cl D 304 zu_171 := by
  intro asz st hm hG hnd Q hQ
  have hD : (3 : Int) ≤ (D : Int) := hnd.1 rfl
  obtain ⟨d, rfl⟩ : ∃ d, D = d + 1 := ⟨D - 1, by omega⟩
  obtain ⟨x, y, rfl, hx, hy⟩ := two_i hm
  have hy1 : -2147483648 ≤ y := hy.1
  have hy2 : y ≤ -1 := hy.2
  refine hTb d 304 (rx_m304, 3, 0, 0, 1) rfl _ _ _ (Nat.le_of_ble_eq_true rfl) (fun K hcl hsf hsl => ?_)
  refine zh_floorDiv hcl (by omega) (fun z hz => hQ _ _ hG (fun _ _ _ _ => rfl) hz)
theorem m_fd172 (hTb : aTb zSh rx_tb cl) (D : Nat) : aSp zgt cl D 304 zu_172 := by
  intro asz st hm hG hnd Q hQ
  have hD : (3 : Int) ≤ (D : Int) := hnd.1 rfl
  obtain ⟨d, rfl⟩ : ∃ d, D = d + 1 := ⟨D - 1, by omega⟩
  obtain ⟨x, y, rfl, hx, hy⟩ := two_i hm
  have hy1 : 1 ≤ y := hy.1
  have hy2 : y ≤ 2147483647 := hy.2
  refine hTb d 304 (rx_m304, 3, 0, 0, 1) rfl _ _ _ (Nat.le_of_ble_eq_true rfl) (fun K hcl hsf hsl => ?_)
  refine zh_floorDiv hcl (by omega) (fun z hz => hQ _ _ hG (fun _ _ _ _ => rfl) hz)
theorem g152 {st : zS} (hG : gInv zgt st) : zrt st := by
  refine ⟨?_, fun i => hG 153 i, fun i => hG 154 i⟩
  obtain ⟨b, hb, hz⟩ := (show ∃ b ∈ ([(Int.ofNat 0, Int.ofNat 30)] : List aB), b.1 ≤ st 152 2 ∧ st 152 2 ≤ b.2 from hG 152 2)
  rcases List.mem_singleton.mp hb with rfl
  exact hz
theorem g152_inv {st s : zS} (hG : gInv zgt st) (h : zrt s) (hf : ∀ c i, ¬ (c = 152 ∧ i = 2) → ¬ c = 153 → ¬ c = 154 → s c i = st c i) : gInv zgt s ∧ aFr ([(152, 2)], [153, 154]) st s := by
  refine ⟨fun c i => ?_, fun c i h1 h2 => ?_⟩
  · by_cases c1 : c = 152 ∧ i = 2
    · obtain ⟨rfl, rfl⟩ := c1
      exact ⟨_, List.mem_singleton.mpr rfl, h.1.1, h.1.2⟩
    · by_cases c2 : c = 153
      · subst c2; exact h.2.1 i
      · by_cases c3 : c = 154
        · subst c3; exact h.2.2 i
        · rw [hf c i c1 c2 c3]
          exact hG c i
  · exact hf c i (fun q => by rw [q.1, q.2] at h1; cases h1) (fun q => by rw [q] at h2; cases h2) (fun q => by rw [q] at h2; cases h2)
theorem m_lv (hTb : aTb zSh rx_tb cl) (D : Nat) : aSp zgt cl D 268 zu_167 := by
  intro asz st hm hG hnd Q hQ
  have hD : (3 : Int) ≤ (D : Int) := hnd.1 rfl
  obtain ⟨d, rfl⟩ : ∃ d, D = d + 1 := ⟨D - 1, by omega⟩
  cases asz with
  | nil => exact absurd hm id
  | cons u t =>
    cases t with
    | cons u2 t2 => exact absurd hm.2 id
    | nil =>
      rcases u with z | (z | (o | j))
      · exact absurd hm.1 id
      · exact absurd hm.1 id
      · have e0 : 152 = o := hm.1
        subst e0
        refine hTb d 268 (rx_m268, 3, 0, 0, 0) rfl _ _ _ (Nat.le_of_ble_eq_true rfl) (fun K hcl hsf hsl => ?_)
        exact zh_leave rfl hcl hsl (g152 hG) (fun s h1 h2 => hQ _ _ (g152_inv hG h1 h2).1 (g152_inv hG h1 h2).2 trivial)
      · exact absurd hm.1 id
theorem m_ins (hTb : aTb zSh rx_tb cl) (D : Nat) : aSp zgt cl D 267 zu_147 := by
  intro asz st hm hG hnd Q hQ
  have hD : (3 : Int) ≤ (D : Int) := hnd.1 rfl
  obtain ⟨d, rfl⟩ : ∃ d, D = d + 1 := ⟨D - 1, by omega⟩
  obtain ⟨k, nn, rfl, hk, hn⟩ : ∃ k nn, asz = [.inr (.inr (.inl 152)), .inl k, .inr (.inr (.inl 160)), .inl nn] ∧ (1 ≤ k ∧ k ≤ 30) ∧ (0 ≤ nn ∧ nn ≤ 8) := by
    rcases asz with _ | ⟨u1, _ | ⟨u2, _ | ⟨u3, _ | ⟨u4, _ | ⟨u5, t⟩⟩⟩⟩⟩
    · exact absurd hm id
    · exact absurd hm.2 id
    · exact absurd hm.2.2 id
    · exact absurd hm.2.2.2 id
    · obtain ⟨h1, h2, h3, h4, -⟩ := hm
      rcases u1 with z | (z | (o | j))
      · exact absurd h1 id
      · exact absurd h1 id
      · rcases u2 with k | (k | (o2 | j))
        · rcases u3 with z | (z | (o3 | j))
          · exact absurd h3 id
          · exact absurd h3 id
          · rcases u4 with nn | (nn | (o4 | j))
            · have e1 : 152 = o := h1
              have e3 : 160 = o3 := h3
              subst e1
              subst e3
              exact ⟨k, nn, rfl, h2, h4⟩
            · exact absurd h4 id
            · exact absurd h4 id
            · exact absurd h4 id
          · exact absurd h3 id
        · exact absurd h2 id
        · exact absurd h2 id
        · exact absurd h2 id
      · exact absurd h1 id
    · exact absurd hm.2.2.2.2 id
  refine hTb d 267 (rx_m267, 5, 0, 0, 2) rfl _ _ _ (Nat.le_of_ble_eq_true rfl) (fun K hcl hsf hsl => ?_)
  exact zh_insert rfl hcl hsl (g152 hG) (fun i => hG 160 i) hk hn (fun z s h1 h2 h3 => hQ _ _ (g152_inv hG h1 h2).1 (g152_inv hG h1 h2).2 (by rcases h3 with rfl | rfl <;> exact ⟨by decide, by decide⟩))
set_option maxRecDepth 100000 in
theorem z_all (hTb : aTb zSh rx_tb cl) : zAll cl := by
  refine a_all (fun nu x s h1 h2 D hI => ?_)
  have h := allIt_ok (P := fun nu s => ∀ D : Nat, (∀ d', d' < D → ∀ nu x s, zit[nu]? = some x → s ∈ x.2 → aSp zgt cl d' nu s) → aSp zgt cl D nu s) (it := zit) (i := 0) ⟨it_nil, it_nil, it_nil, it_nil, it_nil, it_nil, it_nil, it_nil, it_nil, it_nil, it_cons (fun D hI => ains_ok hTb zu_148_ok D hI) it_nil, it_cons (fun D hI => ains_ok hTb zu_140_ok D hI) it_nil, it_nil, it_nil, it_nil, it_nil, it_nil, it_cons (fun D hI => ains_ok hTb zu_153_ok D hI) it_nil, it_nil, it_nil, it_nil, it_nil, it_nil, it_cons (fun D hI => ains_ok hTb zu_92_ok D hI) (it_cons (fun D hI => ains_ok hTb zu_93_ok D hI) (it_cons (fun D hI => ains_ok hTb zu_94_ok D hI) (it_cons (fun D hI => ains_ok hTb zu_139_ok D hI) (it_cons (fun D hI => ains_ok hTb zu_142_ok D hI) (it_cons (fun D hI => ains_ok hTb zu_159_ok D hI) it_nil))))), it_cons (fun D hI => ains_ok hTb zu_20_ok D hI) it_nil, it_cons (fun D hI => ains_ok hTb zu_44_ok D hI) (it_cons (fun D hI => ains_ok hTb zu_45_ok D hI) (it_cons (fun D hI => ains_ok hTb zu_46_ok D hI) (it_cons (fun D hI => ains_ok hTb zu_47_ok D hI) (it_cons (fun D hI => ains_ok hTb zu_48_ok D hI) (it_cons (fun D hI => ains_ok hTb zu_49_ok D hI) (it_cons (fun D hI => ains_ok hTb zu_50_ok D hI) (it_cons (fun D hI => ains_ok hTb zu_51_ok D hI) (it_cons (fun D hI => ains_ok hTb zu_52_ok D hI) (it_cons (fun D hI => ains_ok hTb zu_53_ok D hI) (it_cons (fun D hI => ains_ok hTb zu_54_ok D hI) (it_cons (fun D hI => ains_ok hTb zu_55_ok D hI) (it_cons (fun D hI => ains_ok hTb zu_56_ok D hI) (it_cons (fun D hI => ains_ok hTb zu_57_ok D hI) (it_cons (fun D hI => ains_ok hTb zu_58_ok D hI) (it_cons (fun D hI => ains_ok hTb zu_59_ok D hI) (it_cons (fun D hI => ains_ok hTb zu_60_ok D hI) (it_cons (fun D hI => ains_ok hTb zu_61_ok D hI) (it_cons (fun D hI => ains_ok hTb zu_62_ok D hI) (it_cons (fun D hI => ains_ok hTb zu_63_ok D hI) (it_cons (fun D hI => ains_ok hTb zu_64_ok D hI) (it_cons (fun D hI => ains_ok hTb zu_65_ok D hI) (it_cons (fun D hI => ains_ok hTb zu_66_ok D hI) (it_cons (fun D hI => ains_ok hTb zu_67_ok D hI) (it_cons (fun D hI => ains_ok hTb zu_68_ok D hI) (it_cons (fun D hI => ains_ok hTb zu_69_ok D hI) (it_cons (fun D hI => ains_ok hTb zu_70_ok D hI) (it_cons (fun D hI => ains_ok hTb zu_71_ok D hI) (it_cons (fun D hI => ains_ok hTb zu_72_ok D hI) (it_cons (fun D hI => ains_ok hTb zu_73_ok D hI) (it_cons (fun D hI => ains_ok hTb zu_74_ok D hI) (it_cons (fun D hI => ains_ok hTb zu_75_ok D hI) (it_cons (fun D hI => ains_ok hTb zu_76_ok D hI) (it_cons (fun D hI => ains_ok hTb zu_77_ok D hI) (it_cons (fun D hI => ains_ok hTb zu_78_ok D hI) (it_cons (fun D hI => ains_ok hTb zu_79_ok D hI) (it_cons (fun D hI => ains_ok hTb zu_80_ok D hI) (it_cons (fun D hI => ains_ok hTb zu_81_ok D hI) (it_cons (fun D hI => ains_ok hTb zu_82_ok D hI) (it_cons (fun D hI => ains_ok hTb zu_83_ok D hI) it_nil))))))))))))))))))))))))))))))))))))))), it_cons (fun D hI => ains_ok hTb zu_97_ok D hI) (it_cons (fun D hI => ains_ok hTb zu_98_ok D hI) it_nil), it_cons (fun D hI => ains_ok hTb zu_149_ok D hI) it_nil, it_cons (fun D hI => ains_ok hTb zu_154_ok D hI) it_nil, it_cons (fun D _ => m_fm89 hTb D) (it_cons (fun D _ => m_fm169 hTb D) (it_cons (fun D _ => m_fm170 hTb D) it_nil)), it_nil, it_nil, it_nil, it_nil, it_cons (fun D hI => ains_ok hTb zu_164_ok D hI) (it_cons (fun D hI => ains_ok hTb zu_166_ok D hI) it_nil), it_nil, it_nil, it_cons (fun D hI => ains_ok hTb zu_21_ok D hI) it_nil, it_cons (fun D hI => ains_ok hTb zu_19_ok D hI) it_nil, it_cons (fun D hI => ains_ok hTb zu_150_ok D hI) it_nil, it_nil, it_cons (fun D hI => ains_ok hTb zu_141_ok D hI) it_nil, it_cons (fun D hI => ains_ok hTb zu_42_ok D hI) (it_cons (fun D hI => ains_ok hTb zu_43_ok D hI) it_nil), it_cons (fun D hI => ains_ok hTb zu_95_ok D hI) (it_cons (fun D hI => ains_ok hTb zu_96_ok D hI) it_nil), it_cons (fun D hI => ains_ok hTb zu_5_ok D hI) it_nil, it_cons (fun D hI => ains_ok hTb zu_39_ok D hI) it_nil, it_nil, it_nil, it_nil, it_cons (fun D hI => ains_ok hTb zu_4_ok D hI) it_nil, it_nil, it_nil, it_nil, it_nil, it_cons (fun D hI => ains_ok hTb zu_84_ok D hI) (it_cons (fun D hI => ains_ok hTb zu_85_ok D hI) it_nil), it_nil, it_nil, it_cons (fun D hI => ains_ok hTb zu_33_ok D hI) it_nil, it_nil, it_nil, it_nil, it_nil, it_nil, it_cons (fun D hI => ains_ok hTb zu_10_ok D hI) it_nil, it_cons (fun D hI => ains_ok hTb zu_11_ok D hI) it_nil, it_nil, it_nil, it_nil, it_nil, it_nil, it_nil, it_cons (fun D hI => ains_ok hTb zu_3_ok D hI) it_nil, it_nil, it_nil, it_nil, it_nil, it_nil, it_nil, it_cons (fun D hI => ains_ok hTb zu_16_ok D hI) it_nil, it_nil, it_cons (fun D hI => ains_ok hTb zu_86_ok D hI) it_nil, it_cons (fun D hI => ains_ok hTb zu_87_ok D hI) it_nil, it_cons (fun D hI => ains_ok hTb zu_99_ok D hI) (it_cons (fun D hI => ains_ok hTb zu_100_ok D hI) (it_cons (fun D hI => ains_ok hTb zu_101_ok D hI) (it_cons (fun D hI => ains_ok hTb zu_102_ok D hI) (it_cons (fun D hI => ains_ok hTb zu_103_ok D hI) (it_cons (fun D hI => ains_ok hTb zu_104_ok D hI) (it_cons (fun D hI => ains_ok hTb zu_105_ok D hI) (it_cons (fun D hI => ains_ok hTb zu_106_ok D hI) (it_cons (fun D hI => ains_ok hTb zu_107_ok D hI) (it_cons (fun D hI => ains_ok hTb zu_108_ok D hI) (it_cons (fun D hI => ains_ok hTb zu_109_ok D hI) (it_cons (fun D hI => ains_ok hTb zu_110_ok D hI) (it_cons (fun D hI => ains_ok hTb zu_111_ok D hI) (it_cons (fun D hI => ains_ok hTb zu_112_ok D hI) (it_cons (fun D hI => ains_ok hTb zu_113_ok D hI) (it_cons (fun D hI => ains_ok hTb zu_114_ok D hI) (it_cons (fun D hI => ains_ok hTb zu_115_ok D hI) (it_cons (fun D hI => ains_ok hTb zu_116_ok D hI) (it_cons (fun D hI => ains_ok hTb zu_117_ok D hI) (it_cons (fun D hI => ains_ok hTb zu_118_ok D hI) (it_cons (fun D hI => ains_ok hTb zu_119_ok D hI) (it_cons (fun D hI => ains_ok hTb zu_120_ok D hI) (it_cons (fun D hI => ains_ok hTb zu_121_ok D hI) (it_cons (fun D hI => ains_ok hTb zu_122_ok D hI) (it_cons (fun D hI => ains_ok hTb zu_123_ok D hI) (it_cons (fun D hI => ains_ok hTb zu_124_ok D hI) (it_cons (fun D hI => ains_ok hTb zu_125_ok D hI) (it_cons (fun D hI => ains_ok hTb zu_126_ok D hI) (it_cons (fun D hI => ains_ok hTb zu_127_ok D hI) (it_cons (fun D hI => ains_ok hTb zu_128_ok D hI) (it_cons (fun D hI => ains_ok hTb zu_129_ok D hI) (it_cons (fun D hI => ains_ok hTb zu_130_ok D hI) (it_cons (fun D hI => ains_ok hTb zu_131_ok D hI) (it_cons (fun D hI => ains_ok hTb zu_132_ok D hI) (it_cons (fun D hI => ains_ok hTb zu_133_ok D hI) (it_cons (fun D hI => ains_ok hTb zu_134_ok D hI) (it_cons (fun D hI => ains_ok hTb zu_135_ok D hI) (it_cons (fun D hI => ains_ok hTb zu_136_ok D hI) (it_cons (fun D hI => ains_ok hTb zu_137_ok D hI) (it_cons (fun D hI => ains_ok hTb zu_138_ok D hI) it_nil))))))))))))))))))))))))))))))))))))))), it_nil, it_nil, it_nil, it_nil, it_nil, it_cons (fun D hI => ains_ok hTb zu_1_ok D hI) it_nil, it_nil, it_cons (fun D hI => ains_ok hTb zu_13_ok D hI) it_nil, it_cons (fun D hI => ains_ok hTb zu_15_ok D hI) it_nil, it_nil, it_nil, it_nil, it_nil, it_nil, it_nil, it_nil, it_nil, it_nil, it_nil, it_nil, it_nil, it_nil, it_nil, it_cons (fun D hI => ains_ok hTb zu_6_ok D hI) it_nil, it_cons (fun D hI => ains_ok hTb zu_7_ok D hI) it_nil, it_cons (fun D hI => ains_ok hTb zu_8_ok D hI) it_nil, it_cons (fun D hI => ains_ok hTb zu_9_ok D hI) it_nil, it_nil, it_cons (fun D hI => ains_ok hTb zu_14_ok D hI) it_nil, it_nil, it_cons (fun D hI => ains_ok hTb zu_17_ok D hI) it_nil, it_cons (fun D hI => ains_ok hTb zu_22_ok D hI) it_nil, it_nil, it_cons (fun D hI => ains_ok hTb zu_23_ok D hI) it_nil, it_nil, it_cons (fun D hI => ains_ok hTb zu_24_ok D hI) it_nil, it_cons (fun D hI => ains_ok hTb zu_25_ok D hI) it_nil, it_cons (fun D hI => ains_ok hTb zu_26_ok D hI) it_nil, it_cons (fun D hI => ains_ok hTb zu_29_ok D hI) it_nil, it_cons (fun D hI => ains_ok hTb zu_30_ok D hI) it_nil, it_cons (fun D hI => ains_ok hTb zu_32_ok D hI) it_nil, it_cons (fun D hI => ains_ok hTb zu_36_ok D hI) it_nil, it_nil, it_nil, it_nil, it_nil, it_nil, it_nil, it_nil, it_nil, it_nil, it_nil, it_nil, it_nil, it_nil, it_cons (fun D hI => ains_ok hTb zu_0_ok D hI) it_nil, it_nil, it_cons (fun D hI => ains_ok hTb zu_2_ok D hI) it_nil, it_cons (fun D hI => ains_ok hTb zu_34_ok D hI) (it_cons (fun D hI => ains_ok hTb zu_35_ok D hI) it_nil), it_cons (fun D hI => ains_ok hTb zu_177_ok D hI) it_nil, it_cons (fun D hI => ains_ok hTb zu_178_ok D hI) it_nil, it_nil, it_nil, it_nil, it_nil, it_nil, it_nil, it_nil, it_nil, it_nil, it_cons (fun D hI => ains_ok hTb zu_12_ok D hI) it_nil, it_nil, it_cons (fun D hI => ains_ok hTb zu_162_ok D hI) it_nil, it_cons (fun D hI => ains_ok hTb zu_18_ok D hI) it_nil, it_cons (fun D hI => ains_ok hTb zu_151_ok D hI) it_nil, it_cons (fun D hI => ains_ok hTb zu_158_ok D hI) it_nil, it_nil, it_nil, it_nil, it_nil, it_nil, it_nil, it_cons (fun D hI => ains_ok hTb zu_27_ok D hI) it_nil, it_nil, it_cons (fun D hI => ains_ok hTb zu_28_ok D hI) it_nil, it_cons (fun D hI => ains_ok hTb zu_88_ok D hI) it_nil, it_nil, it_cons (fun D hI => ains_ok hTb zu_31_ok D hI) it_nil, it_cons (fun D hI => ains_ok hTb zu_90_ok D hI) (it_cons (fun D hI => ains_ok hTb zu_91_ok D hI) it_nil), it_cons (fun D hI => ains_ok hTb zu_143_ok D hI) it_nil, it_nil, it_nil, it_nil, it_nil, it_nil, it_nil, it_nil, it_nil, it_nil, it_nil, it_nil, it_nil, it_nil, it_nil, it_nil, it_nil, it_nil, it_nil, it_nil, it_nil, it_nil, it_nil, it_nil, it_nil, it_nil, it_nil, it_nil, it_nil, it_nil, it_nil, it_nil, it_nil, it_nil, it_nil, it_nil, it_nil, it_nil, it_nil, it_nil, it_nil, it_nil, it_nil, it_nil, it_nil, it_nil, it_nil, it_nil, it_nil, it_nil, it_nil, it_nil, it_nil, it_nil, it_cons (fun D hI => ains_ok hTb zu_163_ok D hI) (it_cons (fun D hI => ains_ok hTb zu_165_ok D hI) (it_cons (fun D hI => ains_ok hTb zu_179_ok D hI) (it_cons (fun D hI => ains_ok hTb zu_181_ok D hI) it_nil))), it_cons (fun D hI => ains_ok hTb zu_174_ok D hI) (it_cons (fun D hI => ains_ok hTb zu_176_ok D hI) it_nil), it_cons (fun D hI => ains_ok hTb zu_173_ok D hI) (it_cons (fun D hI => ains_ok hTb zu_175_ok D hI) it_nil), it_cons (fun D hI => ains_ok hTb zu_180_ok D hI) (it_cons (fun D hI => ains_ok hTb zu_182_ok D hI) it_nil), it_cons (fun D hI => ains_ok hTb zu_160_ok D hI) it_nil, it_cons (fun D hI => ains_ok hTb zu_40_ok D hI) (it_cons (fun D hI => ains_ok hTb zu_41_ok D hI) it_nil), it_cons (fun D hI => ains_ok hTb zu_157_ok D hI) it_nil, it_cons (fun D hI => ains_ok hTb zu_186_ok D hI) it_nil, it_nil, it_nil, it_nil, it_cons (fun D hI => ains_ok hTb zu_187_ok D hI) it_nil, it_cons (fun D hI => ains_ok hTb zu_188_ok D hI) it_nil, it_cons (fun D hI => ains_ok hTb zu_189_ok D hI) it_nil, it_cons (fun D hI => ains_ok hTb zu_190_ok D hI) it_nil, it_cons (fun D hI => ains_ok hTb zu_191_ok D hI) it_nil, it_cons (fun D hI => ains_ok hTb zu_192_ok D hI) it_nil, it_cons (fun D hI => ains_ok hTb zu_193_ok D hI) it_nil, it_cons (fun D hI => ains_ok hTb zu_216_ok D hI) it_nil, it_cons (fun D hI => ains_ok hTb zu_194_ok D hI) it_nil, it_cons (fun D hI => ains_ok hTb zu_195_ok D hI) it_nil, it_cons (fun D hI => ains_ok hTb zu_196_ok D hI) it_nil, it_cons (fun D hI => ains_ok hTb zu_197_ok D hI) it_nil, it_cons (fun D hI => ains_ok hTb zu_198_ok D hI) it_nil, it_cons (fun D hI => ains_ok hTb zu_215_ok D hI) it_nil, it_cons (fun D hI => ains_ok hTb zu_214_ok D hI) it_nil, it_nil, it_cons (fun D hI => ains_ok hTb zu_203_ok D hI) it_nil, it_cons (fun D hI => ains_ok hTb zu_206_ok D hI) it_nil, it_cons (fun D hI => ains_ok hTb zu_208_ok D hI) it_nil, it_cons (fun D hI => ains_ok hTb zu_210_ok D hI) it_nil, it_cons (fun D hI => ains_ok hTb zu_212_ok D hI) it_nil, it_cons (fun D hI => ains_ok hTb zu_211_ok D hI) it_nil, it_cons (fun D hI => ains_ok hTb zu_204_ok D hI) it_nil, it_cons (fun D hI => ains_ok hTb zu_207_ok D hI) it_nil, it_cons (fun D hI => ains_ok hTb zu_209_ok D hI) it_nil, it_cons (fun D hI => ains_ok hTb zu_213_ok D hI) it_nil, it_nil, it_nil, it_cons (fun D hI => ains_ok hTb zu_145_ok D hI) it_nil, it_cons (fun D hI => ains_ok hTb zu_152_ok D hI) it_nil, it_cons (fun D _ => m_ins hTb D) it_nil, it_cons (fun D _ => m_lv hTb D) it_nil, it_nil, it_nil, it_nil, it_nil, it_cons (fun D hI => ains_ok hTb zu_155_ok D hI) (it_cons (fun D hI => ains_ok hTb zu_156_ok D hI) it_nil), it_nil, it_cons (fun D hI => ains_ok hTb zu_161_ok D hI) it_nil, it_cons (fun D hI => ains_ok hTb zu_168_ok D hI) it_nil, it_nil, it_nil, it_nil, it_nil, it_nil, it_nil, it_cons (fun D hI => ains_ok hTb zu_201_ok D hI) (it_cons (fun D hI => ains_ok hTb zu_202_ok D hI) it_nil), it_cons (fun D hI => ains_ok hTb zu_199_ok D hI) (it_cons (fun D hI => ains_ok hTb zu_200_ok D hI) it_nil), it_nil, it_nil, it_nil, it_nil, it_cons (fun D hI => ains_ok hTb zu_37_ok D hI) (it_cons (fun D hI => ains_ok hTb zu_38_ok D hI) it_nil), it_cons (fun D hI => ains_ok hTb zu_205_ok D hI) it_nil, it_nil, it_nil, it_cons (fun D hI => ains_ok hTb zu_146_ok D hI) it_nil, it_cons (fun D hI => ains_ok hTb zu_144_ok D hI) it_nil, it_nil, it_nil, it_nil, it_cons (fun D hI => ains_ok hTb zu_184_ok D hI) it_nil, it_cons (fun D hI => ains_ok hTb zu_185_ok D hI) it_nil, it_cons (fun D hI => ains_ok hTb zu_183_ok D hI) it_nil, it_nil, it_nil, it_nil, it_cons (fun D _ => m_fd171 hTb D) (it_cons (fun D _ => m_fd172 hTb D) it_nil), trivial⟩ nu x s h1 h2 D hI
  rw [Nat.zero_add] at h
  exact h
end ALLS
