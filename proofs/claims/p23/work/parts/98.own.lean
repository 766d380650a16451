/-! texts alike, and the own words in both forms -/
theorem nbp_e {t t' : Int → Int} {n s : Int} (h : ∀ k : Int, 0 ≤ k → k < n → t' k = t k) (hs : s < n) : nbp t' s ↔ nbp t s := by
  unfold nbp
  constructor
  · intro z
    rw [h (s - 1) (by omega) (by omega)] at z
    exact z
  · intro z
    rw [h (s - 1) (by omega) (by omega)]
    exact z
theorem pk8_e {t t' : Int → Int} {n s : Int} (h : ∀ k : Int, 0 ≤ k → k < n → t' k = t k) (hs : 0 ≤ s) : ∀ m : Nat, s + (m : Int) ≤ n → pk8 t' s m = pk8 t s m := by
  intro m
  induction m with
  | zero => intro _; rfl
  | succ m ih =>
    intro hm
    rw [pk8_s, pk8_s, ih (by omega), h (s + (m : Int)) (by omega) (by omega)]
theorem pkd_e {t t' : Int → Int} {n s : Int} (h : ∀ k : Int, 0 ≤ k → k < n → t' k = t k) (hs : 0 ≤ s) : ∀ m : Nat, s + (m : Int) ≤ n → pkd t' s m = pkd t s m := by
  intro m
  induction m with
  | zero => intro _; rfl
  | succ m ih =>
    intro hm
    rw [pkd_s, pkd_s, ih (by omega), h (s + (m : Int)) (by omega) (by omega)]
/-- a run of letters stays within the text -/
theorem wrn_in {P : Int → Prop} {t : Int → Int} {n s m : Int} (hP : ¬ P (-1)) (hs : s ≤ n) (h : wrn (fun j => P (tcc t n j)) s m) : m ≤ n := by
  by_cases q : m ≤ n
  · exact q
  · have z : P (tcc t n n) := h.2.1 n hs (by omega)
    rw [tcc_out (by omega)] at z
    exact absurd z hP
theorem TK_e {t t' : Int → Int} {n p k v s e : Int} (h : ∀ k : Int, 0 ≤ k → k < n → t' k = t k) (hp : 0 ≤ p) (hT : TK t n p k v s e) : TK t' n p k v s e := by
  have f : ∀ j : Int, tcc t' n j = tcc t n j := tcc_e h
  obtain ⟨a, hT⟩ := hT
  have hs : 0 ≤ s := by have := a.1; omega
  refine ⟨by simp only [f]; exact a, ?_⟩
  rcases hT with h1 | ⟨h1, h2, m, hm, h3⟩ | ⟨h1, h2, m, hm, h3⟩ | ⟨h1, h2, h3, h4, h5, h6⟩
  · exact Or.inl h1
  · have m1 := wrn_in (P := wle) (by unfold wle; omega) (by omega) hm
    have m0 := hm.1
    refine Or.inr (Or.inl ⟨h1, by rw [h s hs h1]; exact h2, m, by simp only [f]; exact hm, ?_⟩)
    rw [nbp_e h h1, pk8_e h hs (m - s).toNat (by omega)]
    exact h3
  · have m1 := wrn_in (P := wdi) (by unfold wdi; omega) (by omega) hm
    have m0 := hm.1
    refine Or.inr (Or.inr (Or.inl ⟨h1, by rw [h s hs h1]; exact h2, m, by simp only [f]; exact hm, ?_⟩))
    rw [nbp_e h h1, pkd_e h hs (m - s).toNat (by omega)]
    exact h3
  · exact Or.inr (Or.inr (Or.inr ⟨h1, by rw [h s hs h1]; exact h2, by rw [h s hs h1]; exact h3, h4, by rw [h s hs h1]; exact h5, h6⟩))
theorem ow_0 : isN6 482854658917 549489824 := ⟨16, 12, 1, 3, 5, 0, by omega, by omega, by omega, by omega, by omega, by omega, by omega, Or.inr (Or.inr (Or.inr (Or.inr (Or.inl ⟨by omega, by omega, by omega, by omega, by omega, by omega⟩))))⟩
theorem ow_1 : isN6 126943972648308 659100852 := ⟨19, 20, 18, 5, 5, 20, by omega, by omega, by omega, by omega, by omega, by omega, by omega, Or.inr (Or.inr (Or.inr (Or.inr (Or.inr ⟨by omega, by omega, by omega, by omega, by omega, by omega⟩))))⟩
theorem ow_2 : isN6 29807 686817280 := ⟨20, 15, 0, 0, 0, 0, by omega, by omega, by omega, by omega, by omega, by omega, by omega, Or.inr (Or.inl ⟨by omega, by omega, by omega, by omega, by omega, by omega⟩)⟩
theorem ow_3 : isN6 482670241139 538023520 := ⟨16, 1, 3, 5, 19, 0, by omega, by omega, by omega, by omega, by omega, by omega, by omega, Or.inr (Or.inr (Or.inr (Or.inr (Or.inl ⟨by omega, by omega, by omega, by omega, by omega, by omega⟩))))⟩
theorem ow_4 : isN6 1937007984 658685952 := ⟨19, 20, 5, 16, 0, 0, by omega, by omega, by omega, by omega, by omega, by omega, by omega, Or.inr (Or.inr (Or.inr (Or.inl ⟨by omega, by omega, by omega, by omega, by omega, by omega⟩)))⟩
theorem ow_5 : isN6 6713202 217645056 := ⟨6, 15, 18, 0, 0, 0, by omega, by omega, by omega, by omega, by omega, by omega, by omega, Or.inr (Or.inr (Or.inl ⟨by omega, by omega, by omega, by omega, by omega, by omega⟩))⟩
theorem ow_6 : isN6 499967946343 679786720 := ⟨20, 8, 9, 14, 7, 0, by omega, by omega, by omega, by omega, by omega, by omega, by omega, Or.inr (Or.inr (Or.inr (Or.inr (Or.inl ⟨by omega, by omega, by omega, by omega, by omega, by omega⟩))))⟩
theorem ow_7 : isN6 24948 54525952 := ⟨1, 20, 0, 0, 0, 0, by omega, by omega, by omega, by omega, by omega, by omega, by omega, Or.inr (Or.inl ⟨by omega, by omega, by omega, by omega, by omega, by omega⟩)⟩
theorem ow_8 : isN6 1886743660 559296512 := ⟨16, 21, 12, 12, 0, 0, by omega, by omega, by omega, by omega, by omega, by omega, by omega, Or.inr (Or.inr (Or.inr (Or.inl ⟨by omega, by omega, by omega, by omega, by omega, by omega⟩)))⟩
theorem ow_9 : isN6 126943688025203 658552979 := ⟨19, 20, 1, 14, 4, 19, by omega, by omega, by omega, by omega, by omega, by omega, by omega, Or.inr (Or.inr (Or.inr (Or.inr (Or.inr ⟨by omega, by omega, by omega, by omega, by omega, by omega⟩))))⟩
theorem ow_10 : isN6 109317209875826 113432754 := ⟨3, 12, 5, 22, 5, 18, by omega, by omega, by omega, by omega, by omega, by omega, by omega, Or.inr (Or.inr (Or.inr (Or.inr (Or.inr ⟨by omega, by omega, by omega, by omega, by omega, by omega⟩))))⟩
theorem ow_11 : isN6 1751474548 273731584 := ⟨8, 5, 1, 20, 0, 0, by omega, by omega, by omega, by omega, by omega, by omega, by omega, Or.inr (Or.inr (Or.inr (Or.inl ⟨by omega, by omega, by omega, by omega, by omega, by omega⟩)))⟩
theorem ow_12 : isN6 6844276 284819456 := ⟨8, 15, 20, 0, 0, 0, by omega, by omega, by omega, by omega, by omega, by omega, by omega, Or.inr (Or.inr (Or.inl ⟨by omega, by omega, by omega, by omega, by omega, by omega⟩))⟩
theorem ow_13 : isN6 2036687218 844154880 := ⟨25, 5, 1, 18, 0, 0, by omega, by omega, by omega, by omega, by omega, by omega, by omega, Or.inr (Or.inr (Or.inr (Or.inl ⟨by omega, by omega, by omega, by omega, by omega, by omega⟩)))⟩
theorem ow_14 : isN6 1953459300 687214592 := ⟨20, 15, 12, 4, 0, 0, by omega, by omega, by omega, by omega, by omega, by omega, by omega, Or.inr (Or.inr (Or.inr (Or.inl ⟨by omega, by omega, by omega, by omega, by omega, by omega⟩)))⟩
theorem ow_15 : isN6 1650812270 72529920 := ⟨2, 5, 5, 14, 0, 0, by omega, by omega, by omega, by omega, by omega, by omega, by omega, Or.inr (Or.inr (Or.inr (Or.inl ⟨by omega, by omega, by omega, by omega, by omega, by omega⟩)))⟩
theorem ow_16 : isN6 495874044019 658686560 := ⟨19, 20, 5, 16, 19, 0, by omega, by omega, by omega, by omega, by omega, by omega, by omega, Or.inr (Or.inr (Or.inr (Or.inr (Or.inl ⟨by omega, by omega, by omega, by omega, by omega, by omega⟩))))⟩
theorem ow_17 : isN6 1953066341 680956928 := ⟨20, 9, 13, 5, 0, 0, by omega, by omega, by omega, by omega, by omega, by omega, by omega, Or.inr (Or.inr (Or.inr (Or.inl ⟨by omega, by omega, by omega, by omega, by omega, by omega⟩)))⟩
theorem ow_18 : isN6 465726042227 418890336 := ⟨12, 15, 15, 16, 19, 0, by omega, by omega, by omega, by omega, by omega, by omega, by omega, Or.inr (Or.inr (Or.inr (Or.inr (Or.inl ⟨by omega, by omega, by omega, by omega, by omega, by omega⟩))))⟩
theorem ow_19 : isN6 26982 308281344 := ⟨9, 6, 0, 0, 0, 0, by omega, by omega, by omega, by omega, by omega, by omega, by omega, Or.inr (Or.inl ⟨by omega, by omega, by omega, by omega, by omega, by omega⟩)⟩
theorem ow_20 : isN6 28530 522190848 := ⟨15, 18, 0, 0, 0, 0, by omega, by omega, by omega, by omega, by omega, by omega, by omega, Or.inr (Or.inl ⟨by omega, by omega, by omega, by omega, by omega, by omega⟩)⟩
theorem ow_21 : isN6 6385252 48365568 := ⟨1, 14, 4, 0, 0, 0, by omega, by omega, by omega, by omega, by omega, by omega, by omega, Or.inr (Or.inr (Or.inl ⟨by omega, by omega, by omega, by omega, by omega, by omega⟩))⟩
theorem ow_22 : isN6 7237492 486146048 := ⟨14, 15, 20, 0, 0, 0, by omega, by omega, by omega, by omega, by omega, by omega, by omega, Or.inr (Or.inr (Or.inl ⟨by omega, by omega, by omega, by omega, by omega, by omega⟩))⟩
theorem ow_23 : isN6 6384748 46530560 := ⟨1, 12, 12, 0, 0, 0, by omega, by omega, by omega, by omega, by omega, by omega, by omega, Or.inr (Or.inr (Or.inl ⟨by omega, by omega, by omega, by omega, by omega, by omega⟩))⟩
theorem ow_24 : isN6 7170414 446103552 := ⟨13, 9, 14, 0, 0, 0, by omega, by omega, by omega, by omega, by omega, by omega, by omega, Or.inr (Or.inr (Or.inl ⟨by omega, by omega, by omega, by omega, by omega, by omega⟩))⟩
theorem ow_25 : isN6 7168376 438042624 := ⟨13, 1, 24, 0, 0, 0, by omega, by omega, by omega, by omega, by omega, by omega, by omega, Or.inr (Or.inr (Or.inl ⟨by omega, by omega, by omega, by omega, by omega, by omega⟩))⟩
