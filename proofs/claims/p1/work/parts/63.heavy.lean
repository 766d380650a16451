/-! the heavy cases: the law up to the reference's call, then the call on the reference's own cells -/
noncomputable def rx_isM (o : Option rx_R) (pc : Nat) (L : rx_L) (S : List rx_V) (cc ss : Nat) : Bool := match o with
  | some (e :: _, L', S', w', cc', ss') => Nat.beq e.1 pc && (@decide _ (rx_dL L' L) && (@decide _ (rx_dS S' S) && (@decide _ (rx_dW (w'.drop 170) (rx_w0.drop 170)) && (Nat.beq w'.length 221 && (Nat.beq cc' cc && Nat.beq ss' ss)))))
  | _ => false
/-- a run to its end in two ways, by the third number -/
noncomputable def rx_isX (x : List rx_E × Nat × Nat × Nat × Nat) (o : Option rx_R) (mid : Nat) (F1 F2 : rx_F) (n : Nat) : Bool := match o with
  | some (e :: _, L', S', w', cc', ss') => Nat.beq e.1 mid && (Nat.beq cc' 0 && (Nat.beq ss' 0 && (rx_isR (rx_mR x F1 99999999 mid L' S' w') n x.2.2.1 x.2.2.2.1 && rx_isR (rx_mR x F2 99999999 mid L' S' w') n x.2.2.1 x.2.2.2.1)))
  | _ => false
section RXH
variable {p : Program} {l : Launch} {e : Env} {s : State} {m : MethodId} {below : List Frame} {meth : Method} {c : Code} {b : Nat} {xs : Nat → Int32} {X : rx_X} {D : va_G}
theorem rx_lawM {L : Nat} (C0 : rx_lawC p s m meth c b L xs X D) {F : rx_F} {sl stop pc pc' : Nat} (hsl : sl = 0 ∨ sl = L + 1) (hF : rx_fok X F) {Lc L' : rx_L} {S S' : List rx_V} {w : List rx_C} {cc ss cc' ss' : Nat} (h : rx_isM (rx_lawR F sl stop (rx_find rx_mL pc) Lc S w cc ss) pc' L' S' cc' ss' = true) (hk : ∀ w' : List rx_C, w'.drop 170 = rx_w0.drop 170 → w'.length = 221 → rx_LW p l e s m below meth c b X D pc' L' S' w' cc' ss') : rx_LW p l e s m below meth c b X D pc Lc S w cc ss := by
  cases ho : rx_lawR F sl stop (rx_find rx_mL pc) Lc S w cc ss with
  | none => rw [ho] at h; cases h
  | some r =>
    refine rx_lawG C0 hsl hF ho (fun e1 rest1 L1 S1 w1 c1 s1 hm hr => ?_)
    rw [ho, hr] at h
    obtain ⟨h1, h⟩ := rx_an (show (Nat.beq e1.1 pc' && _) = true from h)
    obtain ⟨h2, h⟩ := rx_an h
    obtain ⟨h3, h⟩ := rx_an h
    obtain ⟨h4, h⟩ := rx_an h
    obtain ⟨h5, h⟩ := rx_an h
    obtain ⟨h6, h7⟩ := rx_an h
    have h1 := rx_bq h1
    have h2 := @of_decide_eq_true _ (rx_dL _ _) h2
    have h3 := @of_decide_eq_true _ (rx_dS _ _) h3
    have h4 := @of_decide_eq_true _ (rx_dW _ _) h4
    have h5 := rx_bq h5
    have h6 := rx_bq h6
    have h7 := rx_bq h7
    rw [h1, h2, h3, h6, h7]
    exact hk w1 h4 h5
theorem rx_hv (C0 : rx_lawC p s m meth c b 6 xs X D) {Y : rx_Y} {x : List rx_E × Nat × Nat × Nat × Nat} {F : rx_F} {pc idx n cc ss : Nat} {as' : List rx_V} (hx : rx_tOk rx_mis x Y) (hc0 : x.2.2.1 = 0) (hs0 : x.2.2.2.1 = 0) (hF : rx_fok X F)
    (h : rx_isM (rx_lawR F 7 pc (rx_find rx_mL 18) rx_L0 [] rx_w0 221 26609) pc rx_L0 (as'.reverse.map (rx_upV 170) ++ .inr (.inr (.inl (some 170))) :: [.inl (.inl 0)]) cc ss = true)
    (hd : decode code pc = .ok (.invokevirtual idx, 3)) (hcc : cc ≤ 600000) (hss : ss ≤ 7302250) (hmx : Y.2.2.1 ≤ 45) (hcl : ∃ T N, vwCl[12]? = some (Y.1.cls, T, N)) (hi : Cond.initialized Y.1.cls ∈ rx_words) (hst : Cond.instanceMethod Y.1 ∈ rx_words) (hse : Cond.selects Y.1.cls Y.1 Y.1 ∈ rx_words) (hlk : Cond.methodLink "GreyRouteLaw" idx Y.1 ∈ rx_words) (hy : Y.1.cls ≠ "java/lang/invoke/MethodHandle" ∧ Y.1.cls ≠ "java/lang/invoke/VarHandle" ∧ (parseMethodDescriptor Y.1.desc).map (fun d => d.parameters.length) = some n) (hal : as'.length = n) (hca : rx_cats (.inr (.inr (.inl (some 0))) :: as') ≤ x.2.1)
    (hgo : ∀ (p : Program) (e : Env) (s : State) (m : MethodId) (args : Array Value) (below : List Frame) (meth : Method) (c : Code), rx_mC p s m args c meth (rx_Xu X 170) D Y x.2.1 → rx_MW p l e s m args below meth c (rx_Xu X 170) D Y x (.int (nI 0)) 0 (rx_args (.inr (.inr (.inl (some 0))) :: as') 0) [] rx_wm 0 0)
    (hz : rx_isE (rx_loop (rx_G1 [] 7) rx_mL 4 600000 7302250 (rx_cap rx_tb) (rx_ex (rx_G1 [] 7) rx_tb 100 0) 99999999 100 (rx_find rx_mL (pc + 3)) rx_L0 [.inl (.inl 0), .inl (.inl 0)] [] cc ss) = true) : rx_LW p l e s m below meth c b X D 18 rx_L0 [] rx_w0 221 26609 := by
  refine rx_lawM C0 (Or.inr rfl) hF h (fun w' h1 h2 => ?_)
  have hM := rx_mMet (l := l) (wm := rx_wm) hx hca hgo
  rw [hc0, hs0] at hM
  obtain ⟨fs, hw0⟩ := rx_wm0
  exact rx_mcall C0 (F := []) (d := 21) (c1 := 0) (s1 := 0) (k := 170) (ci := 12) hd hcc hss (by decide) hmx hx.2.2.1 hi hst hse hlk hy hcl hw0 (h1.trans rx_wm_up) (by rw [h2, rx_wm_len]) hal (by decide) hM (rx_lawZ C0 hz)
end RXH
theorem rx_nK {X : rx_X} {j k : Nat} (hk : k < 2147483648) (h : rx_b (rx_U X j []) = k + 2147483648) : rx_d X (.inl (.inr (j, []))) = rx_d X (.inl (.inl k)) := by
  show Value.int (rx_U X j []) = Value.int (nI k)
  rw [(rx_eq _ _).mpr (show rx_b (rx_U X j []) = rx_b (nI k) by rw [h, rx_b_nI]; omega)]
theorem rx_mX {p : Program} {l : Launch} {e : Env} {s : State} {m : MethodId} {args : Array Value} {below : List Frame} {meth : Method} {c : Code} {X : rx_X} {D : va_G} {Y : rx_Y} {x : List rx_E × Nat × Nat × Nat × Nat} (hx : rx_tOk rx_mis x Y) (Cm : rx_mC p s m args c meth X D Y x.2.1) {F F1 F2 : rx_F} (hF : rx_fok X F) (hF2 : rx_fok X F1 ∨ rx_fok X F2) {stop pc mid n : Nat} {L : rx_L} {S : List rx_V} {w : List rx_C} (hi : Y.2.2.2 = some .int) (h : rx_isX x (rx_mR x F stop pc L S w) mid F1 F2 n = true) : rx_MW p l e s m args below meth c X D Y x (.int (nI n)) pc L S w 0 0 := by
  cases ho : rx_mR x F stop pc L S w with
  | none => rw [ho] at h; cases h
  | some r =>
    refine rx_mG hx Cm hF ho (fun e1 rest1 L1 S1 w1 c1 s1 hm hr => ?_)
    rw [ho, hr] at h
    obtain ⟨h1, h⟩ := rx_an (show (Nat.beq e1.1 mid && _) = true from h)
    obtain ⟨h2, h⟩ := rx_an h
    obtain ⟨h3, h⟩ := rx_an h
    obtain ⟨h4, h5⟩ := rx_an h
    have h1 := rx_bq h1
    have h2 := rx_bq h2
    have h3 := rx_bq h3
    rw [h1, h2, h3]
    rcases hF2 with hF2 | hF2
    · exact rx_mE hx Cm hF2 hi h4
    · exact rx_mE hx Cm hF2 hi h5
theorem rx_mXF {p : Program} {l : Launch} {e : Env} {s : State} {m : MethodId} {args : Array Value} {below : List Frame} {meth : Method} {c : Code} {X : rx_X} {D : va_G} {Y : rx_Y} {x : List rx_E × Nat × Nat × Nat × Nat} (hx : rx_tOk rx_mis x Y) (Cm : rx_mC p s m args c meth X D Y x.2.1) {F F1 F2 : rx_F} (hF : rx_fok X F) (hF2 : rx_fok X F1 ∨ rx_fok X F2) {stop pc mid n : Nat} {L : rx_L} {S : List rx_V} {w : List rx_C} (hi : Y.2.2.2 = some .int) (h : rx_isX x (rx_mRF x F stop pc L S w) mid F1 F2 n = true) : rx_MW p l e s m args below meth c X D Y x (.int (nI n)) pc L S w 0 0 := rx_mX hx Cm hF hF2 hi (by rw [← rx_mRF_eq]; exact h)
