/-! codes: how many there are, and the machine that reads sums (a stack of frames, each with what it holds back) -/
theorem tk_lt {t : Int → Int} {n p k v q : Int} (h : tk t n p k v q) (h0 : 0 ≤ p) (hk : k = 1 ∨ k = 2 ∨ k = 3) : p < q ∧ q ≤ n ∧ p < n := by
  obtain ⟨e, ⟨h1, h2⟩, h3⟩ := h
  have q1 := h3.1
  have qn : e ≤ n → q ≤ n := fun z => wrn_in (P := wbl) (by unfold wbl; omega) z h3
  rcases h2 with ⟨a1, a2, a3, a4⟩ | ⟨a1, a2, m, hm, a3⟩ | ⟨a1, a2, m, hm, a3⟩ | ⟨a1, a2, a3, a4, a5, a6⟩
  · omega
  · have z := CP_end h0 a1 a2 hm
    have m1 := wrn_in (P := wle) (by unfold wle; omega) (by omega) hm
    have : e = m := by omega
    omega
  · have z : p < m := by
      have h1 := hm.1
      have h3 : ¬ wdi (tcc t n m) := hm.2.2
      by_cases q : m = p
      · rw [q, tcc_in ⟨h0, a1⟩] at h3
        exact absurd a2 h3
      · omega
    have m1 := wrn_in (P := wdi) (by unfold wdi; omega) (by omega) hm
    have : e = m := by omega
    omega
  · omega
theorem Gr_len {t : Int → Int} {n : Int} {cv : Prop} {tag : Nat} {o p q : Int} {c : List Int} (h : Gr t n cv tag o p q c) : 0 ≤ p → p ≤ q ∧ (c.length : Int) ≤ q - p := by
  refine h (fun tag o p q c => 0 ≤ p → p ≤ q ∧ (c.length : Int) ≤ q - p) ⟨?_, ?_, ?_, ?_, ?_, ?_, ?_, ?_, ?_, ?_, ?_, ?_, ?_, ?_, ?_, ?_, ?_, ?_, ?_, ?_, ?_, ?_⟩
  · intro o p q r c1 c2 h1 h2 h0
    have a := h1 h0; have b := h2 (by omega)
    rw [List.length_append]; omega
  · intro o p k v e h1 h2 h0
    rw [List.length_nil]; omega
  · intro o p v e q r c1 c2 h1 h2 h3 h4 h0
    have l := tk_lt h1 h0 (by omega); have a := h3 (by omega); have b := h4 (by omega)
    rw [List.length_append, List.length_cons]; omega
  · intro o p q r c1 c2 h1 h2 h0
    have a := h1 h0; have b := h2 (by omega)
    rw [List.length_append]; omega
  · intro o p k v e h1 h2 h0
    rw [List.length_nil]; omega
  · intro o p v e q r c1 c2 h1 h2 h3 h4 h0
    have l := tk_lt h1 h0 (by omega); have a := h3 (by omega); have b := h4 (by omega)
    rw [List.length_append, List.length_cons]; omega
  · intro o p v e h1 h0
    have l := tk_lt h1 h0 (by omega)
    rw [List.length_singleton]; omega
  · intro o p v e h1 h2 h0
    have l := tk_lt h1 h0 (by omega)
    rw [List.length_singleton]; omega
  · intro o p e q e1 c1 h1 h2 h3 h4 h0
    have l := tk_lt h1 h0 (by omega); have a := h3 (by omega); have l2 := tk_lt h4 (by omega) (by omega)
    omega
  · intro o p v e e1 q e2 q2 e3 c1 c2 h1 h2 h3 h4 h5 h6 h7 h8 h0
    have l := tk_lt h1 h0 (by omega); have l3 := tk_lt h3 (by omega) (by omega); have a := h5 (by omega); have l6 := tk_lt h6 (by omega) (by omega); have b := h7 (by omega); have l8 := tk_lt h8 (by omega) (by omega)
    rw [List.length_append, List.length_append, List.length_singleton]; omega
  · intro o p e e1 q e2 q2 e3 q3 e4 c1 c2 c3 h1 h2 h3 h4 h5 h6 h7 h8 h9 h0
    have l := tk_lt h1 h0 (by omega); have l2 := tk_lt h2 (by omega) (by omega); have a := h4 (by omega); have l5 := tk_lt h5 (by omega) (by omega); have b := h6 (by omega); have l7 := tk_lt h7 (by omega) (by omega); have d := h8 (by omega); have l9 := tk_lt h9 (by omega) (by omega)
    rw [List.length_append, List.length_append, List.length_append, List.length_singleton]; omega
  · intro o p q r c1 c2 h1 h2 h0
    have a := h1 h0; have b := h2 (by omega)
    rw [List.length_append]; omega
  · intro o p k v e h1 h2 h0
    rw [List.length_nil]; omega
  · intro o p e q r c1 c2 h1 h3 h4 h0
    have l := tk_lt h1 h0 (by omega); have a := h3 (by omega); have b := h4 (by omega)
    rw [List.length_append, List.length_cons]; omega
  · intro o p q r c1 c2 h1 h2 h0
    have a := h1 h0; have b := h2 (by omega)
    rw [List.length_append]; omega
  · intro o p k v e h1 h2 h0
    rw [List.length_nil]; omega
  · intro o p e q r c1 c2 h1 h3 h4 h0
    have l := tk_lt h1 h0 (by omega); have a := h3 (by omega); have b := h4 (by omega)
    rw [List.length_append, List.length_cons]; omega
  · intro o p e q c1 h1 h2 h3 h0
    have l := tk_lt h1 h0 (by omega); have a := h3 (by omega)
    rw [List.length_append, List.length_singleton]; omega
  · intro o p e q e1 c1 h1 h2 h3 h4 h0
    have l := tk_lt h1 h0 (by omega); have a := h3 (by omega); have l2 := tk_lt h4 (by omega) (by omega)
    omega
  · intro o p e h1 h0
    have l := tk_lt h1 h0 (by omega)
    rw [List.length_singleton]; omega
  · intro o p k v e q c1 h1 h2 h3 h4 h0
    exact h4 h0
  · intro o p q v e r c1 c2 h1 h2 h3 h4 h0
    have a := h1 h0; have l := tk_lt h2 (by omega) (by omega); have b := h4 (by omega)
    rw [List.length_append, List.length_append, List.length_singleton]; omega
/-! the machine -/
abbrev mFr : Type := Int × Int × Int × Int × List Int
abbrev mKH : Type := List mFr → Int → Int → List Int → Int → Prop
def isT (k : Int) : Prop := k = 1 ∨ k = 5 ∨ k = 6
noncomputable def nots (u : List Int) : Int := List.rec 0 (fun x _ ih => (if x = 43 then 1 else 0) + ih) u
theorem nots_c (x : Int) (l : List Int) : nots (x :: l) = (if x = 43 then 1 else 0) + nots l := rfl
theorem nots_n : nots [] = 0 := rfl
theorem nots_app (u v : List Int) : nots (u ++ v) = nots u + nots v := by
  induction u with
  | nil => show nots v = 0 + nots v; omega
  | cons x l ih => rw [List.cons_append, nots_c, nots_c, ih]; omega
theorem nots_b (u : List Int) : 0 ≤ nots u ∧ nots u ≤ (u.length : Int) := by
  induction u with
  | nil => rw [nots_n, List.length_nil]; omega
  | cons x l ih =>
    rw [nots_c, List.length_cons]
    split <;> omega
def RG (u : List Int) (r : Int) : Prop := ∀ x : Int, x ∈ u → r ≤ rkf x
def TR (w : List Int) (r : Int) : Prop := ∀ (x : Int) (l : List Int), w = x :: l → rkf x < r
theorem rkf_bb (x : Int) : 1 ≤ rkf x ∧ rkf x ≤ 6 := by
  unfold rkf
  repeat' split
  all_goals omega
theorem RG_nil (r : Int) : RG [] r := fun x hx => by cases hx
theorem RG_1 (u : List Int) : RG u 1 := fun x _ => (rkf_bb x).1
theorem RG_app {u v : List Int} {r : Int} (h : RG u r) (k : RG v r) : RG (u ++ v) r := fun x hx => (List.mem_append.mp hx).elim (h x) (k x)
theorem RG_one {x r : Int} (h : r ≤ rkf x) : RG [x] r := fun y hy => by rw [List.mem_singleton.mp hy]; exact h
theorem RG_le {u : List Int} {r r' : Int} (h : RG u r) (k : r' ≤ r) : RG u r' := fun x hx => by have := h x hx; omega
theorem RG_hd {x : Int} {u : List Int} {r : Int} (h : RG (x :: u) r) : r ≤ rkf x := h x List.mem_cons_self
theorem RG_tl {x : Int} {u : List Int} {r : Int} (h : RG (x :: u) r) : RG u r := fun y hy => h y (List.mem_cons_of_mem _ hy)
theorem TR_nil (r : Int) : TR [] r := fun x l e => by cases e
theorem TR_c {x r : Int} {w : List Int} (h : rkf x < r) : TR (x :: w) r := fun y l e => by
  have : x = y := (List.cons.inj e).1
  rw [← this]; exact h
theorem TR_le {w : List Int} {r r' : Int} (h : TR w r) (k : r ≤ r') : TR w r' := fun x l e => by have := h x l e; omega
theorem RG_nots {u : List Int} (h : RG u 4) : nots u = 0 := by
  induction u with
  | nil => rfl
  | cons x l ih =>
    rw [nots_c, ih (RG_tl h)]
    have z := RG_hd h
    split
    · rename_i q
      rw [q] at z
      exact absurd z (by decide)
    · rfl
theorem rk_a {v : Int} (h : v = 43 ∨ v = 45) : rkf (sop v) = 5 := by rcases h with rfl | rfl <;> rfl
theorem rk_m {v : Int} (h : v = 42 ∨ v = 47 ∨ v = 37) : rkf (sop v) = 6 := by rcases h with rfl | rfl | rfl <;> rfl
theorem rk_c {v : Int} (h : v = 60 ∨ v = 61 ∨ v = 62) : rkf (sop v) = 4 := by rcases h with rfl | rfl | rfl <;> rfl
def arS (k v : Int) : Prop := k = 3 ∧ (v = 43 ∨ v = 45 ∨ v = 42 ∨ v = 47 ∨ v = 37)
def cmS (k v : Int) : Prop := k = 3 ∧ (v = 60 ∨ v = 61 ∨ v = 62)
def aoS (k v : Int) : Prop := k = 1 ∧ (v = 6385252 ∨ v = 28530)
def NM (t : Int → Int) (n p : Int) : Prop := ∀ k v e : Int, tk t n p k v e → ¬ (k = 3 ∧ (v = 42 ∨ v = 47 ∨ v = 37))
def NA (t : Int → Int) (n p : Int) : Prop := ∀ k v e : Int, tk t n p k v e → ¬ arS k v
def NAn (t : Int → Int) (n p : Int) : Prop := ∀ k v e : Int, tk t n p k v e → ¬ (k = 1 ∧ v = 6385252)
def NAO (t : Int → Int) (n p : Int) : Prop := ∀ k v e : Int, tk t n p k v e → ¬ aoS k v
def NB (t : Int → Int) (n k bg p : Int) : Prop := isT k → bg = 1 → ∀ kk v e : Int, tk t n p kk v e → ¬ (kk = 1 ∧ (v = 7237492 ∨ v = 6384748)) ∧ ¬ (kk = 3 ∧ v = 91)
def PHC (t : Int → Int) (n ph p : Int) : Prop := ph = 2 ∨ (ph = 1 ∧ NA t n p)
