/-! printed by wip/pw/r/q3.py: what a token is not -/
def NWq (s : zS) (c : Int) : Prop := ¬ (s 170 3 = 1 ∧ s 170 7 = c)
def NSq (s : zS) (c : Int) : Prop := ¬ (s 170 3 = 3 ∧ s 170 6 = c)
theorem RV_w {s : zS} {k v c : Int} (h5 : ¬ k = 5) (h : RV s k v) (hn : ¬ (k = 1 ∧ v = c)) : NWq s c := by
  unfold RV at h; unfold NWq
  intro q
  rcases h with h | h | h | h | h <;> omega
theorem RV_s {s : zS} {k v c : Int} (h5 : ¬ k = 5) (h : RV s k v) (hn : ¬ (k = 3 ∧ v = c)) : NSq s c := by
  unfold RV at h; unfold NSq
  intro q
  rcases h with h | h | h | h | h <;> omega
theorem RV_5 {s : zS} {k v : Int} (h : RV s k v) (hn : ¬ k = 5) : s 170 12 = -1 := by
  unfold RV at h
  rcases h with h | h | h | h | h <;> omega
theorem RV_2 {s : zS} {k v : Int} (h : RV s k v) (hn : ¬ k = 2) : ¬ (s 170 3 = 2 ∧ s 170 12 = -1) := by
  unfold RV at h
  rcases h with h | h | h | h | h <;> omega
