theorem chT_in {t : Nat → Nat} {n p x : Nat} (hx : x < 2 ^ 31) (h : chT t n p = nI x) : p < n := by
  unfold chT at h
  by_cases h2 : p < n
  · exact h2
  · rw [if_neg h2] at h
    exact absurd h.symm (nI_m1 hx)
