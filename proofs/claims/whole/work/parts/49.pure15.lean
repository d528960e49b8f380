theorem sumN_pos {f : Nat → Nat} {n : Nat} (h : ∀ k, k < n → 1 ≤ f k) (hn : 0 < n) : 0 < sumN f n := by
  obtain ⟨k, rfl⟩ : ∃ k, n = k + 1 := ⟨n - 1, by omega⟩
  have := h k (by omega)
  rw [sumN]
  omega
