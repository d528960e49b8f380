/-- the class's memory, its parser at p -/
def CQ (μ : CM) (p : Nat) : CM := up2 μ 0 22 (upd (μ 0 22) 5 (nI p))
theorem CQ_CQ (μ : CM) (p p2 : Nat) : CQ (CQ μ p) p2 = CQ μ p2 := by
  unfold CQ
  rw [up2_s, up2_2, upd_2]
theorem CQ_id {μ : CM} {p : Nat} (h : μ 0 22 5 = nI p) : CQ μ p = μ := by
  unfold CQ
  rw [← h, upd_id0, up2_id]
theorem CQ_h (μ : CM) (p : Nat) : CQ μ p 0 22 5 = nI p := by
  unfold CQ
  rw [up2_s, upd_s]
theorem CQ_n (μ : CM) (p : Nat) : CQ μ p 0 22 1 = μ 0 22 1 := by
  unfold CQ
  rw [up2_s, upd_o (by decide)]
theorem CQ_t (μ : CM) (p : Nat) : CQ μ p 0 23 = μ 0 23 := by
  unfold CQ
  rw [up2_o (o2 := 23) (o := 22) (by decide)]
theorem CQ_s (μ : CM) (p p2 : Nat) : up2 (CQ μ p) 0 22 (upd (CQ μ p 0 22) 5 (nI p2)) = CQ μ p2 := CQ_CQ μ p p2
