/-- the class's memory with a line -/
def LK (μ : CM) (w : WL) : CM := up2 (up2 μ 0 26 (upd (μ 0 26) 1 (nI w.2))) 0 27 w.1
theorem LK_LK (μ : CM) (w w2 : WL) : LK (LK μ w) w2 = LK μ w2 := by
  unfold LK
  rw [up2_o (o2 := 26) (o := 27) (by decide), up2_s, upd_2, up2_c (o := 27) (o2 := 26) (by decide), up2_2, up2_2]
theorem LK_n (μ : CM) (w : WL) : LK μ w 0 26 1 = nI w.2 := by
  unfold LK
  rw [up2_o (o2 := 26) (o := 27) (by decide), up2_s, upd_s]
theorem LK_r (μ : CM) (w : WL) : LK μ w 0 27 = w.1 := by
  unfold LK
  rw [up2_s]
theorem LK_wr1 (μ : CM) (w : WL) (x : Int32) : up2 (up2 (LK μ w) 0 27 (upd (LK μ w 0 27) w.2 x)) 0 26 (upd (LK μ w 0 26) 1 (nI (w.2 + 1))) = LK μ (wr1 w x) := by
  rw [LK_r, up2_c (o := 27) (o2 := 26) (by decide)]
  exact LK_LK μ w (wr1 w x)
theorem LK_0 (μ : CM) (n : Nat) : LK μ (μ 0 27, n) = up2 μ 0 26 (upd (μ 0 26) 1 (nI n)) := by
  have h := up2_id (up2 μ 0 26 (upd (μ 0 26) 1 (nI n))) 0 27
  rw [up2_o (o2 := 27) (o := 26) (by decide)] at h
  exact h
theorem LK_wrn (μ : CM) (w : WL) (n : Nat) : LK (LK μ w) (wrn (LK μ w 0 27, w.2) n) = LK μ (wrn w n) := by
  rw [LK_LK, LK_r]
/-- which powers of ten are written -/
theorem nd_on {n i : Nat} (hi : i ≤ 5) : (p10 (5 - i) ≤ n ∨ i = 5) ↔ 6 - nd n ≤ i := by
  have q0 : p10 (5 - 0) = 100000 := rfl
  have q1 : p10 (5 - 1) = 10000 := rfl
  have q2 : p10 (5 - 2) = 1000 := rfl
  have q3 : p10 (5 - 3) = 100 := rfl
  have q4 : p10 (5 - 4) = 10 := rfl
  have q5 : p10 (5 - 5) = 1 := rfl
  have h : (n < 10 ∧ nd n = 1) ∨ (10 ≤ n ∧ n < 100 ∧ nd n = 2) ∨ (100 ≤ n ∧ n < 1000 ∧ nd n = 3) ∨ (1000 ≤ n ∧ n < 10000 ∧ nd n = 4) ∨ (10000 ≤ n ∧ n < 100000 ∧ nd n = 5) ∨ (100000 ≤ n ∧ nd n = 6) := by
    unfold nd
    repeat' split
    all_goals omega
  rcases (show i = 0 ∨ i = 1 ∨ i = 2 ∨ i = 3 ∨ i = 4 ∨ i = 5 by omega) with e | e | e | e | e | e <;> subst e
  · rw [q0]; constructor <;> intro z <;> omega
  · rw [q1]; constructor <;> intro z <;> omega
  · rw [q2]; constructor <;> intro z <;> omega
  · rw [q3]; constructor <;> intro z <;> omega
  · rw [q4]; constructor <;> intro z <;> omega
  · rw [q5]; constructor <;> intro z <;> omega
theorem tnP_w {n i : Nat} (hi : i ≤ 5) (h : 6 - nd n ≤ i) : tnP 5 i = tnP (nd n - 1) (i - (6 - nd n)) := by
  have h1 := nd_1 n
  have h6 := nd_6 n
  unfold tnP
  rw [if_pos hi, if_pos (by omega), show 5 - i = nd n - 1 - (i - (6 - nd n)) by omega]
theorem p10_1 : ∀ {k : Nat}, p10 k = 1 → k = 0
  | 0, _ => rfl
  | k + 1, h => by rw [p10] at h; omega
theorem tnP_p {i : Nat} (h : i ≤ 5) : tnP 5 i = p10 (5 - i) := by
  unfold tnP
  rw [if_pos h]
