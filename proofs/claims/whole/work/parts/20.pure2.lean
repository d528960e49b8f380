/-! pure words: notes -/
def NV (P am le : Int32) : Prop := (nI 2 ≤ P ∧ P ≤ nI 20) ∧ (nI 1 ≤ am ∧ am ≤ nI 999) ∧ (nI 1 ≤ le ∧ le ≤ nI 40)
/-- the raw samples of a note, laid from s0 on, the first i of them -/
def ntR (f : Nat → Int32) (s0 P : Nat) (am : Int32) (i : Nat) : Nat → Int32 := fun k => if s0 ≤ k ∧ k < s0 + i then (if (k - s0) % P < P / 2 then am else -am) else f k
theorem ntR_0 (f : Nat → Int32) (s0 P : Nat) (am : Int32) : ntR f s0 P am 0 = f := by
  funext k
  simp only [ntR]
  split
  · omega
  · rfl
theorem ntR_step (f : Nat → Int32) (s0 P : Nat) (am : Int32) (i : Nat) {y : Int32} (hy : y = if i % P < P / 2 then am else -am) : upd (ntR f s0 P am i) (s0 + i) y = ntR f s0 P am (i + 1) := by
  funext k
  by_cases hk : k = s0 + i
  · subst hk
    rw [upd_s]
    simp only [ntR]
    rw [if_pos (by omega), Nat.add_sub_cancel_left, hy]
  · rw [upd_o hk]
    simp only [ntR]
    by_cases h : s0 ≤ k ∧ k < s0 + i
    · rw [if_pos h, if_pos (show s0 ≤ k ∧ k < s0 + (i + 1) by omega)]
    · rw [if_neg h, if_neg (show ¬ (s0 ≤ k ∧ k < s0 + (i + 1)) by omega)]
theorem nt_step (μ : CM) (b : Nat) {s0 P i : Nat} {am y : Int32} (h : s0 + i < 640) (hy : y = if i % P < P / 2 then am else -am) :
    up2 (up2 μ b 5 (ntR (μ b 5) s0 P am i)) b 5 (wr 640 (up2 μ b 5 (ntR (μ b 5) s0 P am i) b 5) (nI (s0 + i)) y) = up2 μ b 5 (ntR (μ b 5) s0 P am (i + 1)) := by
  rw [up2_2, up2_s, wr_in (n := 640) (k := s0 + i) _ _ h (by decide), ntR_step _ _ _ _ _ hy]
theorem mod_s1 {i P ph : Nat} (h : ph = i % P) (h2 : ph + 1 < P) : ph + 1 = (i + 1) % P := by
  rw [Nat.add_mod, ← h, Nat.mod_eq_of_lt (show 1 < P by omega), Nat.mod_eq_of_lt h2]
theorem mod_s0 {i P ph : Nat} (h : ph = i % P) (h1 : 2 ≤ P) (h2 : P ≤ ph + 1) : 0 = (i + 1) % P := by
  have h3 : i % P < P := Nat.mod_lt _ (by omega)
  have e : ph + 1 = P := by omega
  rw [Nat.add_mod, ← h, Nat.mod_eq_of_lt (show 1 < P by omega), e, Nat.mod_self]
