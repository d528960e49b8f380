/-! pure words: how great samples grow -/
theorem tI_bm {x : Int} (h1 : -2147483648 ≤ x) (h2 : x < 2147483648) : x.bmod (2 ^ 32) = x := by
  apply Int.bmod_eq_of_le_mul_two <;> omega
theorem tI_add {a b : Int32} (h1 : -2147483648 ≤ a.toInt + b.toInt) (h2 : a.toInt + b.toInt < 2147483648) : (a + b).toInt = a.toInt + b.toInt := by
  rw [Int32.toInt_add, tI_bm h1 h2]
theorem tI_neg {a : Int32} (h1 : -2147483648 < a.toInt) : (-a).toInt = -a.toInt := by
  have := Int32.toInt_lt a
  rw [Int32.toInt_neg, tI_bm (by omega) (by omega)]
theorem tI_mul {a b : Int32} (h1 : -2147483648 ≤ a.toInt * b.toInt) (h2 : a.toInt * b.toInt < 2147483648) : (a * b).toInt = a.toInt * b.toInt := by
  rw [Int32.toInt_mul, tI_bm h1 h2]
theorem tI_div {a : Int32} {n : Nat} (hn : n < 2 ^ 20) (h1 : -2147483648 < a.toInt) : (a / nI n).toInt.natAbs = a.toInt.natAbs / n := by
  have h3 := Int32.toInt_lt a
  have e : (nI n).toInt = n := nI_toInt (by omega)
  have h5 : (a.toInt.tdiv n).natAbs = a.toInt.natAbs / n := by
    rw [Int.natAbs_tdiv]
    rfl
  have h6 : a.toInt.natAbs / n ≤ a.toInt.natAbs := Nat.div_le_self _ _
  rw [Int32.toInt_div, e, tI_bm (by omega) (by omega), h5]
def AB (x : Int32) (M : Nat) : Prop := x.toInt.natAbs ≤ M
theorem AB_mono {x : Int32} {M N : Nat} (h : AB x M) (hMN : M ≤ N) : AB x N := Nat.le_trans h hMN
theorem AB_0 (M : Nat) : AB (nI 0) M := by
  unfold AB
  rw [nI_toInt (by decide)]
  exact Nat.zero_le _
theorem AB_nI {n M : Nat} (h : n ≤ M) (hn : n < 2 ^ 31) : AB (nI n) M := by
  unfold AB
  rw [nI_toInt hn]
  omega
theorem AB_neg {x : Int32} {M : Nat} (h : AB x M) (hM : M < 2147483648) : AB (-x) M := by
  unfold AB at h ⊢
  rw [tI_neg (by omega)]
  omega
theorem AB_add {x y : Int32} {M N : Nat} (h : AB x M) (h2 : AB y N) (hM : M + N < 2147483648) : AB (x + y) (M + N) := by
  unfold AB at h h2 ⊢
  rw [tI_add (by omega) (by omega)]
  omega
theorem AB_div {x : Int32} {M n : Nat} (h : AB x M) (hM : M < 2147483648) (hn : n < 2 ^ 20) : AB (x / nI n) (M / n) := by
  unfold AB at h ⊢
  rw [tI_div hn (by omega)]
  exact Nat.div_le_div_right h
theorem natAbs_lt {x : Int} {M : Nat} (h : x.natAbs ≤ M) (hM : M < 2147483648) : -2147483648 ≤ x ∧ x < 2147483648 := by omega
theorem AB_mul {x : Int32} {M n : Nat} (h : AB x M) (hn : n < 2 ^ 20) (hM : M * n < 2147483648) : AB (x * nI n) (M * n) := by
  unfold AB at h ⊢
  have e : (nI n).toInt = n := nI_toInt (by omega)
  have h2 : (x.toInt * n).natAbs ≤ M * n := by
    rw [Int.natAbs_mul]
    exact Nat.mul_le_mul h (Nat.le_refl n)
  have h3 := natAbs_lt h2 hM
  rw [tI_mul (by rw [e]; exact h3.1) (by rw [e]; exact h3.2), e]
  exact h2
theorem AB_iabs {x : Int32} {M : Nat} (h : AB x M) (hM : M < 2147483648) : ∃ a, a ≤ M ∧ iabs x = nI a := by
  refine ⟨x.toInt.natAbs, h, ?_⟩
  unfold AB at h
  apply Int32.toInt_inj.mp
  rw [nI_toInt (by omega)]
  unfold iabs
  by_cases h1 : x < 0
  · rw [if_pos h1, tI_neg (by omega)]
    rw [Int32.lt_iff_toInt_lt] at h1
    have : (0 : Int32).toInt = 0 := by decide
    omega
  · rw [if_neg h1]
    rw [Int32.lt_iff_toInt_lt] at h1
    have : (0 : Int32).toInt = 0 := by decide
    omega
