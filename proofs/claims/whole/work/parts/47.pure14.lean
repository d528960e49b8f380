/-! pure words: quotients that are numbers -/
def G64 (n : Nat) : Prop := ∃ S E T, S ≤ 1 ∧ E ≤ 2047 ∧ T < 4503599627370496 ∧ (E = 2047 → T = 0) ∧ n = (S * 2048 + E) * 4503599627370496 + T
theorem b64_t : Jvm.FP.Core.b64.tails = 4503599627370496 := by decide +kernel
theorem b64_e : Jvm.FP.Core.b64.exps = 2048 := by decide +kernel
theorem b64_n : Jvm.FP.Core.b64.qmin = -1074 := by decide +kernel
theorem b64_x : Jvm.FP.Core.b64.qmax = 971 := by decide +kernel
theorem b64_p : (2 : Nat) ^ Jvm.FP.Core.b64.p = 9007199254740992 := by decide +kernel
theorem tn_1 (s : Bool) : s.toNat ≤ 1 := by cases s <;> decide
theorem G64_inf (s : Bool) : G64 (Jvm.FP.Core.encode Jvm.FP.Core.b64 (.inf s)) := by
  refine ⟨s.toNat, 2047, 0, tn_1 s, Nat.le_refl _, by decide, fun _ => rfl, ?_⟩
  simp only [Jvm.FP.Core.encode, Jvm.FP.Core.assemble, b64_t, b64_e]
theorem G64_bound (s : Bool) {c : Nat} (q : Int) (hc : c < 9007199254740992) : G64 (Jvm.FP.Core.encode Jvm.FP.Core.b64 (Jvm.FP.Core.bound Jvm.FP.Core.b64 s c q)) := by
  unfold Jvm.FP.Core.bound
  rw [b64_x]
  by_cases h : q ≤ 971
  · rw [if_pos h]
    simp only [Jvm.FP.Core.encode, Jvm.FP.Core.assemble, b64_t, b64_e, b64_n]
    by_cases h2 : c < 4503599627370496
    · rw [if_pos h2]
      exact ⟨s.toNat, 0, c, tn_1 s, by decide, h2, fun z => absurd z (by decide), rfl⟩
    · rw [if_neg h2]
      exact ⟨s.toNat, (q - -1074).toNat + 1, c - 4503599627370496, tn_1 s, by omega, by omega, fun z => by omega, rfl⟩
  · rw [if_neg h]
    exact G64_inf s
theorem G64_settle (s : Bool) (c : Nat) (q : Int) : G64 (Jvm.FP.Core.encode Jvm.FP.Core.b64 (Jvm.FP.Core.settle Jvm.FP.Core.b64 s c q)) := by
  unfold Jvm.FP.Core.settle
  rw [b64_p]
  by_cases h : c < 9007199254740992
  · rw [if_pos h]
    exact G64_bound s q h
  · rw [if_neg h]
    exact G64_bound s _ (by rw [b64_t]; decide)
theorem G64_ratio (s : Bool) (a b : Nat) (e : Int) : G64 (Jvm.FP.Core.encode Jvm.FP.Core.b64 (Jvm.FP.Core.roundRatio Jvm.FP.Core.b64 s a b e)) := by
  unfold Jvm.FP.Core.roundRatio
  by_cases h : a = 0
  · rw [if_pos h]
    simp only [Jvm.FP.Core.encode, Jvm.FP.Core.assemble, b64_t, b64_e, b64_n]
    rw [if_pos (by decide)]
    exact ⟨s.toNat, 0, 0, tn_1 s, by decide, by decide, fun z => rfl, rfl⟩
  · rw [if_neg h]
    exact G64_settle s _ _
theorem G64_lt {n : Nat} (h : G64 n) : n < 18446744073709551616 := by
  obtain ⟨S, E, T, h1, h2, h3, h4, rfl⟩ := h
  omega
theorem G64_nan {n : Nat} (h : G64 n) : Jvm.FP.Core.decode Jvm.FP.Core.b64 n ≠ .nan := by
  obtain ⟨S, E, T, h1, h2, h3, h4, rfl⟩ := h
  have e1 : ((S * 2048 + E) * 4503599627370496 + T) % 4503599627370496 = T := by omega
  have e2 : ((S * 2048 + E) * 4503599627370496 + T) / 4503599627370496 = S * 2048 + E := by omega
  unfold Jvm.FP.Core.decode Jvm.FP.Core.fieldE Jvm.FP.Core.fieldT
  rw [b64_t, b64_e, e1, e2]
  by_cases h : (S * 2048 + E) % 2048 = 2048 - 1
  · rw [if_pos h, if_pos (h4 (by omega))]
    intro z
    cases z
  · rw [if_neg h]
    split <;> (intro z; cases z)
theorem G64_vf {n : Nat} (h : G64 n) : vf_n64 (UInt64.ofNat n) := by
  have hl := G64_lt h
  obtain ⟨S, E, T, h1, h2, h3, h4, rfl⟩ := h
  unfold vf_n64
  rw [UInt64.le_iff_toNat_le, UInt64.toNat_and, UInt64.toNat_ofNat_of_lt' (by exact hl)]
  have e : (9223372036854775807 : UInt64).toNat = 2 ^ 63 - 1 := by decide
  rw [e, Nat.and_two_pow_sub_one_eq_mod]
  have e2 : (9218868437227405312 : UInt64).toNat = 9218868437227405312 := by decide
  rw [e2]
  omega
theorem i2d_num (a : Int32) : Jvm.FP.Core.decode Jvm.FP.Core.b64 (FP.i2d a).toNat ≠ .nan := by
  have h : G64 (Jvm.FP.Core.fromInt Jvm.FP.Core.b64 a.toInt) := G64_ratio _ _ _ _
  show Jvm.FP.Core.decode Jvm.FP.Core.b64 (UInt64.ofNat (Jvm.FP.Core.fromInt Jvm.FP.Core.b64 a.toInt)).toNat ≠ .nan
  rw [UInt64.toNat_ofNat_of_lt' (by exact G64_lt h)]
  exact G64_nan h
/-- a number other than zero -/
def nz64 (b : UInt64) : Bool := match Jvm.FP.Core.decode Jvm.FP.Core.b64 b.toNat with
  | .fin _ c _ => decide (¬ c = 0)
  | _ => false
theorem ddiv_num {a b : UInt64} (ha : Jvm.FP.Core.decode Jvm.FP.Core.b64 a.toNat ≠ .nan) (hb : nz64 b = true) : vf_n64 (FP.ddiv a b) := by
  show vf_n64 (UInt64.ofNat (Jvm.FP.Core.div Jvm.FP.Core.b64 a.toNat b.toNat))
  apply G64_vf
  unfold Jvm.FP.Core.div
  unfold nz64 at hb
  cases hd : Jvm.FP.Core.decode Jvm.FP.Core.b64 b.toNat with
  | nan => rw [hd] at hb; cases hb
  | inf s => rw [hd] at hb; cases hb
  | fin t d r =>
    rw [hd] at hb
    have hd0 : ¬ d = 0 := of_decide_eq_true hb
    cases hx : Jvm.FP.Core.decode Jvm.FP.Core.b64 a.toNat with
    | nan => exact absurd hx ha
    | inf s => exact G64_inf _
    | fin s c q =>
      simp only [Jvm.FP.Core.quotient]
      rw [if_neg hd0]
      exact G64_ratio _ _ _ _
theorem nz_all : (List.range 160).all (fun n => nz64 (FP.i2d (nI (n + 1)))) = true := by decide +kernel
theorem ddiv_ok (a : Int32) {n : Nat} (h1 : 0 < n) (h2 : n ≤ 160) : vf_n64 (FP.ddiv (FP.i2d a) (FP.i2d (nI n))) := by
  have h := List.all_eq_true.mp nz_all (n - 1) (List.mem_range.mpr (by omega))
  rw [show n - 1 + 1 = n by omega] at h
  exact ddiv_num (i2d_num a) h
def nz32 (r : UInt32) : Bool := decide (r &&& 0x7fffffff ≤ 0x7f800000)
theorem fd_all : (List.range 37).all (fun a => (List.range 36).all (fun b => nz32 (FP.fdiv (FP.i2f (nI a)) (FP.i2f (nI (b + 1)))))) = true := by decide +kernel
theorem fdiv_ok {a n : Nat} (ha : a ≤ 36) (h1 : 0 < n) (h2 : n ≤ 36) : vf_n32 (FP.fdiv (FP.i2f (nI a)) (FP.i2f (nI n))) := by
  have h := List.all_eq_true.mp (List.all_eq_true.mp fd_all a (List.mem_range.mpr (by omega))) (n - 1) (List.mem_range.mpr (by omega))
  rw [show n - 1 + 1 = n by omega] at h
  show (FP.fdiv (FP.i2f (nI a)) (FP.i2f (nI n)) &&& 0x7fffffff) ≤ 0x7f800000
  exact of_decide_eq_true h
