/-! pure words: ranks, shares, signs, means, as the class's rows give them -/
theorem RT_cap {k : CR1} {v : Nat → Int32} (h : RP k v) {t : Nat} (ht : t < ntV v) : k 10 t = capV v t := (h.2.2.2 t ht).1
theorem RT_lev {k : CR1} {v : Nat → Int32} (h : RP k v) {t : Nat} (ht : t < ntV v) : k 12 t = levV v t := (h.2.2.2 t ht).2.2.1
theorem AH_R {k : CR1} {v : Nat → Int32} (h : RP k v) {o t : Nat} (ho : o < ntV v) (ht : t < ntV v) : AH (k 10) (k 12) o t = AH (capV v) (levV v) o t := by
  unfold AH
  rw [RT_cap h ho, RT_cap h ht, RT_lev h ho, RT_lev h ht]
theorem rk_R {k : CR1} {v : Nat → Int32} (h : RP k v) {t : Nat} (ht : t < ntV v) : ∀ n, n ≤ ntV v → ahN (k 10) (k 12) t n = rkN v t n
  | 0, _ => rfl
  | n + 1, hn => by
    have ih := rk_R h ht n (by omega)
    unfold rkN at ih ⊢
    rw [ahN, ahN, ih, AH_R h (by omega) ht]
theorem isum_cap {k : CR1} {v : Nat → Int32} (h : RP k v) (hV : VG v) : isum (k 10) (ntV v) = nI (sumN (cpN v) (ntV v)) := isum_sumN (fun t ht => (RP_acp h hV t ht).1)
theorem isum_lev {k : CR1} {v : Nat → Int32} (h : RP k v) (hV : VG v) : isum (k 12) (ntV v) = nI (sumN (lvN v) (ntV v)) := isum_sumN (fun t ht => (RP_alv h hV t ht).1)
theorem cap_36 {v : Nat → Int32} (hV : VG v) : sumN (cpN v) (ntV v) ≤ 36 ∧ sumN (lvN v) (ntV v) ≤ 36 ∧ (sumN (cpN v) (ntV v) = 0 ↔ ntV v = 0) := by
  have h4 := hV.2.1.2
  have hV2 := hV.2.2.2.2.2.2.2.1
  have a := sumN_le (f := cpN v) (b := 9) (n := ntV v) (fun t ht => (hV2 t ht).2.2.2)
  have b := sumN_le (f := lvN v) (b := 9) (n := ntV v) (fun t ht => by have := hV2 t ht; omega)
  refine ⟨by omega, by omega, fun h => ?_, fun h => by rw [h]; rfl⟩
  by_cases h0 : 0 < ntV v
  · have := sumN_pos hV.2.2.2.2.2.2.2.2.1 h0
    omega
  · omega
/-- the sign of a number -/
def sg (x : Int32) : Int32 := if x = 0 then 0 else if 0 < x then 1 else -1
theorem sg_z {x : Int32} : sg x = 0 ↔ x = 0 := by
  unfold sg
  by_cases h : x = 0
  · simp [h]
  · rw [if_neg h]
    by_cases h2 : 0 < x
    · rw [if_pos h2]
      exact ⟨fun z => absurd z (by decide), fun z => absurd z h⟩
    · rw [if_neg h2]
      exact ⟨fun z => absurd z (by decide), fun z => absurd z h⟩
theorem sg_lt {x : Int32} (h : ¬ x = 0) : sg x = if x < 0 then -1 else 1 := by
  unfold sg
  rw [if_neg h]
  have h0 : ¬ x.toInt = 0 := fun z => h (Int32.toInt_inj.mp z)
  by_cases h2 : 0 < x
  · rw [if_pos h2, if_neg]
    rw [Int32.lt_iff_toInt_lt] at h2 ⊢
    have : (0 : Int32).toInt = 0 := rfl
    omega
  · rw [if_neg h2, if_pos]
    rw [Int32.lt_iff_toInt_lt] at h2 ⊢
    have : (0 : Int32).toInt = 0 := rfl
    omega
theorem sg_op {x y : Int32} (h : ¬ x = 0) : sg x = - sg y ↔ (¬ y = 0 ∧ ¬ ((y < 0) ↔ (x < 0))) := by
  by_cases hy : y = 0
  · subst hy
    have e : - sg 0 = 0 := by decide
    rw [e]
    exact ⟨fun z => absurd (sg_z.mp z) h, fun z => absurd rfl z.1⟩
  · rw [sg_lt h, sg_lt hy]
    by_cases h1 : x < 0 <;> by_cases h2 : y < 0
    · rw [if_pos h1, if_pos h2]
      exact ⟨fun z => absurd z (by decide), fun z => absurd ⟨fun _ => h1, fun _ => h2⟩ z.2⟩
    · rw [if_pos h1, if_neg h2]
      exact ⟨fun _ => ⟨hy, fun z => h2 (z.mpr h1)⟩, fun _ => rfl⟩
    · rw [if_neg h1, if_pos h2]
      exact ⟨fun _ => ⟨hy, fun z => h1 (z.mp h2)⟩, fun _ => rfl⟩
    · rw [if_neg h1, if_neg h2]
      exact ⟨fun z => absurd z (by decide), fun z => absurd ⟨fun w => absurd w h2, fun w => absurd w h1⟩ z.2⟩
theorem nI_64 {a b : Nat} (h : a + b < 2 ^ 31) : (nI a).toInt64 + (nI b).toInt64 = (nI (a + b)).toInt64 := by
  apply Int64.toInt_inj.mp
  rw [Int64.toInt_add, Int32.toInt_toInt64, Int32.toInt_toInt64, Int32.toInt_toInt64, nI_toInt (by omega), nI_toInt (by omega), nI_toInt (by omega)]
  rw [Int.bmod_eq_of_le (by omega) (by omega)]
  omega
theorem l2d_i (x : Int32) : FP.l2d x.toInt64 = FP.i2d x := by
  show Jvm.FP.Core.l2d x.toInt64 = Jvm.FP.Core.i2d x
  unfold Jvm.FP.Core.l2d Jvm.FP.Core.i2d
  rw [Int32.toInt_toInt64]
theorem isum_nat {f : Nat → Int32} {n : Nat} (h : ∀ k, k < n → ∃ a, a ≤ 255744 ∧ f k = nI a) : ∃ a, a ≤ 255744 * n ∧ isum f n = nI a := by
  induction n with
  | zero => exact ⟨0, by omega, rfl⟩
  | succ n ih =>
    obtain ⟨a, ha, he⟩ := ih (fun k hk => h k (by omega))
    obtain ⟨b, hb, hf⟩ := h n (by omega)
    exact ⟨a + b, by omega, by rw [isum, he, hf, nI_add]⟩
theorem isum_64 {f : Nat → Int32} {i : Nat} (h : ∀ k, k < i + 1 → ∃ a, a ≤ 255744 ∧ f k = nI a) (hi : i < 160) : (isum f i).toInt64 + (f i).toInt64 = (isum f (i + 1)).toInt64 := by
  obtain ⟨a, ha, he⟩ := isum_nat (n := i) (fun k hk => h k (by omega))
  obtain ⟨b, hb, hf⟩ := h i (by omega)
  rw [isum, he, hf, nI_add, nI_64 (by omega)]
theorem flV_abs {v : Nat → Int32} (hV : VG v) {q k : Nat} (hq : q < 4) (hk : k < lnV v q) : ∃ a, a ≤ 255744 ∧ iabs (flV v q (nfV v) k) = nI a := AB_iabs (VG_flV hV hq hk) (by decide)
