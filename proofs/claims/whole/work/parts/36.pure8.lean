/-! pure words: means, clips, sums of squares, changes of sign -/
theorem msum_big {g : Nat → Int32} {i t : Nat} (h : i < t) : ∀ {P : Nat}, t ≤ P → msum g i P = msum g i t
  | P, hP => by
    induction P with
    | zero => rw [show t = 0 by omega]
    | succ P ih =>
      by_cases e : t = P + 1
      · rw [e]
      · rw [msum, ih (by omega), if_neg (by omega), I_addz]
theorem mean_c {i t P : Nat} (h : t < P) (ht : t ≤ i) (hi : i < 2 ^ 20) (hP : P < 2 ^ 20) : ¬ nI (i - t) ≤ nI i - nI P := by
  rw [Int32.le_iff_toInt_le, pk_sub_toInt (by omega) (by omega), nI_toInt (by omega)]
  omega
theorem mean_e {i P : Nat} (ht : P ≤ i) : nI (i - P) ≤ nI i - nI P := by
  rw [pk_sub ht]
  exact Int32.le_refl _
theorem dec_c {i t : Nat} (h : t ≤ i) : nI (i - t) - nI 1 = nI i - nI (t + 1) := by
  rw [← pk_sub h, ← nI_add]
  rw [Int32.sub_sub]
theorem dec_e (i : Nat) : nI i - nI (i + 1) = -1 := by
  rw [← nI_add]
  have : nI i - (nI i + nI 1) = -(nI 1) := by
    rw [← Int32.sub_sub, Int32.sub_self, Int32.zero_sub]
  rw [this]
  decide
theorem clip_eq {P : Nat} {y : Int32} (h1 : 1 ≤ P) (hP : P ≤ 999) : (if nI P < y then nI P else if y < -nI P then -nI P else y) = imax (-nI P) (imin (nI P) y) := by
  have hn : -nI P ≤ nI P := by
    rw [Int32.le_iff_toInt_le, sb_negT (by omega), nI_toInt (by omega)]
    omega
  unfold imin
  by_cases a : nI P < y
  · rw [if_pos a, if_pos (Int32.le_of_lt a)]
    unfold imax
    rw [if_pos]
    rw [Int32.lt_iff_toInt_lt, sb_negT (by omega), nI_toInt (by omega)]
    omega
  · rw [if_neg a]
    by_cases b : nI P ≤ y
    · have e : nI P = y := Int32.le_antisymm b (I_nlt.mp a)
      rw [if_pos b, ← e, if_neg (I_nlt.mpr hn)]
      unfold imax
      rw [if_pos]
      rw [Int32.lt_iff_toInt_lt, sb_negT (by omega), nI_toInt (by omega)]
      omega
    · rw [if_neg b]
      unfold imax
      by_cases c : y < -nI P
      · rw [if_pos c, if_neg (I_nlt.mpr (Int32.le_of_lt c))]
      · rw [if_neg c]
        by_cases d : -nI P < y
        · rw [if_pos d]
        · rw [if_neg d]
          exact Int32.le_antisymm (I_nlt.mp d) (I_nlt.mp c)
def sqS (f : Nat → Int32) : Nat → Int64
  | 0 => 0
  | n + 1 => sqS f n + (f n).toInt64 * (f n).toInt64
theorem sqS_congr {f g : Nat → Int32} : ∀ {n : Nat}, (∀ k, k < n → f k = g k) → sqS f n = sqS g n
  | 0, _ => rfl
  | n + 1, h => by rw [sqS, sqS, sqS_congr (fun k hk => h k (by omega)), h n (by omega)]
theorem maxR_congr {f g : Nat → Int32} : ∀ {n : Nat}, (∀ k, k < n → f k = g k) → maxR f n = maxR g n
  | 0, _ => rfl
  | n + 1, h => by rw [maxR, maxR, maxR_congr (fun k hk => h k (by omega)), h n (by omega)]
theorem isum_congr {f g : Nat → Int32} : ∀ {n : Nat}, (∀ k, k < n → f k = g k) → isum f n = isum g n
  | 0, _ => rfl
  | n + 1, h => by rw [isum, isum, isum_congr (fun k hk => h k (by omega)), h n (by omega)]
theorem flR_congr {r1 r2 k1 k2 p1 p2 : Nat → Int32} {n : Nat} (hr : ∀ j, j < n → r1 j = r2 j) : ∀ {f : Nat}, (∀ j, j < f → k1 j = k2 j ∧ p1 j = p2 j) → ∀ j, j < n → flR r1 k1 p1 f j = flR r2 k2 p2 f j
  | 0, _, j, hj => hr j hj
  | f + 1, h, j, hj => by
    rw [flR, flR, (h f (by omega)).1, (h f (by omega)).2]
    exact fpass_congr (fun i hi => flR_congr hr (fun a ha => h a (by omega)) i (by omega))
/-- the last sample that isn't 0 among the first n, 0 where there is none; the changes of sign so far -/
def lastN (f : Nat → Int32) : Nat → Int32
  | 0 => nI 0
  | n + 1 => if f n = 0 then lastN f n else f n
def chgN (f : Nat → Int32) : Nat → Nat
  | 0 => 0
  | n + 1 => if f n = 0 then chgN f n else if ¬ lastN f n = 0 ∧ ¬ ((lastN f n < 0) ↔ (f n < 0)) then chgN f n + 1 else chgN f n
theorem chgN_le (f : Nat → Int32) : ∀ n, chgN f n ≤ n
  | 0 => Nat.le_refl _
  | n + 1 => by
    have := chgN_le f n
    rw [chgN]
    split
    · omega
    · split <;> omega
