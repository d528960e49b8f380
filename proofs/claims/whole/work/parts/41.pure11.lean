/-! pure words: strongest song, signs, ranks over the model's row -/
theorem up1_p {ν : MM} {i : Nat} {f : Nat → Int32} (h : ν i = f) : up1 ν i f = ν := by
  rw [← h, up1_id]
def stg (f : Nat → Int64) : Nat → Nat
  | 0 => 0
  | n + 1 => if f (stg f n) < f n then n else stg f n
theorem stg_lt (f : Nat → Int64) : ∀ n, stg f (n + 1) < n + 1
  | 0 => by rw [stg]; split <;> simp [stg]
  | n + 1 => by
    have := stg_lt f n
    rw [stg]
    split
    · exact Nat.lt_succ_self _
    · omega
theorem stg_1 (f : Nat → Int64) : stg f 1 = 0 := by
  have h : stg f (0 + 1) < 0 + 1 := stg_lt f 0
  exact Nat.lt_one_iff.mp h
theorem lgc_le {x y : Int64} : lg_cmp x y ≤ 0 ↔ ¬ y < x := by
  unfold lg_cmp
  by_cases h : y < x
  · simp [h]
  · by_cases e : x = y
    · simp [e]
    · simp [h, e]
theorem sb_eq {a b : Nat} (ha : a < 2 ^ 30) (hb : b < 2 ^ 30) : nI a - nI b = 0 ↔ a = b := by
  constructor
  · intro h
    have h1 : nI a = nI b := by
      have := congrArg (· + nI b) h
      simp only [Int32.sub_add_cancel, Int32.zero_add] at this
      exact this
    exact (nI_eq (by omega) (by omega)).mp h1
  · intro h
    rw [h, Int32.sub_self]
theorem sb_gt {a b : Nat} (ha : a < 2 ^ 30) (hb : b < 2 ^ 30) : 0 < nI a - nI b ↔ b < a := by
  by_cases h : a < b
  · constructor
    · intro h1
      have h2 := pk_sneg hb h
      exact absurd (Int32.le_of_lt h1) (fun z => absurd h2 (I_nlt.mpr z))
    · omega
  · rw [pk_sub (by omega)]
    constructor
    · intro h1
      rcases Nat.eq_zero_or_pos (a - b) with e | e
      · rw [e] at h1
        exact absurd h1 (by decide)
      · omega
    · intro h1
      exact nI_lt (a := 0) (by omega) (by omega)
def AHV (cp lv : Nat → Nat) (o t : Nat) : Prop := if lv o = lv t then (if cp o = cp t then o < t else cp o < cp t) else lv t < lv o
theorem AHV_of {v : Nat → Int32} {nt o t : Nat} {cp lv : Nat → Nat} (h : VT v nt cp lv) (ho : o < nt) (ht : t < nt) : AH (capV v) (levV v) o t ↔ AHV cp lv o t := by
  have a := h o ho
  have b := h t ht
  unfold AH AHV
  have e1 : (levV v o = levV v t) ↔ lv o = lv t := by
    rw [levV, levV, a.2.1, b.2.1]
    exact ⟨fun z => (nI_eq (by omega) (by omega)).mp z, fun z => by rw [z]⟩
  have e2 : (capV v o = capV v t) ↔ cp o = cp t := by
    rw [capV, capV, a.1, b.1]
    exact ⟨fun z => (nI_eq (by omega) (by omega)).mp z, fun z => by rw [z]⟩
  have e3 : (levV v t < levV v o) ↔ lv t < lv o := by
    rw [levV, levV, a.2.1, b.2.1]
    exact nI_ltI (by omega) (by omega)
  have e4 : (capV v o < capV v t) ↔ cp o < cp t := by
    rw [capV, capV, a.1, b.1]
    exact nI_ltI (by omega) (by omega)
  simp only [e1, e2, e3, e4]
noncomputable def rkN (v : Nat → Int32) (t n : Nat) : Nat := ahN (capV v) (levV v) t n
theorem rkN_0 (v : Nat → Int32) (t : Nat) : rkN v t 0 = 0 := rfl
theorem rkN_y {v : Nat → Int32} {nt o t : Nat} {cp lv : Nat → Nat} (h : VT v nt cp lv) (ho : o < nt) (ht : t < nt) (ha : AHV cp lv o t) : rkN v t (o + 1) = rkN v t o + 1 := ahN_y ((AHV_of h ho ht).mpr ha)
theorem rkN_n {v : Nat → Int32} {nt o t : Nat} {cp lv : Nat → Nat} (h : VT v nt cp lv) (ho : o < nt) (ht : t < nt) (ha : ¬ AHV cp lv o t) : rkN v t (o + 1) = rkN v t o := ahN_n (fun z => ha ((AHV_of h ho ht).mp z))
theorem rkN_le (v : Nat → Int32) (t n : Nat) : rkN v t n ≤ n := ahN_le _ _ _ _
theorem AHV_gt {cp lv : Nat → Nat} {o t : Nat} (h : lv t < lv o) : AHV cp lv o t := by
  unfold AHV
  rw [if_neg (by omega)]
  exact h
theorem AHV_ls {cp lv : Nat → Nat} {o t : Nat} (h : lv o < lv t) : ¬ AHV cp lv o t := by
  unfold AHV
  rw [if_neg (by omega)]
  omega
theorem AHV_cl {cp lv : Nat → Nat} {o t : Nat} (e : lv o = lv t) (h : cp o < cp t) : AHV cp lv o t := by
  unfold AHV
  rw [if_pos e, if_neg (by omega)]
  exact h
theorem AHV_cg {cp lv : Nat → Nat} {o t : Nat} (e : lv o = lv t) (h : cp t < cp o) : ¬ AHV cp lv o t := by
  unfold AHV
  rw [if_pos e, if_neg (by omega)]
  omega
theorem AHV_ee {cp lv : Nat → Nat} {o t : Nat} (e : lv o = lv t) (h : cp o = cp t) : AHV cp lv o t ↔ o < t := by
  unfold AHV
  rw [if_pos e, if_pos h]
theorem fr_dl (n : Nat) : (n + 8 - 1) / 8 = (n + 7) / 8 := by
  rw [show n + 8 - 1 = n + 7 by omega]
theorem up67 {ν : MM} {a b c d : Nat → Int32} : up1 (up1 (up1 (up1 ν 6 a) 7 b) 6 c) 7 d = up1 (up1 ν 6 c) 7 d := by
  rw [up1_c (i := 7) (j := 6) (by decide), up1_2, up1_2]
theorem stg_lt0 (f : Nat → Int64) {n : Nat} (h : 0 < n) : stg f n < n := by
  obtain ⟨k, rfl⟩ : ∃ k, n = k + 1 := ⟨n - 1, by omega⟩
  exact stg_lt f k
theorem IX_nI {i n : Nat} (hi : i < 2 ^ 30) (hn : n < 2 ^ 30) : IX (nI i) n ↔ i < n := by
  constructor
  · intro ⟨j, hj, e⟩
    have := (nI_eq (by omega) (by omega)).mp e
    omega
  · intro h
    exact ⟨i, h, rfl⟩
theorem lgc_gt {x y : Int64} (h : ¬ lg_cmp x y ≤ 0) : y < x := Classical.byContradiction (fun z => h (lgc_le.mpr z))
