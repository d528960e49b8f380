/-! pure words: tanks -/
def oI : Option Nat → Int32
  | none => -1
  | some q => nI q
theorem oI_none : oI none = -1 := rfl
theorem oI_some (q : Nat) : oI (some q) = nI q := rfl
theorem nI_m1 {q : Nat} (h : q < 2 ^ 31) : ¬ nI q = -1 := fun z => by
  have h1 := nI_toInt h
  rw [z] at h1
  have h2 : (-1 : Int32).toInt = -1 := by decide
  omega
/-- a tank that accepts a frame -/
def accT (cap lev tun : Nat → Int32) (x : Int32) (t : Nat) : Prop := lev t < cap t ∧ x ≤ tun t
/-- the tank for a frame among the first t -/
noncomputable def bstT (cap lev tun : Nat → Int32) (x : Int32) : Nat → Option Nat
  | 0 => none
  | t + 1 => if lev t < cap t ∧ x ≤ tun t then (match bstT cap lev tun x t with
      | none => some t
      | some q => if cap q - lev q < cap t - lev t then some t else some q) else bstT cap lev tun x t
theorem bstT_lt {cap lev tun : Nat → Int32} {x : Int32} : ∀ {n q : Nat}, bstT cap lev tun x n = some q → q < n ∧ lev q < cap q ∧ x ≤ tun q
  | 0, q, h => by simp [bstT] at h
  | n + 1, q, h => by
    unfold bstT at h
    by_cases hc : lev n < cap n ∧ x ≤ tun n
    · rw [if_pos hc] at h
      cases hb : bstT cap lev tun x n with
      | none =>
        rw [hb] at h
        cases h
        exact ⟨Nat.lt_succ_self _, hc⟩
      | some p =>
        rw [hb] at h
        simp only at h
        by_cases h2 : cap p - lev p < cap n - lev n
        · rw [if_pos h2] at h
          cases h
          exact ⟨Nat.lt_succ_self _, hc⟩
        · rw [if_neg h2] at h
          cases h
          have := bstT_lt hb
          exact ⟨by omega, this.2⟩
    · rw [if_neg hc] at h
      have := bstT_lt h
      exact ⟨by omega, this.2⟩
theorem bstT_no {cap lev tun : Nat → Int32} {x : Int32} {t : Nat} (h : ¬ (lev t < cap t ∧ x ≤ tun t)) : bstT cap lev tun x (t + 1) = bstT cap lev tun x t := by
  rw [bstT, if_neg h]
theorem bstT_none {cap lev tun : Nat → Int32} {x : Int32} {t : Nat} (h : lev t < cap t ∧ x ≤ tun t) (hb : bstT cap lev tun x t = none) : bstT cap lev tun x (t + 1) = some t := by
  rw [bstT, if_pos h, hb]
theorem bstT_more {cap lev tun : Nat → Int32} {x : Int32} {t q : Nat} (h : lev t < cap t ∧ x ≤ tun t) (hb : bstT cap lev tun x t = some q) (h2 : cap q - lev q < cap t - lev t) : bstT cap lev tun x (t + 1) = some t := by
  rw [bstT, if_pos h, hb]
  simp only
  rw [if_pos h2]
theorem bstT_less {cap lev tun : Nat → Int32} {x : Int32} {t q : Nat} (h : lev t < cap t ∧ x ≤ tun t) (hb : bstT cap lev tun x t = some q) (h2 : ¬ cap q - lev q < cap t - lev t) : bstT cap lev tun x (t + 1) = some q := by
  rw [bstT, if_pos h, hb]
  simp only
  rw [if_neg h2]
/-- the greatest of the first n, 0 at least -/
def maxR (f : Nat → Int32) : Nat → Int32
  | 0 => nI 0
  | n + 1 => imax (maxR f n) (f n)
def isum (f : Nat → Int32) : Nat → Int32
  | 0 => nI 0
  | n + 1 => isum f n + f n
/-- frames moved to the front -/
def tkR (f : Nat → Int32) (s0 j n : Nat) : Nat → Int32 := fun k => if s0 ≤ k ∧ k < s0 + n then f (k + j) else f k
theorem tkR_0 (f : Nat → Int32) (s0 j : Nat) : tkR f s0 j 0 = f := by
  funext k
  simp only [tkR]
  split
  · omega
  · rfl
theorem tkR_step (f : Nat → Int32) (s0 j n : Nat) : upd (tkR f s0 j n) (s0 + n) (tkR f s0 j n (s0 + (n + j))) = tkR f s0 j (n + 1) := by
  funext k
  by_cases hk : k = s0 + n
  · subst hk
    rw [upd_s]
    simp only [tkR]
    rw [if_neg (by omega), if_pos (by omega)]
    congr 1
    omega
  · rw [upd_o hk]
    simp only [tkR]
    by_cases h : s0 ≤ k ∧ k < s0 + n
    · rw [if_pos h, if_pos (by omega)]
    · rw [if_neg h, if_neg (by omega)]
/-- tank o stands ahead of tank t -/
def AH (cap lev : Nat → Int32) (o t : Nat) : Prop := if lev o = lev t then (if cap o = cap t then o < t else cap o < cap t) else lev t < lev o
noncomputable def ahN (cap lev : Nat → Int32) (t : Nat) : Nat → Nat
  | 0 => 0
  | o + 1 => ahN cap lev t o + @ite Nat (AH cap lev o t) (Classical.propDecidable _) 1 0
theorem ahN_y {cap lev : Nat → Int32} {t o : Nat} (h : AH cap lev o t) : ahN cap lev t (o + 1) = ahN cap lev t o + 1 := by
  rw [ahN, if_pos h]
theorem ahN_n {cap lev : Nat → Int32} {t o : Nat} (h : ¬ AH cap lev o t) : ahN cap lev t (o + 1) = ahN cap lev t o := by
  rw [ahN, if_neg h, Nat.add_zero]
theorem ahN_le (cap lev : Nat → Int32) (t : Nat) : ∀ n, ahN cap lev t n ≤ n
  | 0 => Nat.le_refl _
  | n + 1 => by
    have := ahN_le cap lev t n
    by_cases h : AH cap lev n t
    · rw [ahN_y h]; omega
    · rw [ahN_n h]; omega
def cpR (n : Nat) (f h : Nat → Int32) : Nat → Int32 := fun k => if k < n then f k else h k
