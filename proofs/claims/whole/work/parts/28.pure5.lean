/-! pure words: filters -/
/-- what the filters give that look at no earlier sample -/
def chg (k x y : Int32) : Int32 := if k = nI 103 then y * x / nI 100 else if k = nI 99 then imax (-x) (imin x y) else if k = nI 102 then -y else y / x * x
def msum (g : Nat → Int32) (i : Nat) : Nat → Int32
  | 0 => nI 0
  | m + 1 => msum g i m + (if m ≤ i then g (i - m) else nI 0)
/-- the sample that a filter gives at i, of the samples that it gets -/
def fpass (k x : Int32) (g : Nat → Int32) (i : Nat) : Int32 := if k = nI 100 then (if x.toNatClampNeg ≤ i then g (i - x.toNatClampNeg) else nI 0) else if k = nI 109 then msum g i x.toNatClampNeg / x else chg k x (g i)
def flR (raw ks ps : Nat → Int32) : Nat → Nat → Int32
  | 0 => raw
  | f + 1 => fun i => fpass (ks f) (ps f) (flR raw ks ps f) i
theorem msum_congr {g g2 : Nat → Int32} {i : Nat} (h : ∀ j, j ≤ i → g j = g2 j) : ∀ m, msum g i m = msum g2 i m
  | 0 => rfl
  | m + 1 => by
    rw [msum, msum, msum_congr h m]
    by_cases hm : m ≤ i
    · rw [if_pos hm, if_pos hm, h _ (by omega)]
    · rw [if_neg hm, if_neg hm]
theorem fpass_congr {k x : Int32} {g g2 : Nat → Int32} {i : Nat} (h : ∀ j, j ≤ i → g j = g2 j) : fpass k x g i = fpass k x g2 i := by
  unfold fpass
  rw [msum_congr h, h i (Nat.le_refl _), h (i - x.toNatClampNeg) (by omega)]
theorem I_zadd (y : Int32) : nI 0 + y = y := by
  rw [nI_0]
  exact Int32.zero_add y
theorem I_addz (y : Int32) : y + nI 0 = y := by
  rw [nI_0]
  exact Int32.add_zero y
theorem msum_1 (g : Nat → Int32) (i : Nat) : msum g i 1 = g i := by
  rw [msum, msum, if_pos (Nat.zero_le _), Nat.sub_zero, I_zadd]
theorem KP_chg {k x : Int32} (h : KP k x) (h1 : ¬ k = nI 100) (h2 : ¬ k = nI 109) : (k = nI 103 ∧ nI 0 ≤ x ∧ x ≤ nI 200) ∨ (k = nI 99 ∧ nI 1 ≤ x ∧ x ≤ nI 999) ∨ (k = nI 102 ∧ x = 0) ∨ (k = nI 115 ∧ nI 2 ≤ x ∧ x ≤ nI 99) := by
  rcases h with h | h | h | h | h | h
  · exact Or.inl h
  · exact absurd h.1 h1
  · exact absurd h.1 h2
  · exact Or.inr (Or.inl h)
  · exact Or.inr (Or.inr (Or.inl h))
  · exact Or.inr (Or.inr (Or.inr h))
theorem KP_nat {k x : Int32} (h : KP k x) : ∃ P, P ≤ 999 ∧ x = nI P := by
  rcases h with ⟨-, h⟩ | ⟨-, h⟩ | ⟨-, h⟩ | ⟨-, h⟩ | ⟨-, h⟩ | ⟨-, h⟩
  · obtain ⟨q, -, h2, h3⟩ := (I_rng2 (by decide) (by decide)).mp h; exact ⟨q, by omega, h3⟩
  · obtain ⟨q, -, h2, h3⟩ := (I_rng2 (by decide) (by decide)).mp h; exact ⟨q, by omega, h3⟩
  · obtain ⟨q, -, h2, h3⟩ := (I_rng2 (by decide) (by decide)).mp h; exact ⟨q, by omega, h3⟩
  · obtain ⟨q, -, h2, h3⟩ := (I_rng2 (by decide) (by decide)).mp h; exact ⟨q, by omega, h3⟩
  · exact ⟨0, by omega, by rw [h, nI_0]⟩
  · obtain ⟨q, -, h2, h3⟩ := (I_rng2 (by decide) (by decide)).mp h; exact ⟨q, by omega, h3⟩
theorem nI_rngs {lo hi P : Nat} (hP : P < 2 ^ 31) (hlo : lo < 2 ^ 31) (hhi : hi < 2 ^ 31) (h : nI lo ≤ nI P ∧ nI P ≤ nI hi) : lo ≤ P ∧ P ≤ hi := ⟨(nI_leI hlo hP).mp h.1, (nI_leI hP hhi).mp h.2⟩
theorem KP_d {P : Nat} (hP : P ≤ 999) (h : KP (nI 100) (nI P)) : 1 ≤ P ∧ P ≤ 8 := nI_rngs (by omega) (by decide) (by decide) (KP_100.mp h)
theorem KP_m {P : Nat} (hP : P ≤ 999) (h : KP (nI 109) (nI P)) : 2 ≤ P ∧ P ≤ 8 := nI_rngs (by omega) (by decide) (by decide) (KP_109.mp h)
/-- the place of an earlier sample in the ring of eight -/
theorem and7 {i k : Nat} (hk : k ≤ 8) (hi : i < 2 ^ 30) : (nI i - nI k) &&& nI 7 = nI ((i + 8 - k) % 8) := by
  rw [pk_and (nI i - nI k) 3 (by decide)]
  congr 1
  have e : (nI i - nI k).toBitVec.toNat = (4294967296 - k + i) % 4294967296 := by
    show ((nI i).toBitVec - (nI k).toBitVec).toNat = _
    rw [BitVec.toNat_sub, pk_tn (by omega), pk_tn (by omega)]
  rw [e]
  omega
theorem and70 {i : Nat} (hi : i < 2 ^ 30) : nI i &&& nI 7 = nI (i % 8) := by
  rw [pk_and (nI i) 3 (by decide), pk_tn (by omega)]
/-- the ring of filter f holds what it got before i -/
def MF (M : Nat → Int32) (f : Nat) (g : Nat → Int32) (i : Nat) : Prop := ∀ k, 1 ≤ k → k ≤ 8 → M (f * 8 + (i + 8 - k) % 8) = if k ≤ i then g (i - k) else nI 0
theorem MF_0 {M : Nat → Int32} {f : Nat} (g : Nat → Int32) (h : ∀ j, j < 64 → M j = nI 0) (hf : f < 8) : MF M f g 0 := by
  intro k h1 h2
  rw [if_neg (by omega), h _ (by omega)]
theorem MF_step {M : Nat → Int32} {f i : Nat} {g : Nat → Int32} {y : Int32} (hy : g i = y) (h : MF M f g i) : MF (upd M (f * 8 + i % 8) y) f g (i + 1) := by
  intro k h1 h2
  by_cases hk : k = 1
  · subst hk
    rw [show f * 8 + (i + 1 + 8 - 1) % 8 = f * 8 + i % 8 by omega, upd_s, if_pos (by omega), Nat.add_sub_cancel, hy]
  · rw [upd_o (by omega), show (i + 1 + 8 - k) = (i + 8 - (k - 1)) by omega, h (k - 1) (by omega) (by omega)]
    by_cases hi : k ≤ i + 1
    · rw [if_pos (by omega), if_pos hi]
      congr 1
      omega
    · rw [if_neg (by omega), if_neg hi]
theorem MF_other {M : Nat → Int32} {f f2 i i2 : Nat} {g : Nat → Int32} {y : Int32} (hf : f ≠ f2) (h : MF M f2 g i2) : MF (upd M (f * 8 + i % 8) y) f2 g i2 := by
  intro k h1 h2
  rw [upd_o (by omega), h k h1 h2]
theorem rd_sub {n i k : Nat} (f : Nat → Int32) (hi : i < n) (hn : n < 2 ^ 30) (hk : k < 2 ^ 30) : rd n f (nI i - nI k) = if k ≤ i then f (i - k) else nI 0 := by
  by_cases h : k ≤ i
  · rw [if_pos h, pk_sub h, rd_in _ (by omega) (by omega)]
  · rw [if_neg h]
    exact (rd_1 (pk_sneg (by omega) (by omega))).symm
def filR (n : Nat) (f : Nat → Int32) (x : Int32) : Nat → Int32 := fun k => if k < n then x else f k
theorem filR_0 (f : Nat → Int32) (x : Int32) : filR 0 f x = f := by
  funext k
  simp [filR]
theorem filR_step (f : Nat → Int32) (x : Int32) (i : Nat) : upd (filR i f x) i x = filR (i + 1) f x := by
  funext k
  by_cases hk : k = i
  · subst hk
    rw [upd_s]
    simp [filR]
  · rw [upd_o hk]
    simp only [filR]
    by_cases h : k < i
    · rw [if_pos h, if_pos (by omega)]
    · rw [if_neg h, if_neg (by omega)]
theorem cpR_0 (f h : Nat → Int32) : cpR 0 f h = h := by
  funext k
  simp [cpR]
theorem cpR_step (f h : Nat → Int32) (i : Nat) : upd (cpR i f h) i (f i) = cpR (i + 1) f h := by
  funext k
  by_cases hk : k = i
  · subst hk
    rw [upd_s]
    simp [cpR]
  · rw [upd_o hk]
    simp only [cpR]
    by_cases h : k < i
    · rw [if_pos h, if_pos (by omega)]
    · rw [if_neg h, if_neg (by omega)]
/-- a filter over a row, the samples from i on laid -/
def paR (R : Nat → Int32) (k x : Int32) (i n : Nat) : Nat → Int32 := fun j => if i ≤ j ∧ j < n then fpass k x R j else R j
theorem paR_n (R : Nat → Int32) (k x : Int32) (n : Nat) : paR R k x n n = R := by
  funext j
  simp only [paR]
  split
  · omega
  · rfl
theorem paR_step (R : Nat → Int32) (k x : Int32) {i n : Nat} (h : i < n) : upd (paR R k x (i + 1) n) i (fpass k x (paR R k x (i + 1) n) i) = paR R k x i n := by
  have e : fpass k x (paR R k x (i + 1) n) i = fpass k x R i := fpass_congr (fun j hj => by
    simp only [paR]
    rw [if_neg (by omega)])
  rw [e]
  funext j
  by_cases hj : j = i
  · subst hj
    rw [upd_s]
    simp only [paR]
    rw [if_pos (by omega)]
  · rw [upd_o hj]
    simp only [paR]
    by_cases h2 : i + 1 ≤ j ∧ j < n
    · rw [if_pos h2, if_pos (show i ≤ j ∧ j < n by omega)]
    · rw [if_neg h2, if_neg (show ¬ (i ≤ j ∧ j < n) by omega)]
theorem inc_m1 (x : Int32) : x + Int32.ofInt (-1) = x - nI 1 := by
  rw [Int32.sub_eq_add_neg]
  rfl
theorem imin_N {a b : Nat} (ha : a < 2 ^ 31) (hb : b < 2 ^ 31) : imin (nI a) (nI b) = nI (min a b) := by
  unfold imin
  by_cases h : a ≤ b
  · rw [if_pos ((nI_leI ha hb).mpr h), Nat.min_eq_left h]
  · rw [if_neg (fun z => h ((nI_leI ha hb).mp z)), Nat.min_eq_right (by omega)]
theorem imax_N {a b : Nat} (ha : a < 2 ^ 31) (hb : b < 2 ^ 31) : imax (nI a) (nI b) = nI (max a b) := by
  unfold imax
  by_cases h : a < b
  · rw [if_pos ((nI_ltI ha hb).mpr h), Nat.max_eq_right (by omega)]
  · rw [if_neg (fun z => h ((nI_ltI ha hb).mp z)), Nat.max_eq_left (by omega)]
