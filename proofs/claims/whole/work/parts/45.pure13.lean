/-! pure words: lines -/
def p10 : Nat → Nat
  | 0 => 1
  | k + 1 => p10 k * 10
theorem p10_pos : ∀ k, 0 < p10 k
  | 0 => Nat.one_pos
  | k + 1 => by have := p10_pos k; rw [p10]; omega
theorem p10_5 {k : Nat} (h : k ≤ 5) : p10 k ≤ 100000 := by
  rcases (show k = 0 ∨ k = 1 ∨ k = 2 ∨ k = 3 ∨ k = 4 ∨ k = 5 by omega) with e | e | e | e | e | e <;> subst e <;> decide
theorem p10_6 : ∀ k, 1000000 ≤ p10 (k + 6)
  | 0 => by decide
  | k + 1 => by have := p10_6 k; rw [show k + 1 + 6 = (k + 6) + 1 by omega, p10]; omega
theorem p10_b {k n : Nat} (h : p10 k ≤ n) (hn : n < 1000000) : k ≤ 5 := by
  rcases Nat.lt_or_ge k 6 with h1 | h1
  · omega
  · have := p10_6 (k - 6)
    rw [show k - 6 + 6 = k by omega] at this
    omega
theorem dv_lt {n k : Nat} : n / p10 k < 10 ↔ n < p10 (k + 1) := by
  rw [Nat.div_lt_iff_lt_mul (p10_pos k), p10, Nat.mul_comm]
def nd (n : Nat) : Nat := if n < 10 then 1 else if n < 100 then 2 else if n < 1000 then 3 else if n < 10000 then 4 else if n < 100000 then 5 else 6
theorem nd_k {n k : Nat} (h1 : k = 0 ∨ p10 k ≤ n) (h2 : n < p10 (k + 1)) (h5 : k ≤ 5) : nd n = k + 1 := by
  unfold nd
  rcases (show k = 0 ∨ k = 1 ∨ k = 2 ∨ k = 3 ∨ k = 4 ∨ k = 5 by omega) with e | e | e | e | e | e <;> subst e <;> simp only [p10] at h1 h2 <;> (repeat' split) <;> omega
theorem nd_1 (n : Nat) : 1 ≤ nd n := by
  unfold nd
  repeat' split
  all_goals omega
theorem nd_6 (n : Nat) : nd n ≤ 6 := by
  unfold nd
  repeat' split
  all_goals omega
theorem nd_3 {n : Nat} (h : n < 1000) : nd n ≤ 3 := by
  unfold nd
  repeat' split
  all_goals omega
theorem nd_4 {n : Nat} (h : n < 10000) : nd n ≤ 4 := by
  unfold nd
  repeat' split
  all_goals omega
theorem nd_0 {n : Nat} (h : n < 10) : nd n = 1 := by
  unfold nd
  rw [if_pos h]
/-- the power of ten before the digit i is written -/
def tnP (k i : Nat) : Nat := if i ≤ k then p10 (k - i) else 0
theorem tnP_s {k i : Nat} (h : i ≤ k) : tnP k (i + 1) = tnP k i / 10 := by
  unfold tnP
  rw [if_pos h]
  by_cases e : i = k
  · subst e
    rw [if_neg (by omega), Nat.sub_self]
    rfl
  · rw [if_pos (by omega), show k - i = (k - (i + 1)) + 1 by omega, p10]
    omega
theorem tnP_z {k i : Nat} : tnP k i = 0 ↔ k < i := by
  unfold tnP
  split
  · have := p10_pos (k - i)
    omega
  · omega
theorem tnP_le {k i : Nat} (h : k ≤ 5) : tnP k i ≤ 100000 := by
  unfold tnP
  split
  · exact p10_5 (by omega)
  · omega
def dgP (f : Nat → Int32) (L n k i : Nat) : Nat → Int32 := fun j => if L ≤ j ∧ j < L + i then nI (48 + n / p10 (k - (j - L)) % 10) else f j
theorem dgP_0 (f : Nat → Int32) (L n k : Nat) : dgP f L n k 0 = f := by
  funext j
  unfold dgP
  rw [if_neg (by omega)]
theorem dgP_s (f : Nat → Int32) {L n k i : Nat} (h : i ≤ k) : upd (dgP f L n k i) (L + i) (nI (48 + n / tnP k i % 10)) = dgP f L n k (i + 1) := by
  funext j
  by_cases e : j = L + i
  · subst e
    rw [upd_s]
    unfold dgP tnP
    rw [if_pos h, if_pos (by omega), show L + i - L = i by omega]
  · rw [upd_o e]
    unfold dgP
    by_cases h3 : L ≤ j ∧ j < L + i
    · rw [if_pos h3, if_pos (show L ≤ j ∧ j < L + (i + 1) by omega)]
    · rw [if_neg h3, if_neg (show ¬ (L ≤ j ∧ j < L + (i + 1)) by omega)]
/-- a line: what stands, and how long it is -/
abbrev WL := (Nat → Int32) × Nat
def wr1 (w : WL) (c : Int32) : WL := (upd w.1 w.2 c, w.2 + 1)
def wrn (w : WL) (n : Nat) : WL := (dgP w.1 w.2 n (nd n - 1) (nd n), w.2 + nd n)
/-- the memory with a line -/
def LM (ν : MM) (w : WL) : MM := up1 (up1 ν 0 (upd (ν 0) 20 (nI w.2))) 9 w.1
theorem LM_0 (ν : MM) (n : Nat) : LM ν (ν 9, n) = up1 ν 0 (upd (ν 0) 20 (nI n)) := by
  unfold LM
  exact up1_p (by rw [up1_o (by decide)])
theorem LM_LM (ν : MM) (w w2 : WL) : LM (LM ν w) w2 = LM ν w2 := by
  unfold LM
  rw [up1_o (j := 0) (i := 9) (by decide), up1_s, upd_2, up1_c (i := 9) (j := 0) (by decide), up1_2, up1_2]
theorem LM_w (ν : MM) (w w2 : WL) : up1 (up1 (LM ν w) 0 (upd (LM ν w 0) 20 (nI w2.2))) 9 w2.1 = LM ν w2 := LM_LM ν w w2
theorem LM_n (ν : MM) (w : WL) : LM ν w 0 20 = nI w.2 := by
  unfold LM
  rw [up1_o (j := 0) (i := 9) (by decide), up1_s, upd_s]
theorem LM_r (ν : MM) (w : WL) : LM ν w 9 = w.1 := by
  unfold LM
  rw [up1_s]
/-- the same line -/
def WE (a b : WL) : Prop := a.2 = b.2 ∧ ∀ j, j < a.2 → a.1 j = b.1 j
theorem WE_1 {a b : WL} (h : WE a b) (c : Int32) : WE (wr1 a c) (wr1 b c) := by
  obtain ⟨h1, h2⟩ := h
  refine ⟨by simp only [wr1]; omega, fun j hj => ?_⟩
  simp only [wr1] at hj ⊢
  rw [h1]
  by_cases e : j = b.2
  · rw [e, upd_s, upd_s]
  · rw [upd_o e, upd_o e]
    exact h2 j (by omega)
theorem WE_n {a b : WL} (h : WE a b) (n : Nat) : WE (wrn a n) (wrn b n) := by
  obtain ⟨h1, h2⟩ := h
  refine ⟨by simp only [wrn]; omega, fun j hj => ?_⟩
  simp only [wrn, dgP] at hj ⊢
  rw [h1]
  by_cases e : b.2 ≤ j ∧ j < b.2 + nd n
  · rw [if_pos e, if_pos e]
  · rw [if_neg e, if_neg e]
    exact h2 j (by omega)
theorem WE_z (f g : Nat → Int32) : WE (f, 0) (g, 0) := ⟨rfl, fun j h => absurd h (Nat.not_lt_zero _)⟩
/-- its signs are characters -/
def WC (w : WL) : Prop := ∀ j, j < w.2 → CH (w.1 j)
theorem WC_1 {w : WL} (h : WC w) {c : Int32} (hc : CH c) : WC (wr1 w c) := fun j hj => by
  simp only [wr1] at hj ⊢
  by_cases e : j = w.2
  · rw [e, upd_s]; exact hc
  · rw [upd_o e]
    exact h j (by omega)
theorem WC_n {w : WL} (h : WC w) (n : Nat) : WC (wrn w n) := fun j hj => by
  simp only [wrn, dgP] at hj ⊢
  by_cases e : w.2 ≤ j ∧ j < w.2 + nd n
  · rw [if_pos e]
    exact ⟨_, by have := Nat.mod_lt (n / p10 (nd n - 1 - (j - w.2))) (show 0 < 10 by decide); omega, rfl⟩
  · rw [if_neg e]
    exact h j (by omega)
theorem WC_z (f : Nat → Int32) : WC (f, 0) := fun j h => absurd h (Nat.not_lt_zero _)
/-- the chain's line, behind f filters -/
def dcC (k : Nat → Int32) (ps : Nat → Nat) (w0 : WL) : Nat → WL
  | 0 => w0
  | f + 1 => if k f = nI 102 then wr1 (if f = 0 then dcC k ps w0 f else wr1 (dcC k ps w0 f) (nI 62)) (k f) else wrn (wr1 (if f = 0 then dcC k ps w0 f else wr1 (dcC k ps w0 f) (nI 62)) (k f)) (ps f)
theorem dcC_le {k : Nat → Int32} {ps : Nat → Nat} {w0 : WL} : ∀ {f : Nat}, (∀ j, j < f → ps j ≤ 999) → (dcC k ps w0 f).2 ≤ w0.2 + 5 * f
  | 0, _ => Nat.le_refl _
  | f + 1, h => by
    have h1 := dcC_le (k := k) (ps := ps) (w0 := w0) (f := f) (fun j hj => h j (by omega))
    have h2 := nd_3 (n := ps f) (by have := h f (by omega); omega)
    rw [dcC]
    split <;> split <;> simp only [wr1, wrn] <;> omega
theorem dcC_WE {k k2 : Nat → Int32} {ps p2 : Nat → Nat} {a b : WL} (hw : WE a b) : ∀ {f : Nat}, (∀ j, j < f → k j = k2 j ∧ ps j = p2 j) → WE (dcC k ps a f) (dcC k2 p2 b f)
  | 0, _ => hw
  | f + 1, h => by
    have h1 := dcC_WE (f := f) hw (fun j hj => h j (by omega))
    have h2 := h f (by omega)
    rw [dcC, dcC, h2.1, h2.2]
    split <;> split
    · exact WE_1 h1 _
    · exact WE_1 (WE_1 h1 _) _
    · exact WE_n (WE_1 h1 _) _
    · exact WE_n (WE_1 (WE_1 h1 _) _) _
theorem dcC_WC {k : Nat → Int32} {ps : Nat → Nat} {a : WL} (hw : WC a) : ∀ {f : Nat}, (∀ j, j < f → CH (k j)) → WC (dcC k ps a f)
  | 0, _ => hw
  | f + 1, h => by
    have h1 := dcC_WC (ps := ps) (f := f) hw (fun j hj => h j (by omega))
    have h2 := h f (by omega)
    have h3 : CH (nI 62) := ⟨62, by decide, rfl⟩
    rw [dcC]
    split <;> split
    · exact WC_1 h1 h2
    · exact WC_1 (WC_1 h1 h3) h2
    · exact WC_n (WC_1 h1 h2) _
    · exact WC_n (WC_1 (WC_1 h1 h3) h2) _
/-- a tank's line -/
def dcH (lv cp tu : Nat) (w0 : WL) : WL := if tu = 9999 then wrn (wr1 (wrn w0 lv) (nI 47)) cp else wrn (wr1 (wrn (wr1 (wrn w0 lv) (nI 47)) cp) (nI 64)) tu
def dcT (fr : Nat → Nat) (w : WL) : Nat → WL
  | 0 => w
  | k + 1 => wrn (wr1 (dcT fr w k) (nI 32)) (fr k)
theorem dcH_le {lv cp tu : Nat} {w0 : WL} (h1 : lv < 10) (h2 : cp < 10) (h3 : tu < 10000) : (dcH lv cp tu w0).2 ≤ w0.2 + 8 := by
  have a := nd_0 h1
  have b := nd_0 h2
  have c := nd_4 h3
  unfold dcH
  split <;> simp only [wr1, wrn] <;> omega
theorem dcT_le {fr : Nat → Nat} {w : WL} : ∀ k, (dcT fr w k).2 ≤ w.2 + 7 * k
  | 0 => Nat.le_refl _
  | k + 1 => by
    have h1 := dcT_le (fr := fr) (w := w) k
    have h2 := nd_6 (fr k)
    simp only [dcT, wr1, wrn]
    omega
theorem dcH_WE {lv cp tu : Nat} {a b : WL} (h : WE a b) : WE (dcH lv cp tu a) (dcH lv cp tu b) := by
  unfold dcH
  split
  · exact WE_n (WE_1 (WE_n h _) _) _
  · exact WE_n (WE_1 (WE_n (WE_1 (WE_n h _) _) _) _) _
theorem dcT_WE {f g : Nat → Nat} {a b : WL} (h : WE a b) : ∀ {k : Nat}, (∀ j, j < k → f j = g j) → WE (dcT f a k) (dcT g b k)
  | 0, _ => h
  | k + 1, e => by
    rw [dcT, dcT, e k (by omega)]
    exact WE_n (WE_1 (dcT_WE h (fun j hj => e j (by omega))) _) _
theorem dcH_WC {lv cp tu : Nat} {a : WL} (h : WC a) : WC (dcH lv cp tu a) := by
  unfold dcH
  have h1 : CH (nI 47) := ⟨47, by decide, rfl⟩
  have h2 : CH (nI 64) := ⟨64, by decide, rfl⟩
  split
  · exact WC_n (WC_1 (WC_n h _) h1) _
  · exact WC_n (WC_1 (WC_n (WC_1 (WC_n h _) h1) _) h2) _
theorem dcT_WC {f : Nat → Nat} {a : WL} (h : WC a) : ∀ k, WC (dcT f a k)
  | 0 => h
  | k + 1 => WC_n (WC_1 (dcT_WC h k) ⟨32, by decide, rfl⟩) _
theorem LM_wr1 (ν : MM) (w : WL) (x : Int32) : up1 (up1 (LM ν w) 9 (upd (LM ν w 9) w.2 x)) 0 (upd (LM ν w 0) 20 (nI (w.2 + 1))) = LM ν (wr1 w x) := by
  rw [LM_r, up1_c (i := 9) (j := 0) (by decide)]
  exact LM_LM ν w (wr1 w x)
theorem LM_wrn (ν : MM) (w : WL) (n : Nat) : LM (LM ν w) (wrn (LM ν w 9, w.2) n) = LM ν (wrn w n) := by
  rw [LM_LM, LM_r]
def kdV (v : Nat → Int32) : Nat → Int32 := fun f => v (5 + f)
theorem upd_id0 (f : Nat → Int32) (k : Nat) : upd f k (f k) = f := by
  funext j
  by_cases h : j = k
  · rw [h, upd_s]
  · rw [upd_o h]
