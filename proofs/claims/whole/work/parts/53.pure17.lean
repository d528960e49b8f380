/-! pure words: command texts -/
def WDl : List Nat := [103, 97, 105, 110, 32, 100, 101, 108, 97, 121, 32, 109, 101, 97, 110, 32, 99, 108, 105, 112, 32, 102, 108, 105, 112, 115, 116, 101, 112, 32, 114, 101, 109, 111, 118, 101, 32, 110, 111, 116, 101, 32, 116, 97, 110, 107, 32, 116, 117, 110, 101, 32, 112, 111, 117, 114, 32, 100, 114, 97, 105, 110, 32]
def WAl : List Nat := [0, 5, 11, 16, 21, 25, 30, 37, 42, 47, 52, 57, 63]
def WD (i : Nat) : Nat := WDl.getD i 0
def WA (i : Nat) : Nat := WAl.getD i 0
def wl (w : Nat) : Nat := WA (w + 1) - WA w
def kc (w j : Nat) : Nat := WD (WA w + j)
theorem w12 {P : Nat → Prop} (h0 : P 0) (h1 : P 1) (h2 : P 2) (h3 : P 3) (h4 : P 4) (h5 : P 5) (h6 : P 6) (h7 : P 7) (h8 : P 8) (h9 : P 9) (h10 : P 10) (h11 : P 11) {w : Nat} (h : w < 12) : P w := by
  rcases (show w = 0 ∨ w = 1 ∨ w = 2 ∨ w = 3 ∨ w = 4 ∨ w = 5 ∨ w = 6 ∨ w = 7 ∨ w = 8 ∨ w = 9 ∨ w = 10 ∨ w = 11 by omega) with e | e | e | e | e | e | e | e | e | e | e | e <;> subst e <;> assumption
theorem WA_12 {w : Nat} (h : w < 12) : WA w < WA (w + 1) ∧ WA (w + 1) ≤ 63 ∧ WA (w + 1) = WA w + wl w ∧ 4 ≤ wl w ∧ wl w ≤ 7 :=
  w12 (P := fun w => WA w < WA (w + 1) ∧ WA (w + 1) ≤ 63 ∧ WA (w + 1) = WA w + wl w ∧ 4 ≤ wl w ∧ wl w ≤ 7) (by decide) (by decide) (by decide) (by decide) (by decide) (by decide) (by decide) (by decide) (by decide) (by decide) (by decide) (by decide) h
theorem WD_lt (i : Nat) : WD i < 128 := by
  unfold WD
  by_cases h : i < 63
  · have h2 : ∀ i : Fin 63, WDl.getD i.val 0 < 128 := by decide
    exact h2 ⟨i, h⟩
  · rw [List.getD_eq_getElem?_getD, List.getElem?_eq_none (show WDl.length ≤ i from by have : WDl.length = 63 := rfl; omega)]
    decide
/-- the character at a place, -1 behind the last -/
def chT (t : Nat → Nat) (n i : Nat) : Int32 := if i < n then nI (t i) else -1
/-- the word w goes with the text at p for k characters -/
def PW (t : Nat → Nat) (n p w k : Nat) : Prop := k ≤ wl w ∧ ∀ j, j < k → chT t n (p + j) = nI (kc w j)
theorem PW_0 (t : Nat → Nat) (n p w : Nat) : PW t n p w 0 := ⟨Nat.zero_le _, fun j h => absurd h (Nat.not_lt_zero _)⟩
theorem PW_s {t : Nat → Nat} {n p w k : Nat} : PW t n p w (k + 1) ↔ PW t n p w k ∧ k < wl w ∧ chT t n (p + k) = nI (kc w k) := by
  constructor
  · intro ⟨h1, h2⟩
    exact ⟨⟨by omega, fun j hj => h2 j (by omega)⟩, by omega, h2 k (Nat.lt_succ_self k)⟩
  · intro ⟨⟨h1, h2⟩, h3, h4⟩
    refine ⟨h3, fun j hj => ?_⟩
    rcases Nat.lt_succ_iff_lt_or_eq.mp hj with h | h
    · exact h2 j h
    · rw [h]; exact h4
theorem PW_mono {t : Nat → Nat} {n p w k k2 : Nat} (h : PW t n p w k) (hk : k2 ≤ k) : PW t n p w k2 := ⟨Nat.le_trans hk h.1, fun j hj => h.2 j (by omega)⟩
/-- two words differ before either ends -/
theorem kc_df {a b : Nat} (ha : a < 12) (hb : b < 12) (hab : a ≠ b) : ∃ j, j < wl a ∧ j < wl b ∧ kc a j ≠ kc b j := by
  have h : ∀ a b : Fin 12, a ≠ b → ∃ j : Fin 7, j.val < wl a.val ∧ j.val < wl b.val ∧ kc a.val j.val ≠ kc b.val j.val := by decide +kernel
  obtain ⟨j, h1⟩ := h ⟨a, ha⟩ ⟨b, hb⟩ (fun z => hab (congrArg Fin.val z))
  exact ⟨j.val, h1⟩
/-- a whole word stands there -/
def WOK (t : Nat → Nat) (n p w : Nat) : Prop := w < 12 ∧ PW t n p w (wl w)
/-- no word stands there; k characters go with one -/
def WNO (t : Nat → Nat) (n p k : Nat) : Prop := (∀ w, w < 12 → ¬ PW t n p w (wl w)) ∧ (∃ w, w < 12 ∧ PW t n p w k) ∧ ∀ w, w < 12 → ¬ PW t n p w (k + 1)
theorem kc_lt (w j : Nat) : kc w j < 128 := WD_lt _
theorem WOK_u {t : Nat → Nat} {n p a b : Nat} (ha : WOK t n p a) (hb : WOK t n p b) : a = b := by
  refine Classical.byContradiction (fun hab => ?_)
  obtain ⟨j, h1, h2, h3⟩ := kc_df ha.1 hb.1 hab
  have e1 := ha.2.2 j h1
  have e2 := hb.2.2 j h2
  rw [e1] at e2
  have a1 := kc_lt a j
  have a2 := kc_lt b j
  exact h3 ((nI_eq (by omega) (by omega)).mp e2)
theorem WNO_u {t : Nat → Nat} {n p k k2 : Nat} (h : WNO t n p k) (h2 : WNO t n p k2) : k = k2 := by
  obtain ⟨w, hw, hp⟩ := h.2.1
  obtain ⟨w2, hw2, hp2⟩ := h2.2.1
  rcases Nat.lt_trichotomy k k2 with e | e | e
  · exact absurd (PW_mono hp2 e) (h.2.2 w2 hw2)
  · exact e
  · exact absurd (PW_mono hp e) (h2.2.2 w hw)
theorem WOK_NO {t : Nat → Nat} {n p w k : Nat} (h : WOK t n p w) (h2 : WNO t n p k) : False := h2.1 w h.1 h.2
/-- a one or a nought -/
noncomputable def b2 (P : Prop) : Int32 := @ite _ P (Classical.propDecidable P) (nI 1) (nI 0)
theorem b2_t {P : Prop} (h : P) : b2 P = nI 1 := if_pos h
theorem b2_f {P : Prop} (h : ¬ P) : b2 P = nI 0 := if_neg h
theorem b2_and {P Q : Prop} : b2 P &&& b2 Q = b2 (P ∧ Q) := by
  by_cases h : P
  · by_cases h2 : Q
    · rw [b2_t h, b2_t h2, b2_t ⟨h, h2⟩]; decide
    · rw [b2_t h, b2_f h2, b2_f (fun z => h2 z.2)]; decide
  · by_cases h2 : Q
    · rw [b2_f h, b2_t h2, b2_f (fun z => h z.1)]; decide
    · rw [b2_f h, b2_f h2, b2_f (fun z => h z.1)]; decide
theorem b2_or {P Q : Prop} : b2 P ||| b2 Q = b2 (P ∨ Q) := by
  by_cases h : P
  · by_cases h2 : Q
    · rw [b2_t h, b2_t h2, b2_t (Or.inl h)]; decide
    · rw [b2_t h, b2_f h2, b2_t (Or.inl h)]; decide
  · by_cases h2 : Q
    · rw [b2_f h, b2_t h2, b2_t (Or.inr h2)]; decide
    · rw [b2_f h, b2_f h2, b2_f (fun z => z.elim h h2)]; decide
theorem b2_c {P Q : Prop} (h : P ↔ Q) : b2 P = b2 Q := by rw [propext h]
theorem b2_1 {P : Prop} : b2 P = nI 1 ↔ P := by
  by_cases h : P
  · exact ⟨fun _ => h, fun _ => b2_t h⟩
  · rw [b2_f h]
    exact ⟨fun z => absurd z (by decide), fun z => absurd z h⟩
/-- digits -/
def isD (x : Int32) : Prop := nI 48 ≤ x ∧ x ≤ nI 57
def dgN (t : Nat → Nat) (n p : Nat) : Nat → Prop
  | 0 => True
  | d + 1 => dgN t n p d ∧ isD (chT t n (p + d))
def dvN (t : Nat → Nat) (p : Nat) : Nat → Nat
  | 0 => 0
  | d + 1 => 10 * dvN t p d + (t (p + d) - 48)
/-- d digits are taken of at most m -/
def DG (t : Nat → Nat) (n p m d : Nat) : Prop := d ≤ m ∧ dgN t n p d ∧ (d < m → ¬ isD (chT t n (p + d)))
theorem dgN_le {t : Nat → Nat} {n p : Nat} : ∀ {d k : Nat}, dgN t n p d → k < d → isD (chT t n (p + k))
  | 0, k, _, h => absurd h (Nat.not_lt_zero _)
  | d + 1, k, h, hk => by
    rcases Nat.lt_succ_iff_lt_or_eq.mp hk with e | e
    · exact dgN_le h.1 e
    · rw [e]; exact h.2
theorem DG_u {t : Nat → Nat} {n p m d e : Nat} (h : DG t n p m d) (h2 : DG t n p m e) : d = e := by
  rcases Nat.lt_trichotomy d e with a | a | a
  · exact absurd (dgN_le h2.2.1 a) (h.2.2 (by have := h2.1; omega))
  · exact a
  · exact absurd (dgN_le h.2.1 a) (h2.2.2 (by have := h.1; omega))
theorem isD_ch {t : Nat → Nat} {n i : Nat} (ht : ∀ j, j < n → t j < 128) (h : isD (chT t n i)) : i < n ∧ 48 ≤ t i ∧ t i ≤ 57 := by
  unfold chT isD at h
  by_cases hi : i < n
  · rw [if_pos hi] at h
    have := ht i hi
    have e := nI_rngs (lo := 48) (hi := 57) (by omega) (by decide) (by decide) h
    exact ⟨hi, e⟩
  · rw [if_neg hi] at h
    exact absurd h.1 (by decide)
theorem dvN_lt {t : Nat → Nat} {n p : Nat} (ht : ∀ j, j < n → t j < 128) : ∀ {d : Nat}, dgN t n p d → dvN t p d < p10 d
  | 0, _ => Nat.one_pos
  | d + 1, h => by
    have h1 := dvN_lt ht h.1
    have h2 := isD_ch ht h.2
    rw [dvN, p10]
    omega
/-- the model's memory while it parses -/
def PM (ν : MM) (p w : Nat) : MM := up1 ν 0 (upd (upd (ν 0) 18 (nI p)) 21 (nI w))
theorem upd_c (f : Nat → Int32) {a b : Nat} (h : a ≠ b) (x y : Int32) : upd (upd f a x) b y = upd (upd f b y) a x := by
  funext j
  by_cases e : j = a
  · subst e
    rw [upd_o h, upd_s, upd_s]
  · rw [upd_o (k := a) e]
    by_cases e2 : j = b
    · subst e2
      rw [upd_s, upd_s]
    · rw [upd_o e2, upd_o e2, upd_o e]
theorem PM_PM (ν : MM) (p w p2 w2 : Nat) : PM (PM ν p w) p2 w2 = PM ν p2 w2 := by
  unfold PM
  rw [up1_s, up1_2, upd_c _ (show 21 ≠ 18 by decide), upd_2, upd_2]
theorem PM_p (ν : MM) (p w p2 : Nat) : up1 (PM ν p w) 0 (upd (PM ν p w 0) 18 (nI p2)) = PM ν p2 w := by
  unfold PM
  rw [up1_s, up1_2, upd_c _ (show 21 ≠ 18 by decide), upd_2]
theorem PM_w (ν : MM) (p w w2 : Nat) : up1 (PM ν p w) 0 (upd (PM ν p w 0) 21 (nI w2)) = PM ν p w2 := by
  unfold PM
  rw [up1_s, up1_2, upd_2]
theorem PM_id {ν : MM} {p w : Nat} (h1 : ν 0 18 = nI p) (h2 : ν 0 21 = nI w) : PM ν p w = ν := by
  unfold PM
  rw [← h1, ← h2, upd_id0]
  exact up1_p (by rw [upd_id0])
theorem PM_h (ν : MM) (p w : Nat) : PM ν p w 0 18 = nI p := by
  unfold PM
  rw [up1_s, upd_o (by decide), upd_s]
theorem PM_x (ν : MM) (p w : Nat) : PM ν p w 0 21 = nI w := by
  unfold PM
  rw [up1_s, upd_s]
