/-! pure words: the class's parser, over its rows -/
theorem CQ_c (μ : CM) (p : Nat) : CQ μ p 0 22 4 = μ 0 22 4 := by
  unfold CQ
  rw [up2_s, upd_o (by decide)]
theorem CQ_o (μ : CM) (p : Nat) {o : Nat} (h : o ≠ 22) : CQ μ p 0 o = μ 0 o := by
  unfold CQ
  rw [up2_o h]
theorem TX_CQ (μ : CM) (P : Nat) (a b : Nat → Int32) (cN q : Nat) : TX (CQ μ P) a b cN q = TX μ a b cN q := by
  unfold TX CQ
  rw [up2_c (o := 22) (o2 := 24) (by decide), up2_c (o := 22) (o2 := 25) (by decide), up2_s, up2_2, upd_c (μ 0 22) (show 5 ≠ 4 by decide), upd_2]
theorem TX_i (μ : CM) : up2 (up2 μ 0 22 (upd (μ 0 22) 4 (nI 0))) 0 22 (upd (up2 μ 0 22 (upd (μ 0 22) 4 (nI 0)) 0 22) 5 (nI 0)) = TX μ (μ 0 24) (μ 0 25) 0 0 := by
  unfold TX
  rw [up2_s, up2_2]
  have h := up2_id μ 0 25
  rw [up2_id, h]
/-- the command j of the text stands in the rows -/
def CMF (f24 f25 : Nat → Int32) (t : Nat → Nat) (n j : Nat) : Prop := ∃ w a b c d, coF t n j = some (w, a, b, c, d) ∧ w < 12 ∧ a < 1000 ∧ b < 1000 ∧ c < 1000 ∧ d < 1000 ∧ f24 j = nI (WS w) ∧ f25 (j * 4 + 0) = nI a ∧ ((w = 7 ∨ w = 9 ∨ w = 11) → f25 (j * 4 + 1) = nI b) ∧ (w = 7 → f25 (j * 4 + 2) = nI c ∧ f25 (j * 4 + 3) = nI d)
theorem CMF_k {f24 f25 g : Nat → Int32} {t : Nat → Nat} {n j m : Nat} {x : Int32} (h : CMF f24 f25 t n j) (hj : j < m) (hg : ∀ k, k < m * 4 → g k = f25 k) : CMF (upd f24 m x) g t n j := by
  obtain ⟨w, a, b, c, d, h1, h2, h3, h4, h5, h6, h7, h8, h9, h10⟩ := h
  refine ⟨w, a, b, c, d, h1, h2, h3, h4, h5, h6, by rw [upd_o (by omega)]; exact h7, by rw [hg _ (by omega)]; exact h8, fun z => by rw [hg _ (by omega)]; exact h9 z, fun z => by rw [hg _ (by omega), hg _ (by omega)]; exact h10 z⟩
theorem CMF_n {μ : CM} {f24 f25 : Nat → Int32} {t : Nat → Nat} {n m c2 q w a b c d : Nat} (e : coF t n m = some (w, a, b, c, d)) (hw : w < 12) (ha : a < 1000) (hb : b < 1000) (hc : c < 1000) (hd : d < 1000) (h : CMJ (TX μ f24 f25 c2 q) m w a b c d) : CMF f24 f25 t n m := by
  obtain ⟨h1, h2, h3, h4⟩ := h
  rw [TX_24] at h1
  rw [TX_25] at h2 h3 h4
  exact ⟨w, a, b, c, d, e, hw, ha, hb, hc, hd, h1, h2, h3, h4⟩
theorem CMF_J {μ : CM} {f24 f25 : Nat → Int32} {t : Nat → Nat} {n j c2 q : Nat} (h : CMF f24 f25 t n j) : ∃ w a b c d, coF t n j = some (w, a, b, c, d) ∧ w < 12 ∧ a < 1000 ∧ b < 1000 ∧ c < 1000 ∧ d < 1000 ∧ CMJ (TX μ f24 f25 c2 q) j w a b c d := by
  obtain ⟨w, a, b, c, d, h1, h2, h3, h4, h5, h6, h7, h8, h9, h10⟩ := h
  refine ⟨w, a, b, c, d, h1, h2, h3, h4, h5, h6, ?_⟩
  unfold CMJ
  rw [TX_24, TX_25]
  exact ⟨h7, h8, h9, h10⟩
theorem max_PW {t : Nat → Nat} {n p i lg k : Nat} (hno : ∀ w, w < i → ¬ PW t n p w (wl w)) (hmx : ∀ w, w < i → ¬ PW t n p w (lg + 1)) (hX : k < wl i → ¬ PW t n p i (k + 1)) (hne : k < wl i) : (∀ w, w < i + 1 → ¬ PW t n p w (wl w)) ∧ ∀ w, w < i + 1 → ¬ PW t n p w (max lg k + 1) := by
  refine ⟨fun w hw hp => ?_, fun w hw hp => ?_⟩
  · rcases Nat.lt_succ_iff_lt_or_eq.mp hw with e | e
    · exact hno w e hp
    · rw [e] at hp
      exact hX hne (PW_mono hp (by omega))
  · rcases Nat.lt_succ_iff_lt_or_eq.mp hw with e | e
    · exact hmx w e (PW_mono hp (by omega))
    · rw [e] at hp
      exact hX hne (PW_mono hp (by omega))
theorem ex_PW {t : Nat → Nat} {n p i lg k : Nat} (h : lg = 0 ∨ ∃ w, w < i ∧ PW t n p w lg) (hk : PW t n p i k) : max lg k = 0 ∨ ∃ w, w < i + 1 ∧ PW t n p w (max lg k) := by
  by_cases e : lg ≤ k
  · rw [Nat.max_eq_right e]
    exact Or.inr ⟨i, Nat.lt_succ_self i, hk⟩
  · rw [Nat.max_eq_left (by omega)]
    rcases h with h | ⟨w, h1, h2⟩
    · omega
    · exact Or.inr ⟨w, by omega, h2⟩
theorem WNO_mx {t : Nat → Nat} {n p lg : Nat} (hno : ∀ w, w < 12 → ¬ PW t n p w (wl w)) (hex : lg = 0 ∨ ∃ w, w < 12 ∧ PW t n p w lg) (hmx : ∀ w, w < 12 → ¬ PW t n p w (lg + 1)) : WNO t n p lg := by
  refine ⟨hno, ?_, hmx⟩
  rcases hex with h | h
  · rw [h]
    exact ⟨0, by decide, PW_0 t n p 0⟩
  · exact h
