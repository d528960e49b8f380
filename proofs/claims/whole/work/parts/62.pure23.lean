theorem AB_msum {g : Nat → Int32} {i M : Nat} (hM : M ≤ 200000) (h : ∀ j, j ≤ i → AB (g j) M) : ∀ m, m ≤ 8 → AB (msum g i m) (m * M)
  | 0, _ => by rw [msum]; exact AB_0 _
  | m + 1, hm => by
    have h1 := AB_msum hM h m (by omega)
    have h2 : m * M ≤ 7 * M := Nat.mul_le_mul_right M (by omega)
    rw [msum, Nat.succ_mul]
    refine AB_add h1 ?_ (by omega)
    by_cases e : m ≤ i
    · rw [if_pos e]
      exact h _ (by omega)
    · rw [if_neg e]
      exact AB_0 _
theorem AB_clip {y : Int32} {P M : Nat} (hP : P ≤ 999) (h : AB y M) : AB (imax (-nI P) (imin (nI P) y)) M := by
  have e : (nI P).toInt = P := nI_toInt (by omega)
  have e2 : (-nI P).toInt = -P := by rw [tI_neg (by omega), e]
  unfold AB at h ⊢
  unfold imax imin
  by_cases c : nI P ≤ y
  · rw [if_pos c]
    rw [Int32.le_iff_toInt_le] at c
    by_cases d : -nI P < nI P
    · rw [if_pos d]; omega
    · rw [if_neg d]; omega
  · rw [if_neg c]
    by_cases d : -nI P < y
    · rw [if_pos d]; exact h
    · rw [if_neg d]
      rw [Int32.lt_iff_toInt_lt] at d
      omega
theorem AB_fpass {k : Int32} {P i M : Nat} {g : Nat → Int32} (hP : P ≤ 999) (hk : KP k (nI P)) (hM : M ≤ 200000) (h : ∀ j, j ≤ i → AB (g j) M) : AB (fpass k (nI P) g i) (2 * M) := by
  have hi := h i (Nat.le_refl i)
  rcases hk with ⟨e, h1⟩ | ⟨e, h1⟩ | ⟨e, h1⟩ | ⟨e, h1⟩ | ⟨e, h1⟩ | ⟨e, h1⟩
  · have h2 := nI_rngs (lo := 0) (hi := 200) (by omega) (by decide) (by decide) h1
    subst e
    rw [fpass, if_neg (by decide), if_neg (by decide), chg, if_pos rfl]
    have h3 : M * P ≤ M * 200 := Nat.mul_le_mul_left M h2.2
    exact AB_mono (AB_div (AB_mul hi (by omega) (by omega)) (by omega) (by decide)) (by omega)
  · subst e
    rw [fpass, if_pos rfl, nI_clamp (by omega)]
    by_cases c : P ≤ i
    · rw [if_pos c]; exact AB_mono (h _ (by omega)) (by omega)
    · rw [if_neg c]; exact AB_0 _
  · have h2 := nI_rngs (lo := 2) (hi := 8) (by omega) (by decide) (by decide) h1
    subst e
    rw [fpass, if_neg (by decide), if_pos rfl, nI_clamp (by omega)]
    have h3 : P * M ≤ 8 * M := Nat.mul_le_mul_right M h2.2
    have h4 := AB_div (n := P) (AB_msum hM h P h2.2) (by omega) (by omega)
    rw [Nat.mul_div_cancel_left M (by omega)] at h4
    exact AB_mono h4 (by omega)
  · subst e
    rw [fpass, if_neg (by decide), if_neg (by decide), chg, if_neg (by decide), if_pos rfl]
    exact AB_mono (AB_clip hP hi) (by omega)
  · subst e
    rw [fpass, if_neg (by decide), if_neg (by decide), chg, if_neg (by decide), if_neg (by decide), if_pos rfl]
    exact AB_mono (AB_neg hi (by omega)) (by omega)
  · subst e
    rw [fpass, if_neg (by decide), if_neg (by decide), chg, if_neg (by decide), if_neg (by decide), if_neg (by decide)]
    have h3 : M / P * P ≤ M := Nat.div_mul_le_self M P
    exact AB_mono (AB_mul (AB_div hi (by omega) (by omega)) (by omega) (by omega)) (by omega)
def bd : Nat → Nat
  | 0 => 999
  | f + 1 => 2 * bd f
theorem bd_le {f : Nat} (h : f ≤ 8) : bd f ≤ 255744 ∧ (f ≤ 7 → bd f ≤ 200000) := by
  rcases (show f = 0 ∨ f = 1 ∨ f = 2 ∨ f = 3 ∨ f = 4 ∨ f = 5 ∨ f = 6 ∨ f = 7 ∨ f = 8 by omega) with e | e | e | e | e | e | e | e | e <;> subst e <;> simp [bd]
theorem AB_flR {raw ks pr : Nat → Int32} {nf n : Nat} {ps : Nat → Nat} (h8 : nf ≤ 8) (hps : ∀ f, f < nf → pr f = nI (ps f) ∧ ps f ≤ 999 ∧ KP (ks f) (nI (ps f))) (hr : ∀ i, i < n → AB (raw i) 999) : ∀ f, f ≤ nf → ∀ i, i < n → AB (flR raw ks pr f i) (bd f)
  | 0, _, i, hi => hr i hi
  | f + 1, hf, i, hi => by
    have h1 := hps f (by omega)
    rw [flR, h1.1, bd]
    exact AB_fpass h1.2.1 h1.2.2 ((bd_le (by omega)).2 (by omega)) (fun j hj => AB_flR h8 hps hr f (by omega) j (by omega))
theorem imax_nI {a b : Nat} (ha : a < 2 ^ 31) (hb : b < 2 ^ 31) : imax (nI a) (nI b) = nI (max a b) := by
  unfold imax
  by_cases h : a < b
  · rw [if_pos ((nI_ltI ha hb).mpr h), Nat.max_eq_right (by omega)]
  · rw [if_neg (fun z => h ((nI_ltI ha hb).mp z)), Nat.max_eq_left (by omega)]
theorem maxR_nat {g : Nat → Int32} {M : Nat} (hM : M < 2 ^ 31) : ∀ {m : Nat}, (∀ j, j < m → ∃ a, a ≤ M ∧ g j = nI a) → ∃ a, a ≤ M ∧ maxR g m = nI a
  | 0, _ => ⟨0, Nat.zero_le _, rfl⟩
  | m + 1, h => by
    obtain ⟨a, ha, ea⟩ := maxR_nat hM (m := m) (fun j hj => h j (by omega))
    obtain ⟨b, hb, eb⟩ := h m (Nat.lt_succ_self m)
    refine ⟨max a b, by omega, ?_⟩
    rw [maxR, ea, eb, imax_nI (by omega) (by omega)]
theorem ldV_nat {f : Nat → Int32} {n k : Nat} (h : ∀ i, i < n → AB (f i) 255744) : ∃ a, a ≤ 255744 ∧ ldV f n k = nI a := by
  unfold ldV
  exact maxR_nat (by decide) (fun j hj => AB_iabs (h _ (by omega)) (by decide))
theorem rawB_AB {v : Nat → Int32} (h : rawB v) {q i : Nat} (hq : q < 4) (hi : i < lnV v q) : AB (v (77 + 160 * q + i)) 999 := by
  obtain ⟨a, ha, e | e⟩ := h q i hq hi
  · rw [e]
    exact AB_nI ha (by omega)
  · rw [e]
    exact AB_neg (AB_nI ha (by omega)) (by decide)
theorem VG_flV {v : Nat → Int32} (h : VG v) {q i : Nat} (hq : q < 4) (hi : i < lnV v q) : AB (flV v q (nfV v) i) 255744 := by
  obtain ⟨⟨hnf, hnf8⟩, _, _, _, _, _, hps, _, _, _, _, _, hrb⟩ := h
  unfold flV
  exact AB_mono (AB_flR (n := lnV v q) hnf8 hps (fun j hj => rawB_AB hrb hq hj) (nfV v) (Nat.le_refl _) i hi) (bd_le hnf8).1
