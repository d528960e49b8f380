/-! THE CLASS AND THE MODEL SAY THE SAME -/
theorem VG_k {v w : Nat → Int32} (h : VG w) (e : ∀ j, j < 1357 → v j = w j) : VG v := by
  have hn := VG_n160 h
  obtain ⟨s1, s2, s3, s4, s5⟩ := VG_S h
  refine VG_of (FGx_c (VG_F h) (fun j hj => e j (by omega))) (ln := lnV w) (nn := nnV w) (nl := nlV w) ⟨fun q hq => ?_, fun q hq => ?_, fun q j hq hj => ?_, s4, fun q i hq hi => ?_⟩ (TGx_c (VG_T h) (fun j hj => e j (by omega)))
  · rw [e _ (by omega)]
    exact s1 q hq
  · rw [e _ (by omega)]
    exact s2 q hq
  · have := hn q hq
    rw [e _ (by omega)]
    exact s3 q j hq hj
  · have := hn q hq
    rw [e _ (by omega)]
    exact s5 q i hq hi
theorem RP_kv {k : CR1} {v w : Nat → Int32} (h : RP k w) (hV : VG w) (e : ∀ j, j < 1357 → v j = w j) : RP k v := by
  have hn := VG_n160 hV
  obtain ⟨s1, s2, s3, s4, s5⟩ := VG_S hV
  refine RP_of (nf := nfV w) (nt := ntV w) (ps := psV w) (ln := lnV w) (nn := nnV w) (nl := nlV w) (cp := cpN w) (lv := lvN w) (tu := tuN w) (fr := frN w) (FGx_c (VG_F hV) (fun j hj => e j (by omega))) ⟨fun q hq => ?_, fun q hq => ?_, fun q j hq hj => ?_, s4, fun q i hq hi => ?_⟩ (TGx_c (VG_T hV) (fun j hj => e j (by omega))) (RF_c h.1 hV.1.2 (fun j hj => e j (by omega))) (fun q hq => ?_) (RT_c h.2.2 hV.2.1.2 (TGx_9 (VG_T hV)) (fun j hj => e j (by omega)))
  · rw [e _ (by omega)]
    exact s1 q hq
  · rw [e _ (by omega)]
    exact s2 q hq
  · have := hn q hq
    rw [e _ (by omega)]
    exact s3 q j hq hj
  · have := hn q hq
    rw [e _ (by omega)]
    exact s5 q i hq hi
  · have := hn q hq
    obtain ⟨a1, a2, a3, a4⟩ := h.2.1 q hq
    exact ⟨by rw [e _ (by omega)]; exact a1, by rw [e _ (by omega)]; exact a2, fun i hi => by rw [e _ (by omega)]; exact a3 i hi, fun i hi => by rw [e _ (by omega)]; exact a4 i hi⟩
/-- the ring and the model's past -/
def HR (g : Nat → Bool) (μ : CM) (kr cn : Nat) (p : Nat → Int32) : Prop := ∀ i, i < cn → g ((kr + 7 - i) % 8) = true ∧ ∃ w, VG w ∧ RP (μ ((kr + 7 - i) % 8 + 3)) w ∧ ∀ k, k < 1357 → p ((cn - 1 - i) * 1357 + k) = w k
theorem HR_c {g : Nat → Bool} {μ u : CM} {kr cn : Nat} {p : Nat → Int32} (h : HR g μ kr cn p) (hc : cn ≤ 8) (e : ∀ b o, 3 ≤ b → b < 11 → u b o = μ b o) : HR g u kr cn p := fun i hi => by
  obtain ⟨h1, w, h2, h3, h4⟩ := h i hi
  exact ⟨h1, w, h2, RP_k h3 (fun o _ => e _ o (by omega) (by omega)), h4⟩
theorem HR_push {g : Nat → Bool} {μ u : CM} {kr cn : Nat} {p v : Nat → Int32} (h : HR g μ kr cn p) (hk : kr < 8) (hc : cn ≤ 8) (hV : VG v) (hB : RP (u (kr + 3)) v) (e : ∀ b o, 3 ≤ b → b < 11 → b ≠ kr + 3 → u b o = μ b o) : HR (gS g kr) u ((kr + 1) % 8) (min (cn + 1) 8) (pushP p cn v) := fun i hi => by
  by_cases h0 : i = 0
  · subst h0
    have e1 : ((kr + 1) % 8 + 7 - 0) % 8 = kr := by omega
    rw [e1]
    refine ⟨by simp [gS], v, hV, hB, fun k hk2 => ?_⟩
    unfold pushP
    by_cases h8 : cn = 8
    · rw [if_pos h8]
      simp only [laP]
      rw [if_pos (by omega)]
      exact congrArg v (by omega)
    · rw [if_neg h8]
      simp only [laP]
      rw [if_pos (by omega)]
      exact congrArg v (by omega)
  · have hi2 : i - 1 < cn := by omega
    obtain ⟨h1, w, h2, h3, h4⟩ := h (i - 1) hi2
    have e1 : ((kr + 1) % 8 + 7 - i) % 8 = (kr + 7 - (i - 1)) % 8 := by omega
    rw [e1]
    refine ⟨?_, w, h2, RP_k h3 (fun o _ => e _ o (by omega) (by omega) (by omega)), fun k hk2 => ?_⟩
    · unfold gS
      split
      · rfl
      · exact h1
    · rw [← h4 k hk2]
      unfold pushP
      by_cases h8 : cn = 8
      · rw [if_pos h8]
        simp only [laP]
        rw [if_neg (by omega)]
        simp only [shP]
        rw [if_pos (by omega)]
        exact congrArg p (by omega)
      · rw [if_neg h8]
        simp only [laP]
        rw [if_neg (by omega)]
        exact congrArg p (by omega)
theorem HR_pop {g : Nat → Bool} {μ u : CM} {kr cn : Nat} {p : Nat → Int32} (h : HR g μ kr cn p) (hk : kr < 8) (hc : cn ≤ 8) (e : ∀ b o, 3 ≤ b → b < 11 → u b o = μ b o) : HR g u ((kr + 8 - 1) % 8) (cn - 1) p := fun i hi => by
  obtain ⟨h1, w, h2, h3, h4⟩ := h (i + 1) (by omega)
  have e1 : ((kr + 8 - 1) % 8 + 7 - i) % 8 = (kr + 7 - (i + 1)) % 8 := by omega
  rw [e1]
  refine ⟨h1, w, h2, RP_k h3 (fun o _ => e _ o (by omega) (by omega)), fun k hk2 => ?_⟩
  rw [← h4 k hk2]
  exact congrArg p (by omega)
/-- the model's memory is the same but for what it works in -/
def TN (ν u : MM) : Prop := (∀ k, k ≠ 0 → u 0 k = ν 0 k) ∧ u 1 = ν 1 ∧ u 3 = ν 3 ∧ u 5 = ν 5 ∧ u 8 = ν 8 ∧ u 9 = ν 9 ∧ u 11 = ν 11 ∧ u 12 = ν 12
/-- the parts of the relation -/
def CRs (μ : CM) (ν : MM) : Prop := ∃ sv, ν 0 4 = nI sv ∧ sv ≤ 1 ∧ μ 0 14 9 = nI sv ∧ (sv = 1 → VG (ν 3) ∧ RP (μ 2) (ν 3))
def CRt (μ : CM) (ν : MM) : Prop := ∃ (tn : Nat) (t : Nat → Nat), ν 0 17 = nI tn ∧ μ 0 22 1 = nI tn ∧ tn ≤ 60 ∧ ∀ j, j < tn → ν 8 j = nI (t j) ∧ μ 0 23 j = nI (t j) ∧ t j < 128
def CRl (μ : CM) (ν : MM) : Prop := ∃ lN, ν 0 20 = nI lN ∧ μ 0 26 1 = nI lN ∧ lN ≤ 80 ∧ ∀ j, j < lN → ν 9 j = μ 0 27 j ∧ CH (ν 9 j)
def EP (x : Int32) : Prop := x = -1 ∨ ∃ n, n < 2 ^ 30 ∧ x = nI n
def CRe (μ : CM) (ν : MM) : Prop := μ 0 14 10 = ν 0 2 ∧ μ 0 14 11 = ν 0 3 ∧ EP (ν 0 2) ∧ EP (ν 0 3)
def CRh (g : Nat → Bool) (μ : CM) (ν : MM) : Prop := ∃ kr cn, kr < 8 ∧ cn ≤ 8 ∧ μ 0 15 1 = nI kr ∧ μ 0 15 2 = nI cn ∧ ν 0 1 = nI cn ∧ HR g μ kr cn (ν 5)
def CRw (ν : MM) : Prop := (∀ j, j < 63 → ν 11 j = nI (WD j)) ∧ ∀ j, j < 13 → ν 12 j = nI (WA j)
def CR (v : GM) (ν : MM) : Prop := VG (ν 1) ∧ RP (v.2.2 0) (ν 1) ∧ CRh v.1 v.2.2 ν ∧ CRs v.2.2 ν ∧ CRt v.2.2 ν ∧ CRl v.2.2 ν ∧ CRe v.2.2 ν ∧ CRw ν

/-! how far a text's error can stand -/
theorem DG_ex (t : Nat → Nat) (n p : Nat) : ∀ m, ∃ d, DG t n p m d
  | 0 => ⟨0, Nat.le_refl _, True.intro, fun h => absurd h (Nat.not_lt_zero _)⟩
  | m + 1 => by
    obtain ⟨d, h1, h2, h3⟩ := DG_ex t n p m
    by_cases hd : d < m
    · exact ⟨d, by omega, h2, fun _ => h3 hd⟩
    · have e : d = m := by omega
      subst e
      by_cases hi : isD (chT t n (p + d))
      · exact ⟨d + 1, Nat.le_refl _, ⟨h2, hi⟩, fun h => absurd h (Nat.lt_irrefl _)⟩
      · exact ⟨d, by omega, h2, fun _ => hi⟩
theorem dF_le (t : Nat → Nat) (n p m : Nat) : dF t n p m ≤ m := (Classical.epsilon_spec (DG_ex t n p m)).1
theorem WNO_ex {t : Nat → Nat} {n p : Nat} (h : ¬ ∃ w, WOK t n p w) : ∃ k, WNO t n p k := by
  refine Classical.byContradiction (fun hn => ?_)
  have step : ∀ k, ∃ w, w < 12 ∧ PW t n p w k := fun k => by
    induction k with
    | zero => exact ⟨0, by decide, PW_0 t n p 0⟩
    | succ k ih =>
      refine Classical.byContradiction (fun hk => hn ⟨k, fun w hw hp => h ⟨w, hw, hp⟩, ih, fun w hw hp => hk ⟨w, hw, hp⟩⟩)
  obtain ⟨w, hw, hp⟩ := step 8
  have h1 := hp.1
  have h2 := WA_12 hw
  omega
theorem kF_le {t : Nat → Nat} {n p : Nat} (h : ¬ ∃ w, WOK t n p w) : kF t n p ≤ 7 := by
  obtain ⟨-, ⟨w, hw, hp⟩, -⟩ := Classical.epsilon_spec (WNO_ex h)
  have h1 := hp.1
  have h2 := WA_12 hw
  show kF t n p ≤ 7
  have h3 : kF t n p ≤ wl w := h1
  omega
theorem bhF_q (t : Nat → Nat) (n p m : Nat) : (bhF t n p m).2 ≤ p + 1 + m := by
  have hd := dF_le t n (p + 1) m
  unfold bhF
  split
  · split
    · show p + 1 ≤ _
      omega
    · show p + 1 + dF t n (p + 1) m ≤ _
      omega
  · show p ≤ _
    omega
theorem rsF_q (t : Nat → Nat) (n w a p : Nat) : (rsF t n w a p).2 ≤ p + 12 := by
  have h1 := bhF_q t n p 3
  have h2 := bhF_q t n p 1
  unfold rsF
  split
  · split
    · next e => rw [e] at h1; show _ ≤ _; simp only at h1 ⊢; omega
    · next e => rw [e] at h1; show _ ≤ _; simp only at h1 ⊢; omega
  · split
    · split
      · next e => rw [e] at h2; show _ ≤ _; simp only at h2 ⊢; omega
      · next e => rw [e] at h2; show _ ≤ _; simp only at h2 ⊢; omega
    · split
      · split
        · next e => rw [e] at h1; show _ ≤ _; simp only at h1 ⊢; omega
        · next b q e =>
          rw [e] at h1
          have h3 := bhF_q t n q 3
          simp only at h1
          split
          · next e3 => rw [e3] at h3; simp only at h3 ⊢; omega
          · next c q2 e3 =>
            rw [e3] at h3
            have h4 := bhF_q t n q2 3
            simp only at h3
            split
            · next e4 => rw [e4] at h4; simp only at h4 ⊢; omega
            · next e4 => rw [e4] at h4; simp only at h4 ⊢; omega
      · show p ≤ _
        omega
theorem c1F_q (t : Nat → Nat) (n w p : Nat) : (c1F t n w p).2 ≤ p + 15 := by
  have h3 := dF_le t n p (if w < 6 then 3 else 1)
  have h4 : (if w < 6 then 3 else 1) ≤ 3 := by split <;> omega
  unfold c1F
  by_cases e : w = 4
  · rw [if_pos e]
    show p ≤ _
    omega
  · rw [if_neg e]
    generalize (if w < 6 then 3 else 1) = z at h3 h4 ⊢
    by_cases e2 : dF t n p z = 0
    · rw [if_pos e2]
      show p ≤ _
      omega
    · rw [if_neg e2]
      have h5 := rsF_q t n w (dvN t p (dF t n p z)) (p + dF t n p z)
      omega
theorem cmF_q (t : Nat → Nat) (n p : Nat) : (cmF t n p).2 ≤ p + 22 := by
  unfold cmF
  by_cases h : ∃ w, WOK t n p w
  · rw [if_pos h]
    have h1 : WOK t n p (wF t n p) := Classical.epsilon_spec h
    have h2 := WA_12 h1.1
    have h5 := c1F_q t n (wF t n p) (p + wl (wF t n p))
    omega
  · rw [if_neg h]
    have := kF_le h
    show p + kF t n p ≤ _
    omega
theorem TNO_q {t : Nat → Nat} {n m : Nat} (h : TNO t n m) : enF t n m ≤ n + 22 := by
  have h1 := cmF_q t n (stF t n m)
  cases m with
  | zero =>
    show (cmF t n (stF t n 0)).2 ≤ _
    have : stF t n 0 = 0 := rfl
    omega
  | succ m =>
    have h2 := (h.1 m (Nat.lt_succ_self m)).2.1
    have h3 : stF t n (m + 1) = enF t n m + 1 := rfl
    show (cmF t n (stF t n (m + 1))).2 ≤ _
    omega
