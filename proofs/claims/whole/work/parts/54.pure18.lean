/-! pure words: the scan of a word -/
noncomputable def lfR (t : Nat → Nat) (n p k i : Nat) : Nat → Int32 := fun w => if w < i then b2 (PW t n p w (k + 1)) else b2 (PW t n p w k)
theorem lfR_s (t : Nat → Nat) (n p k i : Nat) : upd (lfR t n p k i) i (b2 (PW t n p i (k + 1))) = lfR t n p k (i + 1) := by
  funext w
  unfold lfR
  by_cases e : w = i
  · subst e
    rw [upd_s, if_pos (Nat.lt_succ_self _)]
  · rw [upd_o e]
    by_cases h : w < i
    · rw [if_pos h, if_pos (by omega)]
    · rw [if_neg h, if_neg (by omega)]
theorem lfR_i (t : Nat → Nat) (n p k i : Nat) : lfR t n p k i i = b2 (PW t n p i k) := by
  unfold lfR
  rw [if_neg (Nat.lt_irrefl i)]
theorem lfR_0 (t : Nat → Nat) (n p k : Nat) : lfR t n p k 0 = fun w => b2 (PW t n p w k) := by
  funext w
  unfold lfR
  rw [if_neg (Nat.not_lt_zero _)]
theorem b2_n1 {P : Prop} : b2 P &&& nI 1 = b2 P := by
  have h := b2_and (P := P) (Q := True)
  rw [b2_t trivial] at h
  rw [h]
  exact b2_c ⟨fun z => z.1, fun z => ⟨z, trivial⟩⟩
theorem b2_n0 {P : Prop} : b2 P &&& nI 0 = nI 0 := by
  have h := b2_and (P := P) (Q := False)
  rw [b2_f (fun z => z)] at h
  rw [h]
  exact b2_f (fun z => z.2)
theorem b2_o1 {P : Prop} : b2 P ||| nI 1 = nI 1 := by
  have h := b2_or (P := P) (Q := True)
  rw [b2_t trivial] at h
  rw [h]
  exact b2_t (Or.inr trivial)
theorem b2_o0 {P : Prop} : b2 P ||| nI 0 = b2 P := by
  have h := b2_or (P := P) (Q := False)
  rw [b2_f (fun z => z)] at h
  rw [h]
  exact b2_c ⟨fun z => z.elim id (fun q => q.elim), Or.inl⟩
theorem wand_1 {t : Nat → Nat} {n p w k : Nat} (hw : w < 12) (hl : WA w + k < WA (w + 1)) (hc : nI (WD (WA w + k)) = chT t n (p + k)) : b2 (PW t n p w k) &&& nI 1 = b2 (PW t n p w (k + 1)) := by
  have h := WA_12 hw
  rw [b2_n1]
  refine b2_c ?_
  rw [PW_s]
  exact ⟨fun z => ⟨z, by omega, hc.symm⟩, fun z => z.1⟩
theorem wand_l {t : Nat → Nat} {n p w k : Nat} (hw : w < 12) (hl : ¬ WA w + k < WA (w + 1)) : b2 (PW t n p w k) &&& nI 0 = b2 (PW t n p w (k + 1)) := by
  have h := WA_12 hw
  rw [b2_n0, b2_f]
  rw [PW_s]
  intro z
  have := z.2.1
  omega
theorem wand_c {t : Nat → Nat} {n p w k : Nat} (hc : ¬ nI (WD (WA w + k)) = chT t n (p + k)) : b2 (PW t n p w k) &&& nI 0 = b2 (PW t n p w (k + 1)) := by
  rw [b2_n0, b2_f]
  rw [PW_s]
  exact fun z => hc z.2.2.symm
theorem wor_1 {t : Nat → Nat} {n p i k : Nat} (h : b2 (PW t n p i k) = nI 1) : b2 (∃ w, w < i ∧ PW t n p w k) ||| nI 1 = b2 (∃ w, w < i + 1 ∧ PW t n p w k) := by
  rw [b2_o1, b2_t]
  exact ⟨i, Nat.lt_succ_self i, b2_1.mp h⟩
theorem wor_0 {t : Nat → Nat} {n p i k : Nat} (h : ¬ b2 (PW t n p i k) = nI 1) : b2 (∃ w, w < i ∧ PW t n p w k) ||| nI 0 = b2 (∃ w, w < i + 1 ∧ PW t n p w k) := by
  rw [b2_o0]
  refine b2_c ⟨fun ⟨w, h1, h2⟩ => ⟨w, by omega, h2⟩, fun ⟨w, h1, h2⟩ => ?_⟩
  rcases Nat.lt_succ_iff_lt_or_eq.mp h1 with e | e
  · exact ⟨w, e, h2⟩
  · rw [e] at h2
    exact absurd (b2_1.mpr h2) h
noncomputable def fnd (Q : Nat → Prop) : Nat → Option Nat
  | 0 => none
  | i + 1 => @ite _ (Q i) (Classical.propDecidable _) (some i) (fnd Q i)
theorem fnd_y {Q : Nat → Prop} {i : Nat} (h : Q i) : fnd Q (i + 1) = some i := by rw [fnd, if_pos h]
theorem fnd_n {Q : Nat → Prop} {i : Nat} (h : ¬ Q i) : fnd Q (i + 1) = fnd Q i := by rw [fnd, if_neg h]
theorem fnd_some {Q : Nat → Prop} : ∀ {i w : Nat}, fnd Q i = some w → w < i ∧ Q w
  | 0, w, h => by simp [fnd] at h
  | i + 1, w, h => by
    by_cases hq : Q i
    · rw [fnd_y hq] at h
      cases h
      exact ⟨Nat.lt_succ_self _, hq⟩
    · rw [fnd_n hq] at h
      have := fnd_some h
      exact ⟨by omega, this.2⟩
theorem fnd_none {Q : Nat → Prop} : ∀ {i : Nat}, fnd Q i = none → ∀ w, w < i → ¬ Q w
  | 0, _, w, hw => absurd hw (Nat.not_lt_zero _)
  | i + 1, h, w, hw => by
    by_cases hq : Q i
    · rw [fnd_y hq] at h
      cases h
    · rw [fnd_n hq] at h
      rcases Nat.lt_succ_iff_lt_or_eq.mp hw with e | e
      · exact fnd_none h w e
      · rw [e]; exact hq
def QW (t : Nat → Nat) (n p k : Nat) (w : Nat) : Prop := PW t n p w (k + 1) ∧ WA w + (k + 1) = WA (w + 1)
theorem QW_ok {t : Nat → Nat} {n p k w : Nat} (hw : w < 12) (h : QW t n p k w) : WOK t n p w ∧ wl w = k + 1 := by
  have h1 := WA_12 hw
  have e : wl w = k + 1 := by have := h.2; omega
  exact ⟨⟨hw, by rw [e]; exact h.1⟩, e⟩
theorem QW_no {t : Nat → Nat} {n p k : Nat} (h : ∀ w, w < 12 → ¬ QW t n p k w) (hno : ∀ w, w < 12 → wl w ≤ k → ¬ PW t n p w (wl w)) : ∀ w, w < 12 → wl w ≤ k + 1 → ¬ PW t n p w (wl w) := by
  intro w hw hl hp
  have h1 := WA_12 hw
  by_cases e : wl w = k + 1
  · exact h w hw ⟨by rw [← e]; exact hp, by omega⟩
  · exact hno w hw (by omega) hp
theorem WNO_of {t : Nat → Nat} {n p k : Nat} (hno : ∀ w, w < 12 → wl w ≤ k → ¬ PW t n p w (wl w)) (hs : ∃ w, w < 12 ∧ PW t n p w k) (hm : ¬ ∃ w, w < 12 ∧ PW t n p w (k + 1)) : WNO t n p k := by
  refine ⟨fun w hw hp => ?_, hs, fun w hw hp => hm ⟨w, hw, hp⟩⟩
  by_cases e : wl w ≤ k
  · exact hno w hw e hp
  · exact hm ⟨w, hw, PW_mono hp (by omega)⟩
theorem PW_7 {t : Nat → Nat} {n p w k : Nat} (hw : w < 12) (h : PW t n p w k) : k ≤ 7 := by
  have h1 := WA_12 hw
  have := h.1
  omega
/-- where a word's characters go with the text, the text goes on -/
theorem PW_in {t : Nat → Nat} {n p w k : Nat} (h : PW t n p w k) : k = 0 ∨ p + k ≤ n := by
  rcases Nat.eq_zero_or_pos k with e | e
  · exact Or.inl e
  · refine Or.inr ?_
    have h1 := h.2 (k - 1) (by omega)
    unfold chT at h1
    by_cases h2 : p + (k - 1) < n
    · omega
    · rw [if_neg h2] at h1
      have h3 := kc_lt w (k - 1)
      exact absurd h1.symm (nI_m1 (by omega))
/-- the parser's memory with what is left of the words -/
def PL (ν : MM) (p w : Nat) (f : Nat → Int32) : MM := up1 (PM ν p w) 10 f
theorem PL_f (ν : MM) (p w : Nat) (f f2 : Nat → Int32) : up1 (PL ν p w f) 10 f2 = PL ν p w f2 := by
  unfold PL
  rw [up1_2]
theorem PL_w (ν : MM) (p w w2 : Nat) (f : Nat → Int32) : up1 (PL ν p w f) 0 (upd (PL ν p w f 0) 21 (nI w2)) = PL ν p w2 f := by
  unfold PL
  rw [up1_o (j := 0) (i := 10) (by decide), up1_c (i := 10) (j := 0) (by decide), PM_w]
theorem PL_p (ν : MM) (p w p2 : Nat) (f : Nat → Int32) : up1 (PL ν p w f) 0 (upd (PL ν p w f 0) 18 (nI p2)) = PL ν p2 w f := by
  unfold PL
  rw [up1_o (j := 0) (i := 10) (by decide), up1_c (i := 10) (j := 0) (by decide), PM_p]
theorem PL_h (ν : MM) (p w : Nat) (f : Nat → Int32) : PL ν p w f 0 18 = nI p := PM_h ν p w
theorem PL_x (ν : MM) (p w : Nat) (f : Nat → Int32) : PL ν p w f 0 21 = nI w := PM_x ν p w
theorem PL_r (ν : MM) (p w : Nat) (f : Nat → Int32) : PL ν p w f 10 = f := by
  unfold PL
  rw [up1_s]
theorem PL_id {ν : MM} {p w : Nat} {f : Nat → Int32} (h1 : ν 0 18 = nI p) (h2 : ν 0 21 = nI w) : PL ν p w f = up1 ν 10 f := by
  unfold PL
  rw [PM_id h1 h2]
theorem PM_PL (ν : MM) (p w p2 w2 : Nat) (f : Nat → Int32) : PM (PL ν p w f) p2 w2 = PL ν p2 w2 f := by
  unfold PL
  unfold PM
  rw [up1_o (j := 0) (i := 10) (by decide), up1_c (i := 10) (j := 0) (by decide), up1_s, up1_2, upd_c _ (show 21 ≠ 18 by decide), upd_2, upd_2]
theorem PL_PL (ν : MM) (p w p2 w2 : Nat) (f f2 : Nat → Int32) : PL (PL ν p w f) p2 w2 f2 = PL ν p2 w2 f2 := by
  rw [PL, PM_PL, PL_f]
