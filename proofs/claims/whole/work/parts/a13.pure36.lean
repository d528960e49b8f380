/-! public methods: what they leave -/
def SM (g : Nat → Bool) (A : Nat × Nat → Nat) (μ : CM) (u : GM) : Prop := u.1 = g ∧ u.2.1 = A ∧ SQ μ u.2.2
/-- the same but for what is worked in and the rows O of the root -/
def SMO (O : Nat → Prop) (g : Nat → Bool) (A : Nat × Nat → Nat) (μ : CM) (u : GM) : Prop := u.1 = g ∧ u.2.1 = A ∧ ∀ b o, ¬ scr b o → ¬ (b = 0 ∧ O o) → u.2.2 b o = μ b o
/-- a change: the state stood for v and stands for v2; the ring keeps v -/
def CHG (g : Nat → Bool) (A : Nat × Nat → Nat) (μ : CM) (k cn : Nat) (v v2 : Nat → Int32) (u : GM) : Prop :=
  u.1 = gS g k ∧ (∀ x ∈ ids g, u.2.1 x = A x) ∧ RP (u.2.2 0) v2 ∧ RP (u.2.2 (k + 3)) v ∧ (∀ b o, b ≠ k + 3 → ¬ (b = 0 ∧ (o < 14 ∨ o = 15)) → ¬ scr b o → u.2.2 b o = μ b o) ∧ u.2.2 0 15 1 = nI ((k + 1) % 8) ∧ u.2.2 0 15 2 = nI (min (cn + 1) 8)
theorem CHG_of {g g1 : Nat → Bool} {A A1 : Nat × Nat → Nat} {μ μ1 u : CM} {k cn : Nat} {v v2 : Nat → Int32} (hk : k < 8) (hg1 : g1 = gS g k) (hA1 : ∀ x ∈ ids g, A1 x = A x) (hm1 : ∀ b o, b ≠ k + 3 → ¬ (b = 0 ∧ o = 15) → μ1 b o = μ b o) (h1 : μ1 0 15 1 = nI ((k + 1) % 8)) (h2 : μ1 0 15 2 = nI (min (cn + 1) 8)) (hB : RP (μ1 (k + 3)) v) (hR : RP (u 0) v2) (hs : SQb 0 μ1 u) : CHG g A μ k cn v v2 (g1, A1, u) := by
  have h15 : u 0 15 = μ1 0 15 := hs 0 15 (by omega) (by unfold scr; omega)
  refine ⟨hg1, hA1, hR, RP_k hB (fun o ho => hs _ _ (by omega) (by unfold scr; omega)), fun b o e1 e2 e3 => ?_, ?_, ?_⟩
  · show u b o = μ b o
    rw [hs b o (fun z => e2 ⟨z.1, Or.inl z.2⟩) e3]
    exact hm1 b o e1 (fun z => e2 ⟨z.1, Or.inr z.2⟩)
  · show u 0 15 1 = _
    rw [h15]
    exact h1
  · show u 0 15 2 = _
    rw [h15]
    exact h2
/-- a sample behind the filters, nought where there is none -/
noncomputable def flz (v : Nat → Int32) (q : Nat) (x : Int32) : Int32 := @ite _ (IX x (lnV v q)) (Classical.propDecidable _) (flV v q (nfV v) x.toNatClampNeg) (nI 0)
theorem foz_of {μ u : CM} {v : Nat → Int32} (hR : RP (μ 0) v) (hV : VG v) {q : Nat} (hq : q < 4) {x r : Int32}
    (h : (∃ i, i < lnV v q ∧ x = nI i ∧ r = flR (fun t => μ 0 5 (q * 160 + t)) (μ 0 2) (μ 0 3) (nfV v) i ∧ ∃ M R : Nat → Int32, u = up2 (up2 μ 0 18 M) 0 19 R) ∨ (¬ IX x (lnV v q) ∧ r = nI 0 ∧ u = μ)) : r = flz v q x ∧ SQ μ u := by
  rcases h with ⟨i, hi, hx, hr, M, R, hu⟩ | ⟨hx, hr, hu⟩
  · subst hu
    refine ⟨?_, SQ_18 _ _ _⟩
    have h160 := VG_ln hV hq
    rw [flz, if_pos ⟨i, hi, hx⟩, hx, nI_clamp (by omega), hr]
    exact RP_fl hR hq (Nat.le_refl _) i hi
  · subst hu
    refine ⟨?_, SQ_rfl _⟩
    rw [flz, if_neg hx, hr]
theorem flz_in {v : Nat → Int32} {q i : Nat} (h : i < lnV v q) (h160 : lnV v q ≤ 160) : flz v q (nI i) = flV v q (nfV v) i := by
  rw [flz, if_pos ⟨i, h, rfl⟩, nI_clamp (by omega)]
theorem flz_out {v : Nat → Int32} {q : Nat} {x : Int32} (h : ¬ IX x (lnV v q)) : flz v q x = nI 0 := by rw [flz, if_neg h]
theorem dsN_i {a b : Nat} (h : ¬ a = b) (ha : a < 8) (hb : b < 8) : iabs (nI a - nI b) - nI 1 = nI (dsN a b) := by
  have key : ∀ a, a < 8 → ∀ b, b < 8 → ¬ a = b → iabs (nI a - nI b) - nI 1 = nI (dsN a b) := by decide +kernel
  exact key a ha b hb h
theorem dsN_s (a : Nat) : nI 0 = nI (dsN a a) := by simp [dsN]
