/-! pure words: the good form is kept by each change -/
section VGS
variable {v : Nat → Int32}
theorem VG_ins {q a : Nat} {k : Int32} (h : VG v) (hq : q ≤ nfV v) (h8 : nfV v < 8) (hk : KP k (nI a)) (ha : a ≤ 999) : VG (insV v q (nfV v) k (nI a)) :=
  VG_of (FGx_ins (VG_F h) hq h8 hk ha) (SGx_c (VG_S h) (fun j hj => insV_o hq h8 (by omega))) (TGx_c (VG_T h) (fun j hj => insV_o hq h8 (by omega)))
theorem VG_del {q : Nat} (h : VG v) (hq : q < nfV v) : VG (delV v q (nfV v)) :=
  have h8 := h.1.2
  VG_of (FGx_del (VG_F h) hq) (SGx_c (VG_S h) (fun j hj => delV_o hq h8 (by omega))) (TGx_c (VG_T h) (fun j hj => delV_o hq h8 (by omega)))
theorem VG_sw {a b : Nat} (h : VG v) (ha : a < nfV v) (hb : b < nfV v) : VG (swV v a b) :=
  have h8 := h.1.2
  VG_of (FGx_sw (VG_F h) ha hb) (SGx_c (VG_S h) (fun j hj => swV_o (by omega) (by omega) (by omega))) (TGx_c (VG_T h) (fun j hj => swV_o (by omega) (by omega) (by omega)))
theorem VG_note {q P k : Nat} {am : Int32} (h : VG v) (hq : q < 4) (hk : 1 ≤ k) (hl : lnV v q + k ≤ 160) (ham : nI 1 ≤ am ∧ am ≤ nI 999) : VG (noteV v q (lnV v q) (nnV v q) P am k) := by
  obtain ⟨c, h1, h2, rfl⟩ := (I_rng2 (by decide) (by decide)).mp ham
  exact VG_of (FGx_c (VG_F h) (fun j hj => noteV_o hq hl (by omega))) (SGx_note (VG_S h) hq hk hl h2) (TGx_c (VG_T h) (fun j hj => noteV_o hq hl (by omega)))
theorem VG_unt {q : Nat} (h : VG v) (hq : q < 4) (h0 : 0 < nnV v q) : VG (untV v q (nnV v q) (lnV v q) (nlV v q (nnV v q - 1))) :=
  have hb := SGx_b (VG_S h) hq
  have hl := (VG_S h).1 q hq
  VG_of (FGx_c (VG_F h) (fun j hj => untV_o hq (by omega) (by omega))) (SGx_unt (VG_S h) hq h0) (TGx_c (VG_T h) (fun j hj => untV_o hq (by omega) (by omega)))
theorem VG_add {a : Nat} (h : VG v) (h4 : ntV v < 4) (ha : 1 ≤ a ∧ a ≤ 9) : VG (upd (upd (upd v (29 + 12 * ntV v + 0) (nI a)) (29 + 12 * ntV v + 1) (nI 9999)) 1 (nI (ntV v + 1))) :=
  VG_of (FGx_c (VG_F h) (fun j hj => by rw [upd_o (by omega), upd_o (by omega), upd_o (by omega)])) (SGx_c (VG_S h) (fun j hj => by rw [upd_o (by omega), upd_o (by omega), upd_o (by omega)])) (TGx_add (VG_T h) h4 ha)
theorem VG_tune {q y : Nat} (h : VG v) (hq : q < ntV v) (hy : y ≤ 9999) : VG (upd v (29 + 12 * q + 1) (nI y)) :=
  have h4 := h.2.1.2
  VG_of (FGx_c (VG_F h) (fun j hj => upd_o (by omega))) (SGx_c (VG_S h) (fun j hj => upd_o (by omega))) (TGx_tune (VG_T h) hq hy)
theorem VG_drn {q j : Nat} (h : VG v) (hq : q < ntV v) (hj : 1 ≤ j) (hl : j ≤ lvN v q) : VG (drnV v q (lvN v q) j) :=
  have h4 := h.2.1.2
  VG_of (FGx_c (VG_F h) (fun j hj => drnV_o (by omega) (by omega))) (SGx_c (VG_S h) (fun j hj => drnV_o (by omega) (by omega))) (TGx_drn (VG_T h) hq hj hl)
theorem VG_pour {q : Nat} (h : VG v) (hq : q < 4) (k : Nat) : VG (pourN v (ntV v) (ldV (flV v q (nfV v)) (lnV v q)) k) := by
  have h4 := h.2.1.2
  have hT := VG_T h
  obtain ⟨lv2, fr2, h2⟩ := TGx_pourN (L := ldV (flV v q (nfV v)) (lnV v q)) (fun k => by
    obtain ⟨a, ha, e⟩ := ldV_nat (f := flV v q (nfV v)) (n := lnV v q) (k := k) (fun i hi => VG_flV h hq hi)
    exact ⟨a, by omega, e⟩) hT k
  exact VG_of (FGx_c (VG_F h) (fun j hj => pourN_lo hT.2.1 h4 (by omega) (by omega) (by omega) k)) (SGx_c (VG_S h) (fun j hj => pourN_lo hT.2.1 h4 (by omega) (by omega) (by omega) k)) h2
end VGS
theorem VG_ex {v v2 : Nat → Int32} {w a b c d : Nat} (h : VG v) (hw : w < 12) (ha : a < 1000) (hb : b < 1000) (hc : c < 1000) (hd : d < 1000) (e : exV v w a b c d = some v2) : VG v2 := by
  unfold exV at e
  by_cases h1 : w < 6
  · rw [if_pos h1] at e
    split at e
    · next hc1 => cases e; exact VG_ins h (Nat.le_refl _) hc1.2 hc1.1 (by omega)
    · cases e
  rw [if_neg h1] at e
  by_cases h2 : w = 6
  · rw [if_pos h2] at e
    split at e
    · next hc1 => cases e; exact VG_del h hc1
    · cases e
  rw [if_neg h2] at e
  by_cases h3 : w = 7
  · rw [if_pos h3] at e
    split at e
    · next hc1 =>
      cases e
      have h9 := (nI_rn (by omega) (by decide) (by decide)).mp hc1.2.1.2.2
      exact VG_note h hc1.1 h9.1 hc1.2.2 hc1.2.1.2.1
    · cases e
  rw [if_neg h3] at e
  by_cases h4 : w = 8
  · rw [if_pos h4] at e
    split at e
    · next hc1 => cases e; exact VG_add h hc1.2.2 ⟨hc1.1, hc1.2.1⟩
    · cases e
  rw [if_neg h4] at e
  by_cases h5 : w = 9
  · rw [if_pos h5] at e
    split at e
    · next hc1 => cases e; exact VG_tune h hc1 (by omega)
    · cases e
  rw [if_neg h5] at e
  by_cases h6 : w = 10
  · rw [if_pos h6] at e
    split at e
    · next hc1 => cases e; exact VG_pour h hc1.1 _
    · cases e
  rw [if_neg h6] at e
  split at e
  · next hc1 => cases e; exact VG_drn h hc1.1 hc1.2.1 hc1.2.2.2
  · cases e
theorem VG_0 : VG (fun _ => nI 0) := by
  refine VG_of (nf := 0) (nt := 0) (ps := fun _ => 0) (ln := fun _ => 0) (nn := fun _ => 0) (cp := fun _ => 0) (lv := fun _ => 0) (tu := fun _ => 0) (nl := fun _ _ => 0) (fr := fun _ _ => 0) ⟨⟨rfl, by decide⟩, fun f hf => absurd hf (Nat.not_lt_zero _)⟩ ⟨fun q hq => ⟨rfl, Nat.zero_le _⟩, fun q hq => rfl, fun q j hq hj => absurd hj (Nat.not_lt_zero _), fun q hq => rfl, fun q i hq hi => absurd hi (Nat.not_lt_zero _)⟩ ⟨⟨rfl, by decide⟩, fun t ht => absurd ht (Nat.not_lt_zero _), fun t ht => absurd ht (Nat.not_lt_zero _), fun t ht => absurd ht (Nat.not_lt_zero _), fun t k ht => absurd ht (Nat.not_lt_zero _), fun t h1 h2 => rfl⟩
/-- command texts, command after command -/
noncomputable def stF (t : Nat → Nat) (n : Nat) : Nat → Nat
  | 0 => 0
  | j + 1 => (cmF t n (stF t n j)).2 + 1
noncomputable def enF (t : Nat → Nat) (n j : Nat) : Nat := (cmF t n (stF t n j)).2
noncomputable def coF (t : Nat → Nat) (n j : Nat) : Option (Nat × Nat × Nat × Nat × Nat) := (cmF t n (stF t n j)).1
/-- m commands stand, each with its semicolon -/
def GP (t : Nat → Nat) (n m : Nat) : Prop := ∀ j, j < m → coF t n j ≠ none ∧ enF t n j < n ∧ chT t n (enF t n j) = nI 59
/-- a command text of m + 1 commands -/
def TOK (t : Nat → Nat) (n m : Nat) : Prop := GP t n m ∧ coF t n m ≠ none ∧ enF t n m = n
/-- none: the error stands at the end of the command m -/
def TNO (t : Nat → Nat) (n m : Nat) : Prop := GP t n m ∧ (coF t n m = none ∨ (enF t n m < n ∧ ¬ chT t n (enF t n m) = nI 59))
theorem TOK_u {t : Nat → Nat} {n a b : Nat} (ha : TOK t n a) (hb : TOK t n b) : a = b := by
  rcases Nat.lt_trichotomy a b with h | h | h
  · have := (hb.1 a h).2.1; have := ha.2.2; omega
  · exact h
  · have := (ha.1 b h).2.1; have := hb.2.2; omega
theorem TNO_lt {t : Nat → Nat} {n a b : Nat} (ha : TNO t n a) (hb : GP t n b) : b ≤ a := by
  rcases Nat.lt_or_ge a b with h | h
  · have h1 := hb a h
    rcases ha.2 with e | e
    · exact absurd e h1.1
    · exact absurd h1.2.2 e.2
  · exact h
theorem TNO_u {t : Nat → Nat} {n a b : Nat} (ha : TNO t n a) (hb : TNO t n b) : a = b := Nat.le_antisymm (TNO_lt hb ha.1) (TNO_lt ha hb.1)
theorem TOK_NO {t : Nat → Nat} {n a b : Nat} (ha : TOK t n a) (hb : TNO t n b) : False := by
  have h1 := TNO_lt hb ha.1
  rcases Nat.lt_or_ge a b with h | h
  · have := (hb.1 a h).2.1; have := ha.2.2; omega
  · have e : a = b := by omega
    subst e
    rcases hb.2 with e | e
    · exact ha.2.1 e
    · have := ha.2.2; omega
noncomputable def exO (v : Nat → Int32) : Option (Nat × Nat × Nat × Nat × Nat) → Option (Nat → Int32)
  | none => none
  | some (w, a, b, c, d) => exV v w a b c d
/-- the state before the command j -/
noncomputable def vSq (t : Nat → Nat) (n : Nat) (v : Nat → Int32) : Nat → (Nat → Int32)
  | 0 => v
  | j + 1 => (exO (vSq t n v j) (coF t n j)).getD (vSq t n v j)
theorem vSq_s {t : Nat → Nat} {n j : Nat} {v v2 : Nat → Int32} (h : exO (vSq t n v j) (coF t n j) = some v2) : vSq t n v (j + 1) = v2 := by rw [vSq, h]; rfl
theorem GP_s {t : Nat → Nat} {n m : Nat} (h : GP t n m) (h1 : coF t n m ≠ none) (h2 : enF t n m < n) (h3 : chT t n (enF t n m) = nI 59) : GP t n (m + 1) := fun j hj => by
  rcases Nat.lt_succ_iff_lt_or_eq.mp hj with e | e
  · exact h j e
  · rw [e]; exact ⟨h1, h2, h3⟩
theorem PL_PM (ν : MM) (a b p w : Nat) (f : Nat → Int32) : PL (PM ν a b) p w f = PL ν p w f := by
  unfold PL
  rw [PM_PM]
theorem PM_E6 (ν : MM) (a b p w : Nat) (f o g v : Nat → Int32) : PM (mE6 (PL ν a b f) o g v) p w = mE6 (PL ν p w f) o g v := by
  have h := PM_PL ν a b p w f
  unfold PM mE6 at *
  rw [← h, up1_c (i := 1) (j := 0) (by decide), up1_c (i := 7) (j := 0) (by decide), up1_c (i := 6) (j := 0) (by decide)]
  rfl
theorem E6_E6 (ν : MM) (a b p w : Nat) (f o g v f2 o2 g2 v2 : Nat → Int32) : mE6 (PL (mE6 (PL ν a b f) o g v) p w f2) o2 g2 v2 = mE6 (PL ν p w f2) o2 g2 v2 := by
  rw [PL, PM_E6]
  unfold mE6
  rw [up1_c (i := 1) (j := 10) (by decide), up1_c (i := 7) (j := 10) (by decide), up1_c (i := 6) (j := 10) (by decide), PL_f, up1_c (i := 1) (j := 6) (by decide), up1_c (i := 7) (j := 6) (by decide), up1_2, up1_c (i := 1) (j := 7) (by decide), up1_2, up1_2]
