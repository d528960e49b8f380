/-! pure words: a parsed command as the class keeps it, and what it does -/
def WS (w : Nat) : Nat := if w < 6 then WD (WA w) else if w = 6 then 82 else if w = 7 then 78 else if w = 8 then 84 else if w = 9 then 85 else if w = 10 then 80 else 68
/-- the command j of the class's rows -/
def CMJ (μ : CM) (j w a b c d : Nat) : Prop := μ 0 24 j = nI (WS w) ∧ μ 0 25 (j * 4 + 0) = nI a ∧ ((w = 7 ∨ w = 9 ∨ w = 11) → μ 0 25 (j * 4 + 1) = nI b) ∧ (w = 7 → μ 0 25 (j * 4 + 2) = nI c ∧ μ 0 25 (j * 4 + 3) = nI d)
theorem ite_some {P : Prop} {dc : Decidable P} {x v2 : Nat → Int32} (h : @ite _ P dc (some x) none = some v2) : P ∧ x = v2 := by
  by_cases hP : P
  · rw [if_pos hP] at h
    cases h
    exact ⟨hP, rfl⟩
  · rw [if_neg hP] at h
    cases h
section EX
variable {v v2 : Nat → Int32} {w a b c d : Nat}
theorem exV_0 (h : w < 6) : exV v w a b c d = @ite _ (KP (nI (WD (WA w))) (nI a) ∧ nfV v < 8) (Classical.propDecidable _) (some (insV v (nfV v) (nfV v) (nI (WD (WA w))) (nI a))) none := by rw [exV, if_pos h]
theorem exV_6 : exV v 6 a b c d = if a < nfV v then some (delV v a (nfV v)) else none := by rw [exV, if_neg (by decide), if_pos rfl]
theorem exV_7 : exV v 7 a b c d = @ite _ (a < 4 ∧ NV (nI b) (nI c) (nI d) ∧ lnV v a + d ≤ 160) (Classical.propDecidable _) (some (noteV v a (lnV v a) (nnV v a) b (nI c) d)) none := by rw [exV, if_neg (by decide), if_neg (by decide), if_pos rfl]
theorem exV_8 : exV v 8 a b c d = if 1 ≤ a ∧ a ≤ 9 ∧ ntV v < 4 then some (upd (upd (upd v (29 + 12 * ntV v + 0) (nI a)) (29 + 12 * ntV v + 1) (nI 9999)) 1 (nI (ntV v + 1))) else none := by rw [exV, if_neg (by decide), if_neg (by decide), if_neg (by decide), if_pos rfl]
theorem exV_9 : exV v 9 a b c d = if a < ntV v then some (upd v (29 + 12 * a + 1) (nI b)) else none := by rw [exV, if_neg (by decide), if_neg (by decide), if_neg (by decide), if_neg (by decide), if_pos rfl]
theorem exV_10 : exV v 10 a b c d = if a < 4 ∧ 0 < nnV v a then some (pourN v (ntV v) (ldV (flV v a (nfV v)) (lnV v a)) ((lnV v a + 7) / 8)) else none := by rw [exV, if_neg (by decide), if_neg (by decide), if_neg (by decide), if_neg (by decide), if_neg (by decide), if_pos rfl]
theorem exV_11 : exV v 11 a b c d = if a < ntV v ∧ 1 ≤ b ∧ b ≤ 9 ∧ b ≤ lvN v a then some (drnV v a (lvN v a) b) else none := by rw [exV, if_neg (by decide), if_neg (by decide), if_neg (by decide), if_neg (by decide), if_neg (by decide), if_neg (by decide)]
end EX
/-- the same but for the state at b0 and what is worked in -/
def SQb (b0 : Nat) (μ u : CM) : Prop := ∀ b o, ¬ (b = b0 ∧ o < 14) → ¬ scr b o → u b o = μ b o
theorem SQb_rfl (b0 : Nat) (μ : CM) : SQb b0 μ μ := fun _ _ _ _ => rfl
theorem SQb_tr {b0 : Nat} {μ u w : CM} (h1 : SQb b0 μ u) (h2 : SQb b0 u w) : SQb b0 μ w := fun b o h k => (h2 b o h k).trans (h1 b o h k)
theorem SQb_up {b0 : Nat} {μ u : CM} (h : SQb b0 μ u) {o : Nat} (ho : o < 14) (f : Nat → Int32) : SQb b0 μ (up2 u b0 o f) := fun b2 o2 h2 k => by
  rw [up2_n (fun z => h2 (by rw [z.1, z.2]; exact ⟨rfl, ho⟩))]
  exact h b2 o2 h2 k
theorem SQb_sc {b0 : Nat} {μ u : CM} (h : SQb b0 μ u) {b o : Nat} (hs : scr b o) (f : Nat → Int32) : SQb b0 μ (up2 u b o f) := fun b2 o2 h2 k => by
  rw [up2_n (fun z => k (by rw [z.1, z.2]; exact hs))]
  exact h b2 o2 h2 k
theorem SQb_SQ {b0 : Nat} {μ u : CM} (h : SQ μ u) : SQb b0 μ u := fun b o _ k => h b o k
theorem VG_num {v : Nat → Int32} (hV : VG v) : (∀ q, q < 4 → v (25 + q) = nI (lnV v q) ∧ lnV v q ≤ 160) ∧ ∀ q, q < 4 → v (21 + q) = nI (nnV v q) ∧ nnV v q ≤ 160 :=
  ⟨hV.2.2.1, fun q hq => ⟨(hV.2.2.2.1 q hq).1, by have := hV.2.2.2.1 q hq; have := hV.2.2.1 q hq; omega⟩⟩
section RPA
variable {k : CR1} {v : Nat → Int32}
theorem RP_aln (h : RP k v) (hV : VG v) : ∀ q, q < 4 → k 7 q = nI (lnV v q) ∧ lnV v q ≤ 160 := fun q hq => ⟨RP_l7 h hV hq, VG_ln hV hq⟩
theorem RP_ann (h : RP k v) (hV : VG v) : ∀ q, q < 4 → k 8 q = nI (nnV v q) ∧ nnV v q ≤ 160 := fun q hq => ⟨RP_l8 h hV hq, ((VG_num hV).2 q hq).2⟩
theorem RP_nt (h : RP k v) (hV : VG v) : k 9 4 = nI (ntV v) := h.2.2.1.1.trans hV.2.1.1
theorem RP_alv (h : RP k v) (hV : VG v) : ∀ t, t < ntV v → k 12 t = nI (lvN v t) ∧ lvN v t ≤ 9 := RT_lv h.2.2 hV.2.2.2.2.2.2.2.1
theorem RP_acp (h : RP k v) (hV : VG v) : ∀ t, t < ntV v → k 10 t = nI (cpN v t) ∧ cpN v t ≤ 9 := RT_cp h.2.2 hV.2.2.2.2.2.2.2.1
theorem RP_anl (h : RP k v) (hV : VG v) {q j : Nat} (hq : q < 4) (hj : j < nnV v q) : k 6 (q * 160 + j) = nI (nlV v q j) ∧ nlV v q j ≤ lnV v q := by
  rw [(h.2.1 q hq).2.2.2 j hj]
  exact hV.2.2.2.2.1 q j hq hj
theorem RP_atu (h : RP k v) (hV : VG v) {t : Nat} (ht : t < ntV v) : k 11 t = nI (tuN v t) ∧ tuN v t ≤ 9999 := by
  rw [(h.2.2.2 t ht).2.1]
  exact hV.2.2.2.2.2.2.2.2.2.1 t ht
theorem RP_afr (h : RP k v) (hV : VG v) {t i : Nat} (ht : t < ntV v) (hi : i < lvN v t) : k 13 (t * 9 + i) = nI (frN v t i) ∧ frN v t i < 1000000 := by
  rw [(h.2.2.2 t ht).2.2.2 i hi]
  exact hV.2.2.2.2.2.2.2.2.2.2.1 t i ht hi
end RPA
