theorem BP_u {a b : Int32} {P : Prop} (h : BP a P) (k : BP b P) : a = b := by
  rcases h with ⟨h1, h2⟩ | ⟨h1, h2⟩ <;> rcases k with ⟨k1, k2⟩ | ⟨k1, k2⟩
  · rw [h1, k1]
  · exact absurd h2 k2
  · exact absurd k2 h2
  · rw [h1, k1]
theorem LM_th (ν : MM) (w : WL) : LM (up1 ν 0 (upd (ν 0) 0 (nI 0))) w 0 0 = nI 0 := by
  unfold LM
  rw [up1_o (by decide), up1_s, upd_o (by decide), up1_s, upd_s]
set_option maxHeartbeats 1000000 in
theorem j_dropsByLevels {g : Nat → Bool} {A : Nat × Nat → Nat} {μ : CM} {ν ω : MM} (hCR : CR (g, A, μ) ν) {kr cn : Nat} (hkr : kr < 8) (hc8 : cn ≤ 8) (hch : ν 0 1 = nI cn) (hHR : HR g μ kr cn (ν 5)) {x : Int32}  {v : Nat → Int32} (hv : v = ν 1) {r : Int32} {u : GM × (Nat → Int64)} {rb : Int32} (hC : (fun r u => (r = nI 0 ∧ ∃ x9 : Int32, (fun r u => ∃ q, q < 4 ∧ x = nI q ∧ r = nI (((lnV v q + 7) / 8) - pourC v (ntV v) (ldV (flV v q (nfV v)) (lnV v q)) ((lnV v q + 7) / 8)) ∧ SM g A μ u) x9 u.1 ∧ u.2 0 = x9.toInt64) ∨ ∃ n9 : Nat, (fun n u => SM g A μ u ∧ ((n = 1 ∧ ¬ IX x 4))) n9 u.1 ∧ ((n9 = 1 ∧ r = nI 1))) r u) (hM : (fun r u => (¬ IX x 4 ∧ r = nI 0 ∧ u = up1 ν 0 (upd (ν 0) 0 (nI 1))) ∨ (∃ q, q < 4 ∧ x = nI q ∧ r = nI (((lnV (ν 1)) q + 7) / 8 - pourC (ν 1) (ntV (ν 1)) (ldV (flV (ν 1) q (nfV (ν 1))) ((lnV (ν 1)) q)) (((lnV (ν 1)) q + 7) / 8)) ∧ ∃ o2 g2 : Nat → Int32, u = up1 (up1 (up1 (up1 ν 0 (upd (ν 0) 0 (nI 0))) 4 (ν 1)) 6 o2) 7 g2)) rb ω) : CR u.1 ω ∧ u.1.2.1 (0, 14) = A (0, 14) ∧ ω 0 0 = r ∧ (r = nI 0 → u.2 0 = rb.toInt64) := by
  subst hv
  obtain ⟨hVG, hR, hH, hS, hT, hL, hE, hW⟩ := id hCR
  have hn8 := hVG.1.2
  have hn4 := hVG.2.1.2
  rcases hC with ⟨rfl, x9, hC, hx9⟩ | ⟨n9, ⟨hSM, hC⟩, hk⟩
  · obtain ⟨q, hq, hx, hr9, hSM⟩ := hC
    rcases hM with ⟨hx2, hrb, hω⟩ | ⟨q2, hq2, hx2, hrb, hω⟩
    · exact absurd ⟨q, hq, hx⟩ hx2
    · have e_x : q2 = q := (nI_eq (by omega) (by omega)).mp (hx2.symm.trans hx)
      subst e_x
      obtain ⟨o2, g2, hω⟩ := hω
      rw [hω]
      exact ⟨CR_rd hCR hSM (TN_467 ν _ _ _ _), congrFun hSM.2.1 _, TH_467 ν _ _ _ _, fun _ => by rw [hx9, hr9, hrb]⟩
  · obtain ⟨rfl, hx⟩ := hC
    have hr9 : r = nI 1 := by exact hk.2
    subst hr9
    rcases hM with ⟨hx2, hrb, hω⟩ | ⟨q2, hq2, hx2, hrb, hω⟩
    · rw [hω]
      exact ⟨CR_rd hCR hSM (TN_0 ν _), congrFun hSM.2.1 _, TH_0 ν _, fun z => absurd z (by decide)⟩
    · exact absurd ⟨q2, hq2, hx2⟩ hx
set_option maxHeartbeats 1000000 in
theorem j_mixedSample {g : Nat → Bool} {A : Nat × Nat → Nat} {μ : CM} {ν ω : MM} (hCR : CR (g, A, μ) ν) {kr cn : Nat} (hkr : kr < 8) (hc8 : cn ≤ 8) (hch : ν 0 1 = nI cn) (hHR : HR g μ kr cn (ν 5)) {x y z : Int32}  {v : Nat → Int32} (hv : v = ν 1) {r : Int32} {u : GM × (Nat → Int64)} {rb : Int32} (hC : (fun r u => (r = nI 0 ∧ ∃ x9 : Int32, (fun r u => ∃ q1 q2 i, q1 < 4 ∧ q2 < 4 ∧ x = nI q1 ∧ y = nI q2 ∧ z = nI i ∧ (i < lnV v q1 ∨ i < lnV v q2) ∧ r = ((if i < lnV v q1 then flV v q1 (nfV v) i else 0) + (if i < lnV v q2 then flV v q2 (nfV v) i else 0)) / nI 2 ∧ SM g A μ u) x9 u.1 ∧ u.2 0 = x9.toInt64) ∨ ∃ n9 : Nat, (fun n u => SM g A μ u ∧ ((n = 1 ∧ ¬ (IX x 4 ∧ IX y 4)) ∨ (n = 4 ∧ ∃ q1 q2, q1 < 4 ∧ q2 < 4 ∧ x = nI q1 ∧ y = nI q2 ∧ ¬ IX z (lnV v q1) ∧ ¬ IX z (lnV v q2)))) n9 u.1 ∧ ((n9 = 1 ∧ r = nI 1) ∨ (n9 = 4 ∧ r = nI 2))) r u) (hM : (fun r u => (¬ (IX x 4 ∧ IX y 4) ∧ r = nI 0 ∧ u = up1 ν 0 (upd (ν 0) 0 (nI 1))) ∨ (∃ q1 q2, q1 < 4 ∧ q2 < 4 ∧ x = nI q1 ∧ y = nI q2 ∧ ¬ IX z ((lnV (ν 1)) q1) ∧ ¬ IX z ((lnV (ν 1)) q2) ∧ r = nI 0 ∧ u = up1 ν 0 (upd (ν 0) 0 (nI 2))) ∨ (∃ q1 q2 i, q1 < 4 ∧ q2 < 4 ∧ x = nI q1 ∧ y = nI q2 ∧ z = nI i ∧ (i < (lnV (ν 1)) q1 ∨ i < (lnV (ν 1)) q2) ∧ r = ((if i < (lnV (ν 1)) q1 then (flV (ν 1) q1 (nfV (ν 1))) i else 0) + (if i < (lnV (ν 1)) q2 then (flV (ν 1) q2 (nfV (ν 1))) i else 0)) / nI 2 ∧ ∃ o2 g2 : Nat → Int32, u = up1 (up1 (up1 ν 0 (upd (ν 0) 0 (nI 0))) 6 o2) 7 g2)) rb ω) : CR u.1 ω ∧ u.1.2.1 (0, 14) = A (0, 14) ∧ ω 0 0 = r ∧ (r = nI 0 → u.2 0 = rb.toInt64) := by
  subst hv
  obtain ⟨hVG, hR, hH, hS, hT, hL, hE, hW⟩ := id hCR
  have hn8 := hVG.1.2
  have hn4 := hVG.2.1.2
  rcases hC with ⟨rfl, x9, hC, hx9⟩ | ⟨n9, ⟨hSM, hC⟩, hk⟩
  · obtain ⟨q, p, i, hq, hp, hx, hy, hz, hi, hr9, hSM⟩ := hC
    rcases hM with ⟨hB2, hrb, hω⟩ | ⟨q2, p2, hq2, hp2, hx2, hy2, hz12, hz22, hrb, hω⟩ | ⟨q2, p2, i2, hq2, hp2, hx2, hy2, hz2, hi2, hrb, hω⟩
    · exact absurd ⟨⟨q, hq, hx⟩, ⟨p, hp, hy⟩⟩ hB2
    · have e_x : q2 = q := (nI_eq (by omega) (by omega)).mp (hx2.symm.trans hx)
      subst e_x
      have e_y : p2 = p := (nI_eq (by omega) (by omega)).mp (hy2.symm.trans hy)
      subst e_y
      rcases hi with h | h
      · exact absurd ⟨i, h, hz⟩ hz12
      · exact absurd ⟨i, h, hz⟩ hz22
    · have e_x : q2 = q := (nI_eq (by omega) (by omega)).mp (hx2.symm.trans hx)
      subst e_x
      have e_y : p2 = p := (nI_eq (by omega) (by omega)).mp (hy2.symm.trans hy)
      subst e_y
      have h16a := VG_ln hVG (q := q2) (by omega)
      have h16b := VG_ln hVG (q := p2) (by omega)
      have e_i : i2 = i := (nI_eq (by omega) (by omega)).mp (hz2.symm.trans hz)
      subst e_i
      obtain ⟨o2, g2, hω⟩ := hω
      rw [hω]
      exact ⟨CR_rd hCR hSM (TN_67 ν _ _ _), congrFun hSM.2.1 _, TH_67 ν _ _ _, fun _ => by rw [hx9, hr9, hrb]⟩
  · rcases hC with ⟨rfl, hB⟩ | ⟨rfl, q, p, hq, hp, hx, hy, hz1, hz3⟩
    · have hr9 : r = nI 1 := by rcases hk with ⟨e, h⟩ | ⟨e, h⟩ <;> first | exact h | exact absurd e (by decide)
      subst hr9
      rcases hM with ⟨hB2, hrb, hω⟩ | ⟨q2, p2, hq2, hp2, hx2, hy2, hz12, hz22, hrb, hω⟩ | ⟨q2, p2, i2, hq2, hp2, hx2, hy2, hz2, hi2, hrb, hω⟩
      · rw [hω]
        exact ⟨CR_rd hCR hSM (TN_0 ν _), congrFun hSM.2.1 _, TH_0 ν _, fun z => absurd z (by decide)⟩
      · exact absurd ⟨⟨q2, hq2, hx2⟩, ⟨p2, hp2, hy2⟩⟩ hB
      · exact absurd ⟨⟨q2, hq2, hx2⟩, ⟨p2, hp2, hy2⟩⟩ hB
    · have hr9 : r = nI 2 := by rcases hk with ⟨e, h⟩ | ⟨e, h⟩ <;> first | exact h | exact absurd e (by decide)
      subst hr9
      rcases hM with ⟨hB2, hrb, hω⟩ | ⟨q2, p2, hq2, hp2, hx2, hy2, hz12, hz22, hrb, hω⟩ | ⟨q2, p2, i2, hq2, hp2, hx2, hy2, hz2, hi2, hrb, hω⟩
      · exact absurd ⟨⟨q, hq, hx⟩, ⟨p, hp, hy⟩⟩ hB2
      · have e_x : q2 = q := (nI_eq (by omega) (by omega)).mp (hx2.symm.trans hx)
        subst e_x
        have e_y : p2 = p := (nI_eq (by omega) (by omega)).mp (hy2.symm.trans hy)
        subst e_y
        rw [hω]
        exact ⟨CR_rd hCR hSM (TN_0 ν _), congrFun hSM.2.1 _, TH_0 ν _, fun z => absurd z (by decide)⟩
      · have e_x : q2 = q := (nI_eq (by omega) (by omega)).mp (hx2.symm.trans hx)
        subst e_x
        have e_y : p2 = p := (nI_eq (by omega) (by omega)).mp (hy2.symm.trans hy)
        subst e_y
        rcases hi2 with h | h
        · exact absurd ⟨i2, h, hz2⟩ hz1
        · exact absurd ⟨i2, h, hz2⟩ hz3
set_option maxHeartbeats 1000000 in
theorem j_tankAtRank {g : Nat → Bool} {A : Nat × Nat → Nat} {μ : CM} {ν ω : MM} (hCR : CR (g, A, μ) ν) {kr cn : Nat} (hkr : kr < 8) (hc8 : cn ≤ 8) (hch : ν 0 1 = nI cn) (hHR : HR g μ kr cn (ν 5)) {x : Int32}  {v : Nat → Int32} (hv : v = ν 1) {r : Int32} {u : GM × (Nat → Int64)} {rb : Int32} (hC : (fun r u => (r = nI 0 ∧ ∃ x9 : Int32, (fun r u => ∃ t, t < ntV v ∧ nI (rkN v t (ntV v)) = x ∧ (∀ t2, t2 < t → ¬ nI (rkN v t2 (ntV v)) = x) ∧ r = nI t ∧ SM g A μ u) x9 u.1 ∧ u.2 0 = x9.toInt64) ∨ ∃ n9 : Nat, (fun n u => SM g A μ u ∧ ((n = 4 ∧ ∀ t2, t2 < ntV v → ¬ nI (rkN v t2 (ntV v)) = x))) n9 u.1 ∧ ((n9 = 4 ∧ r = nI 1))) r u) (hM : (fun r u => (∃ t, t < (ntV (ν 1)) ∧ nI (rkN (ν 1) t (ntV (ν 1))) = x ∧ (∀ t2, t2 < t → ¬ nI (rkN (ν 1) t2 (ntV (ν 1))) = x) ∧ r = nI t ∧ u = up1 ν 0 (upd (ν 0) 0 (nI 0))) ∨ ((∀ t2, t2 < (ntV (ν 1)) → ¬ nI (rkN (ν 1) t2 (ntV (ν 1))) = x) ∧ r = nI 0 ∧ u = up1 ν 0 (upd (ν 0) 0 (nI 1)))) rb ω) : CR u.1 ω ∧ u.1.2.1 (0, 14) = A (0, 14) ∧ ω 0 0 = r ∧ (r = nI 0 → u.2 0 = rb.toInt64) := by
  subst hv
  obtain ⟨hVG, hR, hH, hS, hT, hL, hE, hW⟩ := id hCR
  have hn8 := hVG.1.2
  have hn4 := hVG.2.1.2
  rcases hC with ⟨rfl, x9, hC, hx9⟩ | ⟨n9, ⟨hSM, hC⟩, hk⟩
  · obtain ⟨t, ht, hrk, hno, hr9, hSM⟩ := hC
    rcases hM with ⟨t2, ht2, hrk2, hno2, hrb, hω⟩ | ⟨hno2, hrb, hω⟩
    · have e_t : t2 = t := by
        rcases Nat.lt_trichotomy t2 t with h | h | h
        · exact absurd hrk2 (hno t2 h)
        · exact h
        · exact absurd hrk (hno2 t h)
      subst e_t
      rw [hω]
      exact ⟨CR_rd hCR hSM (TN_0 ν _), congrFun hSM.2.1 _, TH_0 ν _, fun _ => by rw [hx9, hr9, hrb]⟩
    · exact absurd hrk (hno2 t ht)
  · obtain ⟨rfl, hno⟩ := hC
    have hr9 : r = nI 1 := by exact hk.2
    subst hr9
    rcases hM with ⟨t2, ht2, hrk2, hno2, hrb, hω⟩ | ⟨hno2, hrb, hω⟩
    · exact absurd hrk2 (hno t2 ht2)
    · rw [hω]
      exact ⟨CR_rd hCR hSM (TN_0 ν _), congrFun hSM.2.1 _, TH_0 ν _, fun z => absurd z (by decide)⟩
set_option maxHeartbeats 1000000 in
theorem j_append {g : Nat → Bool} {A : Nat × Nat → Nat} {μ : CM} {ν ω : MM} (hCR : CR (g, A, μ) ν) {kr cn : Nat} (hkr : kr < 8) (hc8 : cn ≤ 8) (hch : ν 0 1 = nI cn) (hHR : HR g μ kr cn (ν 5)) {x : Int32} {tn : Nat} (hn1 : ν 0 17 = nI tn) (h60 : tn ≤ 60) {v : Nat → Int32} (hv : v = ν 1) {r : Int32} {u : GM × (Nat → Int64)} {rb : Int32} (hC : (fun r u => (r = nI 0 ∧ ∃ x9 : Int32, (fun r u => (nI 32 ≤ x ∧ x ≤ nI 126) ∧ tn < 60 ∧ r = nI (tn + 1) ∧ u = (g, A, up2 (up2 μ 0 23 (upd (μ 0 23) tn x)) 0 22 (upd (μ 0 22) 1 (nI (tn + 1))))) x9 u.1 ∧ u.2 0 = x9.toInt64) ∨ ∃ n9 : Nat, (fun n u => SM g A μ u ∧ ((n = 2 ∧ ¬ (nI 32 ≤ x ∧ x ≤ nI 126)) ∨ (n = 3 ∧ (nI 32 ≤ x ∧ x ≤ nI 126) ∧ ¬ tn < 60))) n9 u.1 ∧ ((n9 = 2 ∧ r = nI 1) ∨ (n9 = 3 ∧ r = nI 2))) r u) (hM : (fun r u => (¬ (nI 32 ≤ x ∧ x ≤ nI 126) ∧ r = nI 0 ∧ u = up1 ν 0 (upd (ν 0) 0 (nI 1))) ∨ ((nI 32 ≤ x ∧ x ≤ nI 126) ∧ tn = 60 ∧ r = nI 0 ∧ u = up1 ν 0 (upd (ν 0) 0 (nI 2))) ∨ ((nI 32 ≤ x ∧ x ≤ nI 126) ∧ tn < 60 ∧ r = nI (tn + 1) ∧ u = up1 (up1 ν 0 (upd (upd (ν 0) 0 (nI 0)) 17 (nI (tn + 1)))) 8 (upd (ν 8) tn x))) rb ω) : CR u.1 ω ∧ u.1.2.1 (0, 14) = A (0, 14) ∧ ω 0 0 = r ∧ (r = nI 0 → u.2 0 = rb.toInt64) := by
  subst hv
  obtain ⟨hVG, hR, hH, hS, hT, hL, hE, hW⟩ := id hCR
  have hn8 := hVG.1.2
  have hn4 := hVG.2.1.2
  rcases hC with ⟨rfl, x9, hC, hx9⟩ | ⟨n9, ⟨hSM, hC⟩, hk⟩
  · obtain ⟨hx, hlt, hr9, hu⟩ := hC
    rcases hM with ⟨hx2, hrb, hω⟩ | ⟨hx2, h62, hrb, hω⟩ | ⟨hx2, h62, hrb, hω⟩
    · exact absurd hx hx2
    · omega
    · exact ⟨CR_app hCR hn1 hlt hx hu hω, (by rw [hu]), by rw [hω, up1_o (by decide), up1_s, upd_o (by decide), upd_s], fun _ => by rw [hx9, hr9, hrb]⟩
  · rcases hC with ⟨rfl, hx⟩ | ⟨rfl, hx, h6⟩
    · have hr9 : r = nI 1 := by rcases hk with ⟨e, h⟩ | ⟨e, h⟩ <;> first | exact h | exact absurd e (by decide)
      subst hr9
      rcases hM with ⟨hx2, hrb, hω⟩ | ⟨hx2, h62, hrb, hω⟩ | ⟨hx2, h62, hrb, hω⟩
      · rw [hω]
        exact ⟨CR_rd hCR hSM (TN_0 ν _), congrFun hSM.2.1 _, TH_0 ν _, fun z => absurd z (by decide)⟩
      · exact absurd hx2 hx
      · exact absurd hx2 hx
    · have hr9 : r = nI 2 := by rcases hk with ⟨e, h⟩ | ⟨e, h⟩ <;> first | exact h | exact absurd e (by decide)
      subst hr9
      rcases hM with ⟨hx2, hrb, hω⟩ | ⟨hx2, h62, hrb, hω⟩ | ⟨hx2, h62, hrb, hω⟩
      · exact absurd hx hx2
      · rw [hω]
        exact ⟨CR_rd hCR hSM (TN_0 ν _), congrFun hSM.2.1 _, TH_0 ν _, fun z => absurd z (by decide)⟩
      · omega
set_option maxHeartbeats 1000000 in
theorem j_run {g : Nat → Bool} {A : Nat × Nat → Nat} {μ : CM} {ν ω : MM} (hCR : CR (g, A, μ) ν) {kr cn : Nat} (hkr : kr < 8) (hc8 : cn ≤ 8) (hch : ν 0 1 = nI cn) (hHR : HR g μ kr cn (ν 5))  {n : Nat} {t : Nat → Nat} (hn60 : n ≤ 60) {v : Nat → Int32} (hv : v = ν 1) {r : Int32} {u : GM × (Nat → Int64)} {rb : Int32} (hC : (fun r u => (r = nI 0 ∧ ∃ x9 : Int32, (fun r u => ∃ mt, TOK t n mt ∧ mt < 12 ∧ (∀ i, i ≤ mt → exO (vSq t n v i) (coF t n i) ≠ none) ∧ r = nI (mt + 1) ∧ u.1 = gS g kr ∧ (∀ x ∈ ids g, u.2.1 x = A x) ∧ RP (u.2.2 0) (vSq t n v (mt + 1)) ∧ RP (u.2.2 (kr + 3)) v ∧ (∀ b o, b ≠ kr + 3 → b ≠ 1 → ¬ (b = 0 ∧ (o < 14 ∨ o = 15 ∨ o = 22 ∨ o = 24 ∨ o = 25)) → ¬ scr b o → u.2.2 b o = μ b o) ∧ u.2.2 0 22 1 = nI 0 ∧ u.2.2 0 15 1 = nI ((kr + 1) % 8) ∧ u.2.2 0 15 2 = nI (min (cn + 1) 8) ∧ VG (vSq t n v (mt + 1))) x9 u.1 ∧ u.2 0 = x9.toInt64) ∨ ∃ n9 : Nat, (fun nx u => RUF g A μ u ∧ ((nx = 2 ∧ ∃ mt, TNO t n mt ∧ u.2.2 0 14 = upd (μ 0 14) 10 (nI (enF t n mt))) ∨ (nx = 3 ∧ ∃ mt jf, TOK t n mt ∧ mt < 12 ∧ jf ≤ mt ∧ (∀ i, i < jf → exO (vSq t n v i) (coF t n i) ≠ none) ∧ exO (vSq t n v jf) (coF t n jf) = none ∧ u.2.2 0 14 = upd (μ 0 14) 11 (nI jf)))) n9 u.1 ∧ ((n9 = 2 ∧ r = nI 1) ∨ (n9 = 3 ∧ r = nI 2))) r u) (hM : (fun r u => (∃ mt, TNO t n mt ∧ r = nI 0 ∧ RU ν u 1 (ν 0 1) (nI (enF t n mt)) (ν 0 3) (ν 5) (ν 1)) ∨ (∃ mt jf, TOK t n mt ∧ jf ≤ mt ∧ (∀ i, i < jf → exO (vSq t n (ν 1) i) (coF t n i) ≠ none) ∧ exO (vSq t n (ν 1) jf) (coF t n jf) = none ∧ r = nI 0 ∧ RU ν u 2 (ν 0 1) (ν 0 2) (nI jf) (ν 5) (ν 1)) ∨ (∃ mt, TOK t n mt ∧ (∀ i, i ≤ mt → exO (vSq t n (ν 1) i) (coF t n i) ≠ none) ∧ r = nI (mt + 1) ∧ RU ν u 0 (nI (pushC cn)) (ν 0 2) (ν 0 3) (pushP (ν 5) cn (ν 1)) (vSq t n (ν 1) (mt + 1)))) rb ω) : CR u.1 ω ∧ u.1.2.1 (0, 14) = A (0, 14) ∧ ω 0 0 = r ∧ (r = nI 0 → u.2 0 = rb.toInt64) := by
  subst hv
  obtain ⟨hVG, hR, hH, hS, hT, hL, hE, hW⟩ := id hCR
  have hn8 := hVG.1.2
  have hn4 := hVG.2.1.2
  have hR : RP (μ 0) (ν 1) := hR
  have hS : CRs μ ν := hS
  have hT : CRt μ ν := hT
  have hL : CRl μ ν := hL
  have hE : CRe μ ν := hE
  rcases hC with ⟨rfl, x9, hC, hx9⟩ | ⟨n9, ⟨hSM, hC⟩, hk⟩
  · obtain ⟨mt, hT9, h12, hall, hr9, e1, e2, hR2, hB, hfr, h22, h15, h16, hVs⟩ := hC
    rcases hM with ⟨m2, hT2, hrb, hω⟩ | ⟨m2, j2, hT2, hjf2, hall2, hex2, hrb, hω⟩ | ⟨m2, hT2, hall2, hrb, hω⟩
    · exact (TOK_NO hT9 hT2).elim
    · have e_m := TOK_u hT9 hT2
      exact absurd hex2 (hall j2 (by omega))
    · have e_m : m2 = mt := TOK_u hT2 hT9
      subst e_m
      exact ⟨CR_rn3 hVG hkr hc8 hHR hS hL hE hW hVs e1 hR2 hB hfr h22 h15 h16 hω, e2 _ (in_r (by decide) (by decide)), hω.1, fun _ => by rw [hx9, hr9, hrb]⟩
  · rcases hC with ⟨rfl, mt, hT9, h14⟩ | ⟨rfl, mt, jf, hT9, h12, hjf, hall, hex, h14⟩
    · have hr9 : r = nI 1 := by rcases hk with ⟨e, h⟩ | ⟨e, h⟩ <;> first | exact h | exact absurd e (by decide)
      subst hr9
      rcases hM with ⟨m2, hT2, hrb, hω⟩ | ⟨m2, j2, hT2, hjf2, hall2, hex2, hrb, hω⟩ | ⟨m2, hT2, hall2, hrb, hω⟩
      · have e_m : m2 = mt := TNO_u hT2 hT9
        subst e_m
        exact ⟨CR_rn1 hCR hSM (by rw [h14, upd_o (by decide)]) (by rw [h14, upd_s]) (by rw [h14, upd_o (by decide)]; exact hE.2.1) (Or.inr ⟨_, by have := TNO_q hT9; omega, rfl⟩) hE.2.2.2 hω, congrFun hSM.2.1 _, hω.1, fun z => absurd z (by decide)⟩
      · exact (TOK_NO hT2 hT9).elim
      · exact (TOK_NO hT2 hT9).elim
    · have hr9 : r = nI 2 := by rcases hk with ⟨e, h⟩ | ⟨e, h⟩ <;> first | exact h | exact absurd e (by decide)
      subst hr9
      rcases hM with ⟨m2, hT2, hrb, hω⟩ | ⟨m2, j2, hT2, hjf2, hall2, hex2, hrb, hω⟩ | ⟨m2, hT2, hall2, hrb, hω⟩
      · exact (TOK_NO hT9 hT2).elim
      · have e_j : j2 = jf := by
          rcases Nat.lt_trichotomy j2 jf with h | h | h
          · exact absurd hex2 (hall j2 h)
          · exact h
          · exact absurd hex (hall2 jf h)
        subst e_j
        exact ⟨CR_rn1 hCR hSM (by rw [h14, upd_o (by decide)]) (by rw [h14, upd_o (by decide)]; exact hE.1) (by rw [h14, upd_s]) hE.2.2.1 (Or.inr ⟨j2, by omega, rfl⟩) hω, congrFun hSM.2.1 _, hω.1, fun z => absurd z (by decide)⟩
      · have e_m := TOK_u hT9 hT2
        exact absurd hex (hall2 jf (by omega))
set_option maxHeartbeats 1000000 in
theorem j_errorPosition {g : Nat → Bool} {A : Nat × Nat → Nat} {μ : CM} {ν ω : MM} (hCR : CR (g, A, μ) ν) {kr cn : Nat} (hkr : kr < 8) (hc8 : cn ≤ 8) (hch : ν 0 1 = nI cn) (hHR : HR g μ kr cn (ν 5))   {v : Nat → Int32} (hv : v = ν 1) {r : Int32} {u : GM × (Nat → Int64)} {rb : Int32} (hC : (fun r u => (r = nI 0 ∧ ∃ x9 : Int32, (fun r u => ¬ μ 0 14 10 = -1 ∧ r = μ 0 14 10 ∧ SM g A μ u) x9 u.1 ∧ u.2 0 = x9.toInt64) ∨ ∃ n9 : Nat, (fun n u => SM g A μ u ∧ ((n = 4 ∧ μ 0 14 10 = -1))) n9 u.1 ∧ ((n9 = 4 ∧ r = nI 1))) r u) (hM : (fun r u => (ν 0 2 < 0 ∧ r = nI 0 ∧ u = up1 ν 0 (upd (ν 0) 0 (nI 1))) ∨ (¬ ν 0 2 < 0 ∧ r = ν 0 2 ∧ u = up1 ν 0 (upd (ν 0) 0 (nI 0)))) rb ω) : CR u.1 ω ∧ u.1.2.1 (0, 14) = A (0, 14) ∧ ω 0 0 = r ∧ (r = nI 0 → u.2 0 = rb.toInt64) := by
  subst hv
  obtain ⟨hVG, hR, hH, hS, hT, hL, hE, hW⟩ := id hCR
  have hn8 := hVG.1.2
  have hn4 := hVG.2.1.2
  have hR : RP (μ 0) (ν 1) := hR
  have hS : CRs μ ν := hS
  have hT : CRt μ ν := hT
  have hL : CRl μ ν := hL
  have hE : CRe μ ν := hE
  rcases hC with ⟨rfl, x9, hC, hx9⟩ | ⟨n9, ⟨hSM, hC⟩, hk⟩
  · obtain ⟨hne, hr9, hSM⟩ := hC
    rcases hM with ⟨h2, hrb, hω⟩ | ⟨h2, hrb, hω⟩
    · rcases hE.2.2.1 with h | ⟨n, hn, h⟩
      · exact absurd (hE.1.trans h) hne
      · rw [h] at h2
        exact absurd h2 (I_nlt.mpr (nI_pos' (by omega)))
    · rw [hω]
      exact ⟨CR_rd hCR hSM (TN_0 ν _), congrFun hSM.2.1 _, TH_0 ν _, fun _ => by rw [hx9, hr9, hrb, hE.1]⟩
  · obtain ⟨rfl, h1⟩ := hC
    have hr9 : r = nI 1 := by exact hk.2
    subst hr9
    rcases hM with ⟨h2, hrb, hω⟩ | ⟨h2, hrb, hω⟩
    · rw [hω]
      exact ⟨CR_rd hCR hSM (TN_0 ν _), congrFun hSM.2.1 _, TH_0 ν _, fun z => absurd z (by decide)⟩
    · rw [← hE.1, h1] at h2
      exact absurd (by decide) h2
set_option maxHeartbeats 1000000 in
theorem j_failedCommand {g : Nat → Bool} {A : Nat × Nat → Nat} {μ : CM} {ν ω : MM} (hCR : CR (g, A, μ) ν) {kr cn : Nat} (hkr : kr < 8) (hc8 : cn ≤ 8) (hch : ν 0 1 = nI cn) (hHR : HR g μ kr cn (ν 5))   {v : Nat → Int32} (hv : v = ν 1) {r : Int32} {u : GM × (Nat → Int64)} {rb : Int32} (hC : (fun r u => (r = nI 0 ∧ ∃ x9 : Int32, (fun r u => ¬ μ 0 14 11 = -1 ∧ r = μ 0 14 11 ∧ SM g A μ u) x9 u.1 ∧ u.2 0 = x9.toInt64) ∨ ∃ n9 : Nat, (fun n u => SM g A μ u ∧ ((n = 4 ∧ μ 0 14 11 = -1))) n9 u.1 ∧ ((n9 = 4 ∧ r = nI 1))) r u) (hM : (fun r u => (ν 0 3 < 0 ∧ r = nI 0 ∧ u = up1 ν 0 (upd (ν 0) 0 (nI 1))) ∨ (¬ ν 0 3 < 0 ∧ r = ν 0 3 ∧ u = up1 ν 0 (upd (ν 0) 0 (nI 0)))) rb ω) : CR u.1 ω ∧ u.1.2.1 (0, 14) = A (0, 14) ∧ ω 0 0 = r ∧ (r = nI 0 → u.2 0 = rb.toInt64) := by
  subst hv
  obtain ⟨hVG, hR, hH, hS, hT, hL, hE, hW⟩ := id hCR
  have hn8 := hVG.1.2
  have hn4 := hVG.2.1.2
  have hR : RP (μ 0) (ν 1) := hR
  have hS : CRs μ ν := hS
  have hT : CRt μ ν := hT
  have hL : CRl μ ν := hL
  have hE : CRe μ ν := hE
  rcases hC with ⟨rfl, x9, hC, hx9⟩ | ⟨n9, ⟨hSM, hC⟩, hk⟩
  · obtain ⟨hne, hr9, hSM⟩ := hC
    rcases hM with ⟨h2, hrb, hω⟩ | ⟨h2, hrb, hω⟩
    · rcases hE.2.2.2 with h | ⟨n, hn, h⟩
      · exact absurd (hE.2.1.trans h) hne
      · rw [h] at h2
        exact absurd h2 (I_nlt.mpr (nI_pos' (by omega)))
    · rw [hω]
      exact ⟨CR_rd hCR hSM (TN_0 ν _), congrFun hSM.2.1 _, TH_0 ν _, fun _ => by rw [hx9, hr9, hrb, hE.2.1]⟩
  · obtain ⟨rfl, h1⟩ := hC
    have hr9 : r = nI 1 := by exact hk.2
    subst hr9
    rcases hM with ⟨h2, hrb, hω⟩ | ⟨h2, hrb, hω⟩
    · rw [hω]
      exact ⟨CR_rd hCR hSM (TN_0 ν _), congrFun hSM.2.1 _, TH_0 ν _, fun z => absurd z (by decide)⟩
    · rw [← hE.2.1, h1] at h2
      exact absurd (by decide) h2
set_option maxHeartbeats 1000000 in
theorem j_lineAt {g : Nat → Bool} {A : Nat × Nat → Nat} {μ : CM} {ν ω : MM} (hCR : CR (g, A, μ) ν) {kr cn : Nat} (hkr : kr < 8) (hc8 : cn ≤ 8) (hch : ν 0 1 = nI cn) (hHR : HR g μ kr cn (ν 5)) {x : Int32} {lN : Nat} (h80 : lN ≤ 80) (hlj : ∀ j, j < lN → ν 9 j = μ 0 27 j) {v : Nat → Int32} (hv : v = ν 1) {r : Int32} {u : GM × (Nat → Int64)} {rb : Int32} (hC : (fun r u => (r = nI 0 ∧ ∃ x9 : Int32, (fun r u => ∃ j, j < lN ∧ x = nI j ∧ r = μ 0 27 j ∧ SM g A μ u) x9 u.1 ∧ u.2 0 = x9.toInt64) ∨ ∃ n9 : Nat, (fun n u => SM g A μ u ∧ ((n = 1 ∧ ¬ IX x lN))) n9 u.1 ∧ ((n9 = 1 ∧ r = nI 1))) r u) (hM : (fun r u => (∃ j, j < lN ∧ x = nI j ∧ r = ν 9 j ∧ u = up1 ν 0 (upd (ν 0) 0 (nI 0))) ∨ (¬ IX x lN ∧ r = nI 97 ∧ u = up1 ν 0 (upd (ν 0) 0 (nI 1)))) rb ω) : CR u.1 ω ∧ u.1.2.1 (0, 14) = A (0, 14) ∧ ω 0 0 = r ∧ (r = nI 0 → u.2 0 = rb.toInt64) := by
  subst hv
  obtain ⟨hVG, hR, hH, hS, hT, hL, hE, hW⟩ := id hCR
  have hn8 := hVG.1.2
  have hn4 := hVG.2.1.2
  rcases hC with ⟨rfl, x9, hC, hx9⟩ | ⟨n9, ⟨hSM, hC⟩, hk⟩
  · obtain ⟨j, hj, hx, hr9, hSM⟩ := hC
    rcases hM with ⟨j2, hj2, hx2, hrb, hω⟩ | ⟨hx2, hrb, hω⟩
    · have e_x : j2 = j := (nI_eq (by omega) (by omega)).mp (hx2.symm.trans hx)
      subst e_x
      rw [hω]
      exact ⟨CR_rd hCR hSM (TN_0 ν _), congrFun hSM.2.1 _, TH_0 ν _, fun _ => by rw [hx9, hr9, hrb, hlj _ hj]⟩
    · exact absurd ⟨j, hj, hx⟩ hx2
  · obtain ⟨rfl, hx⟩ := hC
    have hr9 : r = nI 1 := by exact hk.2
    subst hr9
    rcases hM with ⟨j2, hj2, hx2, hrb, hω⟩ | ⟨hx2, hrb, hω⟩
    · exact absurd ⟨j2, hj2, hx2⟩ hx
    · rw [hω]
      exact ⟨CR_rd hCR hSM (TN_0 ν _), congrFun hSM.2.1 _, TH_0 ν _, fun z => absurd z (by decide)⟩
set_option maxHeartbeats 1000000 in
theorem j_describeTank {g : Nat → Bool} {A : Nat × Nat → Nat} {μ : CM} {ν ω : MM} (hCR : CR (g, A, μ) ν) {kr cn : Nat} (hkr : kr < 8) (hc8 : cn ≤ 8) (hch : ν 0 1 = nI cn) (hHR : HR g μ kr cn (ν 5)) {x : Int32}  {v : Nat → Int32} (hv : v = ν 1) {r : Int32} {u : GM × (Nat → Int64)} {rb : Int32} (hC : (fun r u => (r = nI 0 ∧ ∃ x9 : Int32, (fun r u => ∃ q, q < ntV v ∧ x = nI q ∧ r = nI (dcT (frN v q) (dcH (lvN v q) (cpN v q) (tuN v q) (μ 0 27, 0)) (lvN v q)).2 ∧ u = (g, A, LK μ (dcT (frN v q) (dcH (lvN v q) (cpN v q) (tuN v q) (μ 0 27, 0)) (lvN v q)))) x9 u.1 ∧ u.2 0 = x9.toInt64) ∨ ∃ n9 : Nat, (fun n u => SM g A μ u ∧ ((n = 1 ∧ ¬ IX x (ntV v)))) n9 u.1 ∧ ((n9 = 1 ∧ r = nI 1))) r u) (hM : (fun r u => (¬ IX x (ntV (ν 1)) ∧ r = nI 0 ∧ u = up1 ν 0 (upd (ν 0) 0 (nI 1))) ∨ (∃ q, q < (ntV (ν 1)) ∧ x = nI q ∧ r = nI (dcT ((frN (ν 1)) q) (dcH ((lvN (ν 1)) q) ((cpN (ν 1)) q) ((tuN (ν 1)) q) (ν 9, 0)) ((lvN (ν 1)) q)).2 ∧ u = LM (up1 ν 0 (upd (ν 0) 0 (nI 0))) (dcT ((frN (ν 1)) q) (dcH ((lvN (ν 1)) q) ((cpN (ν 1)) q) ((tuN (ν 1)) q) (ν 9, 0)) ((lvN (ν 1)) q)))) rb ω) : CR u.1 ω ∧ u.1.2.1 (0, 14) = A (0, 14) ∧ ω 0 0 = r ∧ (r = nI 0 → u.2 0 = rb.toInt64) := by
  subst hv
  obtain ⟨hVG, hR, hH, hS, hT, hL, hE, hW⟩ := id hCR
  have hn8 := hVG.1.2
  have hn4 := hVG.2.1.2
  rcases hC with ⟨rfl, x9, hC, hx9⟩ | ⟨n9, ⟨hSM, hC⟩, hk⟩
  · obtain ⟨q, hq, hx, hr9, hu⟩ := hC
    rcases hM with ⟨hx2, hrb, hω⟩ | ⟨q2, hq2, hx2, hrb, hω⟩
    · exact absurd ⟨q, hq, hx⟩ hx2
    · have e_x : q2 = q := (nI_eq (by omega) (by omega)).mp (hx2.symm.trans hx)
      subst e_x
      have hwe : WE (dcT (frN (ν 1) q2) (dcH (lvN (ν 1) q2) (cpN (ν 1) q2) (tuN (ν 1) q2) (ν 9, 0)) (lvN (ν 1) q2)) (dcT (frN (ν 1) q2) (dcH (lvN (ν 1) q2) (cpN (ν 1) q2) (tuN (ν 1) q2) (μ 0 27, 0)) (lvN (ν 1) q2)) := dcT_WE (dcH_WE (WE_z _ _)) (fun _ _ => rfl)
      have hvt := hVG.2.2.2.2.2.2.2.1 q2 (by omega)
      have htu := (hVG.2.2.2.2.2.2.2.2.2.1 q2 (by omega)).2
      have hh : (dcH (lvN (ν 1) q2) (cpN (ν 1) q2) (tuN (ν 1) q2) (ν 9, 0)).2 ≤ 0 + 8 := dcH_le (by omega) (by omega) (by omega)
      have hle := dcT_le (fr := frN (ν 1) q2) (w := dcH (lvN (ν 1) q2) (cpN (ν 1) q2) (tuN (ν 1) q2) (ν 9, 0)) (lvN (ν 1) q2)
      exact ⟨CR_line hCR hwe (dcT_WC (dcH_WC (WC_z _)) _) (by omega) hu hω, (by rw [hu]), by rw [hω]; exact LM_th _ _, fun _ => by rw [hx9, hr9, hrb, hwe.1]⟩
  · obtain ⟨rfl, hx⟩ := hC
    have hr9 : r = nI 1 := by exact hk.2
    subst hr9
    rcases hM with ⟨hx2, hrb, hω⟩ | ⟨q2, hq2, hx2, hrb, hω⟩
    · rw [hω]
      exact ⟨CR_rd hCR hSM (TN_0 ν _), congrFun hSM.2.1 _, TH_0 ν _, fun z => absurd z (by decide)⟩
    · exact absurd ⟨q2, hq2, hx2⟩ hx
set_option maxHeartbeats 1000000 in
theorem j_meanLevel {g : Nat → Bool} {A : Nat × Nat → Nat} {μ : CM} {ν ω : MM} (hCR : CR (g, A, μ) ν) {kr cn : Nat} (hkr : kr < 8) (hc8 : cn ≤ 8) (hch : ν 0 1 = nI cn) (hHR : HR g μ kr cn (ν 5)) {x : Int32}  {v : Nat → Int32} (hv : v = ν 1) {r : Int32} {u : GM × (Nat → UInt64)} {rb : UInt64} (hC : (fun r u => (r = nI 0 ∧ ∃ x9 : UInt64, (fun r u => ∃ q, q < 4 ∧ x = nI q ∧ 0 < lnV v q ∧ r = FP.ddiv (FP.i2d (isum (fun k => iabs ((flV v q (nfV v)) k)) (lnV v q))) (FP.i2d (nI (lnV v q))) ∧ SM g A μ u) x9 u.1 ∧ u.2 0 = x9) ∨ ∃ n9 : Nat, (fun n u => SM g A μ u ∧ ((n = 1 ∧ ¬ IX x 4) ∨ (n = 5 ∧ ∃ q, q < 4 ∧ x = nI q ∧ lnV v q = 0))) n9 u.1 ∧ ((n9 = 1 ∧ r = nI 1) ∨ (n9 = 5 ∧ r = nI 2))) r u) (hM : (fun r u => (¬ IX x 4 ∧ r = FP.dconst0 ∧ u = up1 ν 0 (upd (ν 0) 0 (nI 1))) ∨ (∃ q, q < 4 ∧ x = nI q ∧ (lnV (ν 1)) q = 0 ∧ r = FP.dconst0 ∧ u = up1 ν 0 (upd (ν 0) 0 (nI 2))) ∨ (∃ q, q < 4 ∧ x = nI q ∧ 0 < (lnV (ν 1)) q ∧ r = FP.ddiv (FP.i2d (isum (fun k => iabs ((flV (ν 1) q (nfV (ν 1))) k)) ((lnV (ν 1)) q))) (FP.i2d (nI ((lnV (ν 1)) q))) ∧ ∃ o2 g2 : Nat → Int32, u = up1 (up1 (up1 ν 0 (upd (ν 0) 0 (nI 0))) 6 o2) 7 g2)) rb ω) : CR u.1 ω ∧ u.1.2.1 (0, 14) = A (0, 14) ∧ ω 0 0 = r ∧ (r = nI 0 → u.2 0 = rb) := by
  subst hv
  obtain ⟨hVG, hR, hH, hS, hT, hL, hE, hW⟩ := id hCR
  have hn8 := hVG.1.2
  have hn4 := hVG.2.1.2
  rcases hC with ⟨rfl, x9, hC, hx9⟩ | ⟨n9, ⟨hSM, hC⟩, hk⟩
  · obtain ⟨q, hq, hx, h0, hr9, hSM⟩ := hC
    rcases hM with ⟨hx2, hrb, hω⟩ | ⟨q2, hq2, hx2, h02, hrb, hω⟩ | ⟨q2, hq2, hx2, h02, hrb, hω⟩
    · exact absurd ⟨q, hq, hx⟩ hx2
    · have e_x : q2 = q := (nI_eq (by omega) (by omega)).mp (hx2.symm.trans hx)
      subst e_x
      omega
    · have e_x : q2 = q := (nI_eq (by omega) (by omega)).mp (hx2.symm.trans hx)
      subst e_x
      obtain ⟨o2, g2, hω⟩ := hω
      rw [hω]
      exact ⟨CR_rd hCR hSM (TN_67 ν _ _ _), congrFun hSM.2.1 _, TH_67 ν _ _ _, fun _ => by rw [hx9, hr9, hrb]⟩
  · rcases hC with ⟨rfl, hx⟩ | ⟨rfl, q, hq, hx, h0⟩
    · have hr9 : r = nI 1 := by rcases hk with ⟨e, h⟩ | ⟨e, h⟩ <;> first | exact h | exact absurd e (by decide)
      subst hr9
      rcases hM with ⟨hx2, hrb, hω⟩ | ⟨q2, hq2, hx2, h02, hrb, hω⟩ | ⟨q2, hq2, hx2, h02, hrb, hω⟩
      · rw [hω]
        exact ⟨CR_rd hCR hSM (TN_0 ν _), congrFun hSM.2.1 _, TH_0 ν _, fun z => absurd z (by decide)⟩
      · exact absurd ⟨q2, hq2, hx2⟩ hx
      · exact absurd ⟨q2, hq2, hx2⟩ hx
    · have hr9 : r = nI 2 := by rcases hk with ⟨e, h⟩ | ⟨e, h⟩ <;> first | exact h | exact absurd e (by decide)
      subst hr9
      rcases hM with ⟨hx2, hrb, hω⟩ | ⟨q2, hq2, hx2, h02, hrb, hω⟩ | ⟨q2, hq2, hx2, h02, hrb, hω⟩
      · exact absurd ⟨q, hq, hx⟩ hx2
      · have e_x : q2 = q := (nI_eq (by omega) (by omega)).mp (hx2.symm.trans hx)
        subst e_x
        rw [hω]
        exact ⟨CR_rd hCR hSM (TN_0 ν _), congrFun hSM.2.1 _, TH_0 ν _, fun z => absurd z (by decide)⟩
      · have e_x : q2 = q := (nI_eq (by omega) (by omega)).mp (hx2.symm.trans hx)
        subst e_x
        omega
set_option maxHeartbeats 1000000 in
theorem j_filledShare {g : Nat → Bool} {A : Nat × Nat → Nat} {μ : CM} {ν ω : MM} (hCR : CR (g, A, μ) ν) {kr cn : Nat} (hkr : kr < 8) (hc8 : cn ≤ 8) (hch : ν 0 1 = nI cn) (hHR : HR g μ kr cn (ν 5))   {v : Nat → Int32} (hv : v = ν 1) {r : Int32} {u : GM × (Nat → UInt64)} {rb : UInt32} (hC : (fun r u => (r = nI 0 ∧ ∃ x9 : UInt32, (fun r u => 0 < ntV v ∧ r = FP.fdiv (FP.i2f (nI (sumN (lvN v) (ntV v)))) (FP.i2f (nI (sumN (cpN v) (ntV v)))) ∧ SM g A μ u) x9 u.1 ∧ u.2 0 = FP.f2d x9) ∨ ∃ n9 : Nat, (fun n u => SM g A μ u ∧ ((n = 5 ∧ ntV v = 0))) n9 u.1 ∧ ((n9 = 5 ∧ r = nI 1))) r u) (hM : (fun r u => ((ntV (ν 1)) = 0 ∧ r = FP.fconst0 ∧ u = up1 ν 0 (upd (ν 0) 0 (nI 1))) ∨ (0 < (ntV (ν 1)) ∧ r = FP.fdiv (FP.i2f (nI (sumN (lvN (ν 1)) (ntV (ν 1))))) (FP.i2f (nI (sumN (cpN (ν 1)) (ntV (ν 1))))) ∧ u = up1 ν 0 (upd (ν 0) 0 (nI 0)))) rb ω) : CR u.1 ω ∧ u.1.2.1 (0, 14) = A (0, 14) ∧ ω 0 0 = r ∧ (r = nI 0 → u.2 0 = FP.f2d rb) := by
  subst hv
  obtain ⟨hVG, hR, hH, hS, hT, hL, hE, hW⟩ := id hCR
  have hn8 := hVG.1.2
  have hn4 := hVG.2.1.2
  rcases hC with ⟨rfl, x9, hC, hx9⟩ | ⟨n9, ⟨hSM, hC⟩, hk⟩
  · obtain ⟨h0, hr9, hSM⟩ := hC
    rcases hM with ⟨h02, hrb, hω⟩ | ⟨h02, hrb, hω⟩
    · omega
    · rw [hω]
      exact ⟨CR_rd hCR hSM (TN_0 ν _), congrFun hSM.2.1 _, TH_0 ν _, fun _ => by rw [hx9, hr9, hrb]⟩
  · obtain ⟨rfl, h0⟩ := hC
    have hr9 : r = nI 1 := by exact hk.2
    subst hr9
    rcases hM with ⟨h02, hrb, hω⟩ | ⟨h02, hrb, hω⟩
    · rw [hω]
      exact ⟨CR_rd hCR hSM (TN_0 ν _), congrFun hSM.2.1 _, TH_0 ν _, fun z => absurd z (by decide)⟩
    · omega
set_option maxHeartbeats 1000000 in
theorem j_undo {g : Nat → Bool} {A : Nat × Nat → Nat} {μ : CM} {ν ω : MM} (hCR : CR (g, A, μ) ν) {kr cn : Nat} (hkr : kr < 8) (hc8 : cn ≤ 8) (hch : ν 0 1 = nI cn) (hHR : HR g μ kr cn (ν 5))  {kp : Nat} (hkp : (kr + 8 - 1) % 8 = kp) {v2 : Nat → Int32} (hpv : 1 ≤ cn → VG v2 ∧ ∀ k, k < 1357 → ν 5 ((cn - 1) * 1357 + k) = v2 k) {v : Nat → Int32} (hv : v = ν 1) {r : Int32} {u : GM × (Nat → Int64)} {rb : Int32} (hC : (fun r u => (r = nI 0 ∧ ∃ x9 : Int32, (fun r u => 1 ≤ cn ∧ r = nI (cn - 1) ∧ u.1 = g ∧ u.2.1 = A ∧ (∀ b o, ¬ (b = 0 ∧ (o < 14 ∨ o = 15)) → u.2.2 b o = μ b o) ∧ RP (u.2.2 0) v2 ∧ u.2.2 0 15 1 = nI kp ∧ u.2.2 0 15 2 = nI (cn - 1)) x9 u.1 ∧ u.2 0 = x9.toInt64) ∨ ∃ n9 : Nat, (fun n u => SM g A μ u ∧ ((n = 3 ∧ cn = 0))) n9 u.1 ∧ ((n9 = 3 ∧ r = nI 1))) r u) (hM : (fun r u => (cn = 0 ∧ r = nI 0 ∧ u = up1 ν 0 (upd (ν 0) 0 (nI 1))) ∨ (0 < cn ∧ r = nI (cn - 1) ∧ u = up1 (up1 ν 0 (upd (upd (ν 0) 0 (nI 0)) 1 (nI (cn - 1)))) 1 (cpR 1357 (fun k => ν 5 ((cn - 1) * 1357 + k)) (ν 1)))) rb ω) : CR u.1 ω ∧ u.1.2.1 (0, 14) = A (0, 14) ∧ ω 0 0 = r ∧ (r = nI 0 → u.2 0 = rb.toInt64) := by
  subst hv
  obtain ⟨hVG, hR, hH, hS, hT, hL, hE, hW⟩ := id hCR
  have hn8 := hVG.1.2
  have hn4 := hVG.2.1.2
  rcases hC with ⟨rfl, x9, hC, hx9⟩ | ⟨n9, ⟨hSM, hC⟩, hk⟩
  · obtain ⟨h1, hr9, e1, e2, hfr, hR2, h15, h16⟩ := hC
    rcases hM with ⟨h02, hrb, hω⟩ | ⟨h02, hrb, hω⟩
    · omega
    · subst hkp
      exact ⟨CR_und hkr hc8 hHR hS hT hL hE hW (hpv h1).1 (hpv h1).2 e1 hfr hR2 h15 h16 hω, congrFun e2 _, by rw [hω, up1_o (by decide), up1_s, upd_o (by decide), upd_s], fun _ => by rw [hx9, hr9, hrb]⟩
  · obtain ⟨rfl, h0⟩ := hC
    have hr9 : r = nI 1 := by exact hk.2
    subst hr9
    rcases hM with ⟨h02, hrb, hω⟩ | ⟨h02, hrb, hω⟩
    · rw [hω]
      exact ⟨CR_rd hCR hSM (TN_0 ν _), congrFun hSM.2.1 _, TH_0 ν _, fun z => absurd z (by decide)⟩
    · omega
set_option maxHeartbeats 1000000 in
theorem j_restore {g : Nat → Bool} {A : Nat × Nat → Nat} {μ : CM} {ν ω : MM} (hCR : CR (g, A, μ) ν) {kr cn : Nat} (hkr : kr < 8) (hc8 : cn ≤ 8) (hch : ν 0 1 = nI cn) (hHR : HR g μ kr cn (ν 5))  {sv : Nat} {v2 : Nat → Int32} (hv2 : v2 = ν 3) (hV3 : sv = 1 → VG (ν 3)) (h15o : μ 0 15 1 = nI kr) {v : Nat → Int32} (hv : v = ν 1) {r : Int32} {u : GM × (Nat → Int64)} {rb : Int32} (hC : (fun r u => (r = nI 0 ∧ ∃ x9 : Int32, (fun r u => sv = 1 ∧ r = v2 0 ∧ u.1 = g ∧ u.2.1 = A ∧ RP (u.2.2 0) v2 ∧ (∀ b o, ¬ (b = 0 ∧ (o < 14 ∨ o = 15)) → u.2.2 b o = μ b o) ∧ u.2.2 0 15 = upd (μ 0 15) 2 (nI 0)) x9 u.1 ∧ u.2 0 = x9.toInt64) ∨ ∃ n9 : Nat, (fun n u => SM g A μ u ∧ ((n = 3 ∧ sv = 0))) n9 u.1 ∧ ((n9 = 3 ∧ r = nI 1))) r u) (hM : (fun r u => (sv = 0 ∧ r = nI 0 ∧ u = up1 ν 0 (upd (ν 0) 0 (nI 1))) ∨ (sv = 1 ∧ r = ν 3 0 ∧ u = up1 (up1 ν 0 (upd (upd (ν 0) 0 (nI 0)) 1 (nI 0))) 1 (ν 3))) rb ω) : CR u.1 ω ∧ u.1.2.1 (0, 14) = A (0, 14) ∧ ω 0 0 = r ∧ (r = nI 0 → u.2 0 = rb.toInt64) := by
  subst hv
  obtain ⟨hVG, hR, hH, hS, hT, hL, hE, hW⟩ := id hCR
  have hn8 := hVG.1.2
  have hn4 := hVG.2.1.2
  rcases hC with ⟨rfl, x9, hC, hx9⟩ | ⟨n9, ⟨hSM, hC⟩, hk⟩
  · obtain ⟨h1, hr9, e1, e2, hR2, hfr, h15⟩ := hC
    rcases hM with ⟨h02, hrb, hω⟩ | ⟨h02, hrb, hω⟩
    · omega
    · subst hv2
      exact ⟨CR_res hkr h15o hS hT hL hE hW (hV3 h1) hR2 hfr h15 hω, congrFun e2 _, by rw [hω, up1_o (by decide), up1_s, upd_o (by decide), upd_s], fun _ => by rw [hx9, hr9, hrb]⟩
  · obtain ⟨rfl, h0⟩ := hC
    have hr9 : r = nI 1 := by exact hk.2
    subst hr9
    rcases hM with ⟨h02, hrb, hω⟩ | ⟨h02, hrb, hω⟩
    · rw [hω]
      exact ⟨CR_rd hCR hSM (TN_0 ν _), congrFun hSM.2.1 _, TH_0 ν _, fun z => absurd z (by decide)⟩
    · omega
theorem j_filterCount {g : Nat → Bool} {A : Nat × Nat → Nat} {μ : CM} {ν ω : MM} (hCR : CR (g, A, μ) ν) {v : Nat → Int32} (hv : v = ν 1) {r rb : Int32} {u : GM} (hC : (fun r u => r = v 0 ∧ SM g A μ u) r u) (hM : (fun r u => r = ν 1 0 ∧ u = up1 ν 0 (upd (ν 0) 0 (nI 0))) rb ω) : CR u ω ∧ u.2.1 (0, 14) = A (0, 14) ∧ r = rb := by
  subst hv
  obtain ⟨hVG, hR, hH, hS, hT, hL, hE, hW⟩ := id hCR
  obtain ⟨hr9, hSM⟩ := hC
  obtain ⟨hrb, hω⟩ := hM
  rw [hω]
  exact ⟨CR_rd hCR hSM (TN_0 ν _), congrFun hSM.2.1 _, by rw [hr9, hrb]⟩
theorem j_tankCount {g : Nat → Bool} {A : Nat × Nat → Nat} {μ : CM} {ν ω : MM} (hCR : CR (g, A, μ) ν) {v : Nat → Int32} (hv : v = ν 1) {r rb : Int32} {u : GM} (hC : (fun r u => r = v 1 ∧ SM g A μ u) r u) (hM : (fun r u => r = ν 1 1 ∧ u = up1 ν 0 (upd (ν 0) 0 (nI 0))) rb ω) : CR u ω ∧ u.2.1 (0, 14) = A (0, 14) ∧ r = rb := by
  subst hv
  obtain ⟨hVG, hR, hH, hS, hT, hL, hE, hW⟩ := id hCR
  obtain ⟨hr9, hSM⟩ := hC
  obtain ⟨hrb, hω⟩ := hM
  rw [hω]
  exact ⟨CR_rd hCR hSM (TN_0 ν _), congrFun hSM.2.1 _, by rw [hr9, hrb]⟩
theorem j_storedTotal {g : Nat → Bool} {A : Nat × Nat → Nat} {μ : CM} {ν ω : MM} (hCR : CR (g, A, μ) ν) {v : Nat → Int32} (hv : v = ν 1) {r rb : Int32} {u : GM} (hC : (fun r u => r = v 2 ∧ SM g A μ u) r u) (hM : (fun r u => r = ν 1 2 ∧ u = up1 ν 0 (upd (ν 0) 0 (nI 0))) rb ω) : CR u ω ∧ u.2.1 (0, 14) = A (0, 14) ∧ r = rb := by
  subst hv
  obtain ⟨hVG, hR, hH, hS, hT, hL, hE, hW⟩ := id hCR
  obtain ⟨hr9, hSM⟩ := hC
  obtain ⟨hrb, hω⟩ := hM
  rw [hω]
  exact ⟨CR_rd hCR hSM (TN_0 ν _), congrFun hSM.2.1 _, by rw [hr9, hrb]⟩
theorem j_droppedTotal {g : Nat → Bool} {A : Nat × Nat → Nat} {μ : CM} {ν ω : MM} (hCR : CR (g, A, μ) ν) {v : Nat → Int32} (hv : v = ν 1) {r rb : Int32} {u : GM} (hC : (fun r u => r = v 3 ∧ SM g A μ u) r u) (hM : (fun r u => r = ν 1 3 ∧ u = up1 ν 0 (upd (ν 0) 0 (nI 0))) rb ω) : CR u ω ∧ u.2.1 (0, 14) = A (0, 14) ∧ r = rb := by
  subst hv
  obtain ⟨hVG, hR, hH, hS, hT, hL, hE, hW⟩ := id hCR
  obtain ⟨hr9, hSM⟩ := hC
  obtain ⟨hrb, hω⟩ := hM
  rw [hω]
  exact ⟨CR_rd hCR hSM (TN_0 ν _), congrFun hSM.2.1 _, by rw [hr9, hrb]⟩
theorem j_drainedTotal {g : Nat → Bool} {A : Nat × Nat → Nat} {μ : CM} {ν ω : MM} (hCR : CR (g, A, μ) ν) {v : Nat → Int32} (hv : v = ν 1) {r rb : Int32} {u : GM} (hC : (fun r u => r = v 4 ∧ SM g A μ u) r u) (hM : (fun r u => r = ν 1 4 ∧ u = up1 ν 0 (upd (ν 0) 0 (nI 0))) rb ω) : CR u ω ∧ u.2.1 (0, 14) = A (0, 14) ∧ r = rb := by
  subst hv
  obtain ⟨hVG, hR, hH, hS, hT, hL, hE, hW⟩ := id hCR
  obtain ⟨hr9, hSM⟩ := hC
  obtain ⟨hrb, hω⟩ := hM
  rw [hω]
  exact ⟨CR_rd hCR hSM (TN_0 ν _), congrFun hSM.2.1 _, by rw [hr9, hrb]⟩
theorem j_strongestSong {g : Nat → Bool} {A : Nat × Nat → Nat} {μ : CM} {ν ω : MM} (hCR : CR (g, A, μ) ν) {v : Nat → Int32} (hv : v = ν 1) {r rb : Int32} {u : GM} (hC : (fun r u => r = nI (stg (fun k => sqS (flV v k (nfV v)) (lnV v k)) 4) ∧ SM g A μ u) r u) (hM : (fun r u => r = nI (stg (fun k => sqS (flV (ν 1) k (nfV (ν 1))) ((lnV (ν 1)) k)) 4) ∧ ∃ o2 g2 : Nat → Int32, u = up1 (up1 (up1 ν 0 (upd (ν 0) 0 (nI 0))) 6 o2) 7 g2) rb ω) : CR u ω ∧ u.2.1 (0, 14) = A (0, 14) ∧ r = rb := by
  subst hv
  obtain ⟨hVG, hR, hH, hS, hT, hL, hE, hW⟩ := id hCR
  obtain ⟨hr9, hSM⟩ := hC
  obtain ⟨hrb, o2, g2, hω⟩ := hM
  rw [hω]
  exact ⟨CR_rd hCR hSM (TN_67 ν _ _ _), congrFun hSM.2.1 _, by rw [hr9, hrb]⟩
theorem j_describeChain {g : Nat → Bool} {A : Nat × Nat → Nat} {μ : CM} {ν ω : MM} (hCR : CR (g, A, μ) ν) {v : Nat → Int32} (hv : v = ν 1) {r rb : Int32} {u : GM} (hC : (fun r u => r = nI (dcC (kdV v) (psV v) (μ 0 27, 0) (nfV v)).2 ∧ u = (g, A, LK μ (dcC (kdV v) (psV v) (μ 0 27, 0) (nfV v)))) r u) (hM : (fun r u => r = nI (dcC (kdV (ν 1)) (psV (ν 1)) (ν 9, 0) (nfV (ν 1))).2 ∧ u = LM (up1 ν 0 (upd (ν 0) 0 (nI 0))) (dcC (kdV (ν 1)) (psV (ν 1)) (ν 9, 0) (nfV (ν 1)))) rb ω) : CR u ω ∧ u.2.1 (0, 14) = A (0, 14) ∧ r = rb := by
  subst hv
  obtain ⟨hVG, hR, hH, hS, hT, hL, hE, hW⟩ := id hCR
  obtain ⟨hr9, hu⟩ := hC
  obtain ⟨hrb, hω⟩ := hM
  have hwe : WE (dcC (kdV (ν 1)) (psV (ν 1)) (ν 9, 0) (nfV (ν 1))) (dcC (kdV (ν 1)) (psV (ν 1)) (μ 0 27, 0) (nfV (ν 1))) := dcC_WE (WE_z _ _) (fun _ _ => ⟨rfl, rfl⟩)
  have hps := hVG.2.2.2.2.2.2.1
  have hn8 := hVG.1.2
  have hle : (dcC (kdV (ν 1)) (psV (ν 1)) (ν 9, 0) (nfV (ν 1))).2 ≤ 0 + 5 * nfV (ν 1) := dcC_le (fun j hj => (hps j hj).2.1)
  exact ⟨CR_line hCR hwe (dcC_WC (WC_z _) (fun j hj => KP_CH (hps j hj).2.2)) (by omega) hu hω, (by rw [hu]), by rw [hr9, hrb, hwe.1]⟩
theorem j_isConsistent {g : Nat → Bool} {A : Nat × Nat → Nat} {μ : CM} {ν ω : MM} (hCR : CR (g, A, μ) ν) {v : Nat → Int32} (hv : v = ν 1) {r rb : Int32} {u : GM} (hC : (fun r u => BP r (v 2 = v 4 + nI (sumN (lvN v) (ntV v))) ∧ SM g A μ u) r u) (hM : (fun r u => BP r (ν 1 2 = ν 1 4 + nI (sumN (lvN (ν 1)) (ntV (ν 1)))) ∧ u = up1 ν 0 (upd (ν 0) 0 (nI 0))) rb ω) : CR u ω ∧ u.2.1 (0, 14) = A (0, 14) ∧ r = rb := by
  subst hv
  obtain ⟨hVG, hR, hH, hS, hT, hL, hE, hW⟩ := id hCR
  obtain ⟨hr9, hSM⟩ := hC
  obtain ⟨hrb, hω⟩ := hM
  rw [hω]
  exact ⟨CR_rd hCR hSM (TN_0 ν _), congrFun hSM.2.1 _, BP_u hr9 hrb⟩
theorem j_save {g : Nat → Bool} {A : Nat × Nat → Nat} {μ : CM} {ν ω : MM} (hCR : CR (g, A, μ) ν) {v : Nat → Int32} (hv : v = ν 1) {r rb : Int32} {u : GM} (hC : (fun r u => r = v 0 ∧ u.1 = g ∧ u.2.1 = A ∧ RP (u.2.2 2) v ∧ (∀ b o, b ≠ 2 → ¬ (b = 0 ∧ o = 14) → u.2.2 b o = μ b o) ∧ u.2.2 0 14 = upd (μ 0 14) 9 (nI 1)) r u) (hM : (fun r u => r = ν 1 0 ∧ u = up1 (up1 ν 0 (upd (upd (ν 0) 0 (nI 0)) 4 (nI 1))) 3 (ν 1)) rb ω) : CR u ω ∧ u.2.1 (0, 14) = A (0, 14) ∧ r = rb := by
  subst hv
  obtain ⟨hVG, hR, hH, hS, hT, hL, hE, hW⟩ := id hCR
  obtain ⟨hr9, e1, e2, hR2, hfr, h14⟩ := hC
  obtain ⟨hrb, hω⟩ := hM
  exact ⟨CR_sav hCR e1 hR2 hfr h14 hω, congrFun e2 _, by rw [hr9, hrb]⟩
