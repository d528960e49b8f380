theorem nn_ln {v : Nat → Int32} (hVG : VG v) {q : Nat} (hq : q < 4) : (nnV v q = 0 ↔ lnV v q = 0) := by
  have h1 := (hVG.2.2.2.1 q hq).2
  have h2 := hVG.2.2.2.2.2.1 q hq
  have h3 := sumN_ge (f := nlV v q) (n := nnV v q) h2.2
  refine ⟨fun h => ?_, fun h => by omega⟩
  rw [← h2.1, h]
  rfl
set_option maxHeartbeats 1000000 in
theorem j_addNote {g : Nat → Bool} {A : Nat × Nat → Nat} {μ : CM} {ν ω : MM} (hCR : CR (g, A, μ) ν) {kr cn : Nat} (hkr : kr < 8) (hc8 : cn ≤ 8) (hch : ν 0 1 = nI cn) (hHR : HR g μ kr cn (ν 5)) {x y am le : Int32}  {v : Nat → Int32} (hv : v = ν 1) {r : Int32} {u : GM × (Nat → Int64)} {rb : Int32} (hC : (fun r u => (r = nI 0 ∧ ∃ x9 : Int32, (fun r u => ∃ q k P, q < 4 ∧ x = nI q ∧ NV y am le ∧ 1 ≤ k ∧ k ≤ 40 ∧ le = nI k ∧ 2 ≤ P ∧ P ≤ 20 ∧ y = nI P ∧ lnV v q + k ≤ 160 ∧ r = nI (lnV v q + k) ∧ CHG g A μ kr cn v (noteV v q (lnV v q) (nnV v q) P am k) u) x9 u.1 ∧ u.2 0 = x9.toInt64) ∨ ∃ n9 : Nat, (fun n u => SM g A μ u ∧ ((n = 1 ∧ ¬ IX x 4) ∨ (n = 2 ∧ IX x 4 ∧ ¬ NV y am le) ∨ (n = 3 ∧ ∃ q k, q < 4 ∧ x = nI q ∧ NV y am le ∧ 1 ≤ k ∧ k ≤ 40 ∧ le = nI k ∧ ¬ lnV v q + k ≤ 160))) n9 u.1 ∧ ((n9 = 1 ∧ r = nI 1) ∨ (n9 = 2 ∧ r = nI 2) ∨ (n9 = 3 ∧ r = nI 3))) r u) (hM : (fun r u => (¬ IX x 4 ∧ r = nI 0 ∧ u = mF ν 1) ∨ (IX x 4 ∧ ¬ NV y am le ∧ r = nI 0 ∧ u = mF ν 2) ∨ (∃ q k, q < 4 ∧ x = nI q ∧ NV y am le ∧ 1 ≤ k ∧ k ≤ 40 ∧ le = nI k ∧ ¬ (lnV (ν 1)) q + k ≤ 160 ∧ r = nI 0 ∧ u = mF ν 3) ∨ (∃ q k P, q < 4 ∧ x = nI q ∧ NV y am le ∧ 1 ≤ k ∧ k ≤ 40 ∧ le = nI k ∧ 2 ≤ P ∧ P ≤ 20 ∧ y = nI P ∧ (lnV (ν 1)) q + k ≤ 160 ∧ r = nI ((lnV (ν 1)) q + k) ∧ u = mS ν cn (noteV (ν 1) q ((lnV (ν 1)) q) ((nnV (ν 1)) q) P am k))) rb ω) : CR u.1 ω ∧ u.1.2.1 (0, 14) = A (0, 14) ∧ ω 0 0 = r ∧ (r = nI 0 → u.2 0 = rb.toInt64) := by
  subst hv
  obtain ⟨hVG, hR, hH, hS, hT, hL, hE, hW⟩ := id hCR
  have hn8 := hVG.1.2
  have hn4 := hVG.2.1.2
  rcases hC with ⟨rfl, x9, hC, hx9⟩ | ⟨n9, ⟨hSM, hC⟩, hk⟩
  · obtain ⟨q, k, P, hq, hx, hnv, hk1, hk2, hle, hP1, hP2, hy, hfit, hr9, hG⟩ := hC
    rcases hM with ⟨hx2, hrb, hω⟩ | ⟨⟨q2, hq2, hx2⟩, hnv2, hrb, hω⟩ | ⟨q2, k2, hq2, hx2, hnv2, hk12, hk22, hle2, hfit2, hrb, hω⟩ | ⟨q2, k2, P2, hq2, hx2, hnv2, hk12, hk22, hle2, hP12, hP22, hy2, hfit2, hrb, hω⟩
    · exact absurd ⟨q, hq, hx⟩ hx2
    · have e_x : q2 = q := (nI_eq (by omega) (by omega)).mp (hx2.symm.trans hx)
      subst e_x
      exact absurd hnv hnv2
    · have e_x : q2 = q := (nI_eq (by omega) (by omega)).mp (hx2.symm.trans hx)
      subst e_x
      have e_k : k2 = k := (nI_eq (by omega) (by omega)).mp (hle2.symm.trans hle)
      subst e_k
      omega
    · have e_x : q2 = q := (nI_eq (by omega) (by omega)).mp (hx2.symm.trans hx)
      subst e_x
      have e_k : k2 = k := (nI_eq (by omega) (by omega)).mp (hle2.symm.trans hle)
      subst e_k
      have e_P : P2 = P := (nI_eq (by omega) (by omega)).mp (hy2.symm.trans hy)
      subst e_P
      rw [hω]
      exact ⟨CR_chg hVG hkr hc8 hHR hS hT hL hE hW (VG_note hVG (by omega) (by omega) (by omega) hnv.2.1) hG (MSX_mS hc8 _), hG.2.1 _ (in_r (by decide) (by decide)), (MSX_mS hc8 _).2.1, fun _ => by rw [hx9, hr9, hrb]⟩
  · rcases hC with ⟨rfl, hx⟩ | ⟨rfl, ⟨q, hq, hx⟩, hnv⟩ | ⟨rfl, q, k, hq, hx, hnv, hk1, hk2, hle, hfit⟩
    · have hr9 : r = nI 1 := by rcases hk with ⟨e, h⟩ | ⟨e, h⟩ | ⟨e, h⟩ <;> first | exact h | exact absurd e (by decide)
      subst hr9
      rcases hM with ⟨hx2, hrb, hω⟩ | ⟨⟨q2, hq2, hx2⟩, hnv2, hrb, hω⟩ | ⟨q2, k2, hq2, hx2, hnv2, hk12, hk22, hle2, hfit2, hrb, hω⟩ | ⟨q2, k2, P2, hq2, hx2, hnv2, hk12, hk22, hle2, hP12, hP22, hy2, hfit2, hrb, hω⟩
      · rw [hω]
        exact ⟨CR_rd hCR hSM (TN_mF ν _), congrFun hSM.2.1 _, mF_0 ν _, fun z => absurd z (by decide)⟩
      · exact absurd ⟨q2, hq2, hx2⟩ hx
      · exact absurd ⟨q2, hq2, hx2⟩ hx
      · exact absurd ⟨q2, hq2, hx2⟩ hx
    · have hr9 : r = nI 2 := by rcases hk with ⟨e, h⟩ | ⟨e, h⟩ | ⟨e, h⟩ <;> first | exact h | exact absurd e (by decide)
      subst hr9
      rcases hM with ⟨hx2, hrb, hω⟩ | ⟨⟨q2, hq2, hx2⟩, hnv2, hrb, hω⟩ | ⟨q2, k2, hq2, hx2, hnv2, hk12, hk22, hle2, hfit2, hrb, hω⟩ | ⟨q2, k2, P2, hq2, hx2, hnv2, hk12, hk22, hle2, hP12, hP22, hy2, hfit2, hrb, hω⟩
      · exact absurd ⟨q, hq, hx⟩ hx2
      · have e_x : q2 = q := (nI_eq (by omega) (by omega)).mp (hx2.symm.trans hx)
        subst e_x
        rw [hω]
        exact ⟨CR_rd hCR hSM (TN_mF ν _), congrFun hSM.2.1 _, mF_0 ν _, fun z => absurd z (by decide)⟩
      · have e_x : q2 = q := (nI_eq (by omega) (by omega)).mp (hx2.symm.trans hx)
        subst e_x
        exact absurd hnv2 hnv
      · have e_x : q2 = q := (nI_eq (by omega) (by omega)).mp (hx2.symm.trans hx)
        subst e_x
        exact absurd hnv2 hnv
    · have hr9 : r = nI 3 := by rcases hk with ⟨e, h⟩ | ⟨e, h⟩ | ⟨e, h⟩ <;> first | exact h | exact absurd e (by decide)
      subst hr9
      rcases hM with ⟨hx2, hrb, hω⟩ | ⟨⟨q2, hq2, hx2⟩, hnv2, hrb, hω⟩ | ⟨q2, k2, hq2, hx2, hnv2, hk12, hk22, hle2, hfit2, hrb, hω⟩ | ⟨q2, k2, P2, hq2, hx2, hnv2, hk12, hk22, hle2, hP12, hP22, hy2, hfit2, hrb, hω⟩
      · exact absurd ⟨q, hq, hx⟩ hx2
      · have e_x : q2 = q := (nI_eq (by omega) (by omega)).mp (hx2.symm.trans hx)
        subst e_x
        exact absurd hnv hnv2
      · have e_x : q2 = q := (nI_eq (by omega) (by omega)).mp (hx2.symm.trans hx)
        subst e_x
        rw [hω]
        exact ⟨CR_rd hCR hSM (TN_mF ν _), congrFun hSM.2.1 _, mF_0 ν _, fun z => absurd z (by decide)⟩
      · have e_x : q2 = q := (nI_eq (by omega) (by omega)).mp (hx2.symm.trans hx)
        subst e_x
        have e_k : k2 = k := (nI_eq (by omega) (by omega)).mp (hle2.symm.trans hle)
        subst e_k
        omega
set_option maxHeartbeats 1000000 in
theorem j_removeNote {g : Nat → Bool} {A : Nat × Nat → Nat} {μ : CM} {ν ω : MM} (hCR : CR (g, A, μ) ν) {kr cn : Nat} (hkr : kr < 8) (hc8 : cn ≤ 8) (hch : ν 0 1 = nI cn) (hHR : HR g μ kr cn (ν 5)) {x : Int32}  {v : Nat → Int32} (hv : v = ν 1) {r : Int32} {u : GM × (Nat → Int64)} {rb : Int32} (hC : (fun r u => (r = nI 0 ∧ ∃ x9 : Int32, (fun r u => ∃ q, q < 4 ∧ x = nI q ∧ 0 < nnV v q ∧ r = nI (lnV v q - nlV v q (nnV v q - 1)) ∧ CHG g A μ kr cn v (untV v q (nnV v q) (lnV v q) (nlV v q (nnV v q - 1))) u) x9 u.1 ∧ u.2 0 = x9.toInt64) ∨ ∃ n9 : Nat, (fun n u => SM g A μ u ∧ ((n = 1 ∧ ¬ IX x 4) ∨ (n = 4 ∧ ∃ q, q < 4 ∧ x = nI q ∧ nnV v q = 0))) n9 u.1 ∧ ((n9 = 1 ∧ r = nI 1) ∨ (n9 = 4 ∧ r = nI 2))) r u) (hM : (fun r u => (¬ IX x 4 ∧ r = nI 0 ∧ u = mF ν 1) ∨ (∃ q, q < 4 ∧ x = nI q ∧ (nnV (ν 1)) q = 0 ∧ r = nI 0 ∧ u = mF ν 2) ∨ (∃ q, q < 4 ∧ x = nI q ∧ 0 < (nnV (ν 1)) q ∧ r = nI ((lnV (ν 1)) q - (nlV (ν 1)) q ((nnV (ν 1)) q - 1)) ∧ u = mS ν cn (untV (ν 1) q ((nnV (ν 1)) q) ((lnV (ν 1)) q) ((nlV (ν 1)) q ((nnV (ν 1)) q - 1))))) rb ω) : CR u.1 ω ∧ u.1.2.1 (0, 14) = A (0, 14) ∧ ω 0 0 = r ∧ (r = nI 0 → u.2 0 = rb.toInt64) := by
  subst hv
  obtain ⟨hVG, hR, hH, hS, hT, hL, hE, hW⟩ := id hCR
  have hn8 := hVG.1.2
  have hn4 := hVG.2.1.2
  rcases hC with ⟨rfl, x9, hC, hx9⟩ | ⟨n9, ⟨hSM, hC⟩, hk⟩
  · obtain ⟨q, hq, hx, h0, hr9, hG⟩ := hC
    rcases hM with ⟨hx2, hrb, hω⟩ | ⟨q2, hq2, hx2, h02, hrb, hω⟩ | ⟨q2, hq2, hx2, h02, hrb, hω⟩
    · exact absurd ⟨q, hq, hx⟩ hx2
    · have e_x : q2 = q := (nI_eq (by omega) (by omega)).mp (hx2.symm.trans hx)
      subst e_x
      omega
    · have e_x : q2 = q := (nI_eq (by omega) (by omega)).mp (hx2.symm.trans hx)
      subst e_x
      rw [hω]
      exact ⟨CR_chg hVG hkr hc8 hHR hS hT hL hE hW (VG_unt hVG (by omega) (by omega)) hG (MSX_mS hc8 _), hG.2.1 _ (in_r (by decide) (by decide)), (MSX_mS hc8 _).2.1, fun _ => by rw [hx9, hr9, hrb]⟩
  · rcases hC with ⟨rfl, hx⟩ | ⟨rfl, q, hq, hx, h0⟩
    · have hr9 : r = nI 1 := by rcases hk with ⟨e, h⟩ | ⟨e, h⟩ <;> first | exact h | exact absurd e (by decide)
      subst hr9
      rcases hM with ⟨hx2, hrb, hω⟩ | ⟨q2, hq2, hx2, h02, hrb, hω⟩ | ⟨q2, hq2, hx2, h02, hrb, hω⟩
      · rw [hω]
        exact ⟨CR_rd hCR hSM (TN_mF ν _), congrFun hSM.2.1 _, mF_0 ν _, fun z => absurd z (by decide)⟩
      · exact absurd ⟨q2, hq2, hx2⟩ hx
      · exact absurd ⟨q2, hq2, hx2⟩ hx
    · have hr9 : r = nI 2 := by rcases hk with ⟨e, h⟩ | ⟨e, h⟩ <;> first | exact h | exact absurd e (by decide)
      subst hr9
      rcases hM with ⟨hx2, hrb, hω⟩ | ⟨q2, hq2, hx2, h02, hrb, hω⟩ | ⟨q2, hq2, hx2, h02, hrb, hω⟩
      · exact absurd ⟨q, hq, hx⟩ hx2
      · have e_x : q2 = q := (nI_eq (by omega) (by omega)).mp (hx2.symm.trans hx)
        subst e_x
        rw [hω]
        exact ⟨CR_rd hCR hSM (TN_mF ν _), congrFun hSM.2.1 _, mF_0 ν _, fun z => absurd z (by decide)⟩
      · have e_x : q2 = q := (nI_eq (by omega) (by omega)).mp (hx2.symm.trans hx)
        subst e_x
        omega
set_option maxHeartbeats 1000000 in
theorem j_pour {g : Nat → Bool} {A : Nat × Nat → Nat} {μ : CM} {ν ω : MM} (hCR : CR (g, A, μ) ν) {kr cn : Nat} (hkr : kr < 8) (hc8 : cn ≤ 8) (hch : ν 0 1 = nI cn) (hHR : HR g μ kr cn (ν 5)) {x : Int32}  {v : Nat → Int32} (hv : v = ν 1) {r : Int32} {u : GM × (Nat → Int64)} {rb : Int32} (hC : (fun r u => (r = nI 0 ∧ ∃ x9 : Int32, (fun r u => ∃ q, q < 4 ∧ x = nI q ∧ 0 < nnV v q ∧ r = nI (pourC v (ntV v) (ldV (flV v q (nfV v)) (lnV v q)) ((lnV v q + 7) / 8)) ∧ CHG g A μ kr cn v (pourN v (ntV v) (ldV (flV v q (nfV v)) (lnV v q)) ((lnV v q + 7) / 8)) u) x9 u.1 ∧ u.2 0 = x9.toInt64) ∨ ∃ n9 : Nat, (fun n u => SM g A μ u ∧ ((n = 1 ∧ ¬ IX x 4) ∨ (n = 4 ∧ ∃ q, q < 4 ∧ x = nI q ∧ nnV v q = 0))) n9 u.1 ∧ ((n9 = 1 ∧ r = nI 1) ∨ (n9 = 4 ∧ r = nI 2))) r u) (hM : (fun r u => (¬ IX x 4 ∧ r = nI 0 ∧ u = mF ν 1) ∨ (∃ q, q < 4 ∧ x = nI q ∧ (nnV (ν 1)) q = 0 ∧ r = nI 0 ∧ u = mF ν 2) ∨ (∃ q, q < 4 ∧ x = nI q ∧ 0 < (nnV (ν 1)) q ∧ r = nI (pourC (ν 1) (ntV (ν 1)) (ldV (flV (ν 1) q (nfV (ν 1))) ((lnV (ν 1)) q)) (((lnV (ν 1)) q + 7) / 8)) ∧ ∃ o2 g2 : Nat → Int32, u = up1 (up1 (mS ν cn (pourN (ν 1) (ntV (ν 1)) (ldV (flV (ν 1) q (nfV (ν 1))) ((lnV (ν 1)) q)) (((lnV (ν 1)) q + 7) / 8))) 6 o2) 7 g2)) rb ω) : CR u.1 ω ∧ u.1.2.1 (0, 14) = A (0, 14) ∧ ω 0 0 = r ∧ (r = nI 0 → u.2 0 = rb.toInt64) := by
  subst hv
  obtain ⟨hVG, hR, hH, hS, hT, hL, hE, hW⟩ := id hCR
  have hn8 := hVG.1.2
  have hn4 := hVG.2.1.2
  rcases hC with ⟨rfl, x9, hC, hx9⟩ | ⟨n9, ⟨hSM, hC⟩, hk⟩
  · obtain ⟨q, hq, hx, h0, hr9, hG⟩ := hC
    rcases hM with ⟨hx2, hrb, hω⟩ | ⟨q2, hq2, hx2, h02, hrb, hω⟩ | ⟨q2, hq2, hx2, h02, hrb, hω⟩
    · exact absurd ⟨q, hq, hx⟩ hx2
    · have e_x : q2 = q := (nI_eq (by omega) (by omega)).mp (hx2.symm.trans hx)
      subst e_x
      omega
    · have e_x : q2 = q := (nI_eq (by omega) (by omega)).mp (hx2.symm.trans hx)
      subst e_x
      obtain ⟨o2, g2, hω⟩ := hω
      rw [hω]
      exact ⟨CR_chg hVG hkr hc8 hHR hS hT hL hE hW (VG_pour hVG (by omega) _) hG (MSX_up (MSX_up (MSX_mS hc8 _) (Or.inl rfl) _) (Or.inr rfl) _), hG.2.1 _ (in_r (by decide) (by decide)), (MSX_up (MSX_up (MSX_mS hc8 _) (Or.inl rfl) _) (Or.inr rfl) _).2.1, fun _ => by rw [hx9, hr9, hrb]⟩
  · rcases hC with ⟨rfl, hx⟩ | ⟨rfl, q, hq, hx, h0⟩
    · have hr9 : r = nI 1 := by rcases hk with ⟨e, h⟩ | ⟨e, h⟩ <;> first | exact h | exact absurd e (by decide)
      subst hr9
      rcases hM with ⟨hx2, hrb, hω⟩ | ⟨q2, hq2, hx2, h02, hrb, hω⟩ | ⟨q2, hq2, hx2, h02, hrb, hω⟩
      · rw [hω]
        exact ⟨CR_rd hCR hSM (TN_mF ν _), congrFun hSM.2.1 _, mF_0 ν _, fun z => absurd z (by decide)⟩
      · exact absurd ⟨q2, hq2, hx2⟩ hx
      · exact absurd ⟨q2, hq2, hx2⟩ hx
    · have hr9 : r = nI 2 := by rcases hk with ⟨e, h⟩ | ⟨e, h⟩ <;> first | exact h | exact absurd e (by decide)
      subst hr9
      rcases hM with ⟨hx2, hrb, hω⟩ | ⟨q2, hq2, hx2, h02, hrb, hω⟩ | ⟨q2, hq2, hx2, h02, hrb, hω⟩
      · exact absurd ⟨q, hq, hx⟩ hx2
      · have e_x : q2 = q := (nI_eq (by omega) (by omega)).mp (hx2.symm.trans hx)
        subst e_x
        rw [hω]
        exact ⟨CR_rd hCR hSM (TN_mF ν _), congrFun hSM.2.1 _, mF_0 ν _, fun z => absurd z (by decide)⟩
      · have e_x : q2 = q := (nI_eq (by omega) (by omega)).mp (hx2.symm.trans hx)
        subst e_x
        omega
set_option maxHeartbeats 1000000 in
theorem j_rawSample {g : Nat → Bool} {A : Nat × Nat → Nat} {μ : CM} {ν ω : MM} (hCR : CR (g, A, μ) ν) {kr cn : Nat} (hkr : kr < 8) (hc8 : cn ≤ 8) (hch : ν 0 1 = nI cn) (hHR : HR g μ kr cn (ν 5)) {x y : Int32}  {v : Nat → Int32} (hv : v = ν 1) {r : Int32} {u : GM × (Nat → Int64)} {rb : Int32} (hC : (fun r u => (r = nI 0 ∧ ∃ x9 : Int32, (fun r u => ∃ q i, q < 4 ∧ x = nI q ∧ i < lnV v q ∧ y = nI i ∧ r = v (77 + 160 * q + i) ∧ SM g A μ u) x9 u.1 ∧ u.2 0 = x9.toInt64) ∨ ∃ n9 : Nat, (fun n u => SM g A μ u ∧ ((n = 1 ∧ ¬ IX x 4) ∨ (n = 4 ∧ ∃ q, q < 4 ∧ x = nI q ∧ ¬ IX y (lnV v q)))) n9 u.1 ∧ ((n9 = 1 ∧ r = nI 1) ∨ (n9 = 4 ∧ r = nI 2))) r u) (hM : (fun r u => (∃ q i, q < 4 ∧ x = nI q ∧ i < (lnV (ν 1)) q ∧ y = nI i ∧ r = ν 1 (77 + 160 * q + i) ∧ u = up1 ν 0 (upd (ν 0) 0 (nI 0))) ∨ (¬ IX x 4 ∧ r = nI 0 ∧ u = up1 ν 0 (upd (ν 0) 0 (nI 1))) ∨ (∃ q, q < 4 ∧ x = nI q ∧ ¬ IX y ((lnV (ν 1)) q) ∧ r = nI 0 ∧ u = up1 ν 0 (upd (ν 0) 0 (nI 2)))) rb ω) : CR u.1 ω ∧ u.1.2.1 (0, 14) = A (0, 14) ∧ ω 0 0 = r ∧ (r = nI 0 → u.2 0 = rb.toInt64) := by
  subst hv
  obtain ⟨hVG, hR, hH, hS, hT, hL, hE, hW⟩ := id hCR
  have hn8 := hVG.1.2
  have hn4 := hVG.2.1.2
  have h160 := fun q hq => VG_ln hVG (q := q) hq
  rcases hC with ⟨rfl, x9, hC, hx9⟩ | ⟨n9, ⟨hSM, hC⟩, hk⟩
  · obtain ⟨q, i, hq, hx, hi, hy, hr9, hSM⟩ := hC
    rcases hM with ⟨q2, i2, hq2, hx2, hi2, hy2, hrb, hω⟩ | ⟨hx2, hrb, hω⟩ | ⟨q2, hq2, hx2, hy2, hrb, hω⟩
    · have e_x : q2 = q := (nI_eq (by omega) (by omega)).mp (hx2.symm.trans hx)
      subst e_x
      have h16 := h160 q2 (by omega)
      have e_y : i2 = i := (nI_eq (by omega) (by omega)).mp (hy2.symm.trans hy)
      subst e_y
      rw [hω]
      exact ⟨CR_rd hCR hSM (TN_0 ν _), congrFun hSM.2.1 _, TH_0 ν _, fun _ => by rw [hx9, hr9, hrb]⟩
    · exact absurd ⟨q, hq, hx⟩ hx2
    · have e_x : q2 = q := (nI_eq (by omega) (by omega)).mp (hx2.symm.trans hx)
      subst e_x
      exact absurd ⟨i, hi, hy⟩ hy2
  · rcases hC with ⟨rfl, hx⟩ | ⟨rfl, q, hq, hx, hy⟩
    · have hr9 : r = nI 1 := by rcases hk with ⟨e, h⟩ | ⟨e, h⟩ <;> first | exact h | exact absurd e (by decide)
      subst hr9
      rcases hM with ⟨q2, i2, hq2, hx2, hi2, hy2, hrb, hω⟩ | ⟨hx2, hrb, hω⟩ | ⟨q2, hq2, hx2, hy2, hrb, hω⟩
      · exact absurd ⟨q2, hq2, hx2⟩ hx
      · rw [hω]
        exact ⟨CR_rd hCR hSM (TN_0 ν _), congrFun hSM.2.1 _, TH_0 ν _, fun z => absurd z (by decide)⟩
      · exact absurd ⟨q2, hq2, hx2⟩ hx
    · have hr9 : r = nI 2 := by rcases hk with ⟨e, h⟩ | ⟨e, h⟩ <;> first | exact h | exact absurd e (by decide)
      subst hr9
      rcases hM with ⟨q2, i2, hq2, hx2, hi2, hy2, hrb, hω⟩ | ⟨hx2, hrb, hω⟩ | ⟨q2, hq2, hx2, hy2, hrb, hω⟩
      · have e_x : q2 = q := (nI_eq (by omega) (by omega)).mp (hx2.symm.trans hx)
        subst e_x
        exact absurd ⟨i2, hi2, hy2⟩ hy
      · exact absurd ⟨q, hq, hx⟩ hx2
      · have e_x : q2 = q := (nI_eq (by omega) (by omega)).mp (hx2.symm.trans hx)
        subst e_x
        rw [hω]
        exact ⟨CR_rd hCR hSM (TN_0 ν _), congrFun hSM.2.1 _, TH_0 ν _, fun z => absurd z (by decide)⟩
set_option maxHeartbeats 1000000 in
theorem j_sample {g : Nat → Bool} {A : Nat × Nat → Nat} {μ : CM} {ν ω : MM} (hCR : CR (g, A, μ) ν) {kr cn : Nat} (hkr : kr < 8) (hc8 : cn ≤ 8) (hch : ν 0 1 = nI cn) (hHR : HR g μ kr cn (ν 5)) {x y : Int32}  {v : Nat → Int32} (hv : v = ν 1) {r : Int32} {u : GM × (Nat → Int64)} {rb : Int32} (hC : (fun r u => (r = nI 0 ∧ ∃ x9 : Int32, (fun r u => ∃ q i, q < 4 ∧ x = nI q ∧ i < lnV v q ∧ y = nI i ∧ r = flV v q (nfV v) i ∧ SM g A μ u) x9 u.1 ∧ u.2 0 = x9.toInt64) ∨ ∃ n9 : Nat, (fun n u => SM g A μ u ∧ ((n = 1 ∧ ¬ IX x 4) ∨ (n = 4 ∧ ∃ q, q < 4 ∧ x = nI q ∧ ¬ IX y (lnV v q)))) n9 u.1 ∧ ((n9 = 1 ∧ r = nI 1) ∨ (n9 = 4 ∧ r = nI 2))) r u) (hM : (fun r u => (∃ q i, q < 4 ∧ x = nI q ∧ i < (lnV (ν 1)) q ∧ y = nI i ∧ r = (flV (ν 1) q (nfV (ν 1))) i ∧ ∃ o2 g2 : Nat → Int32, u = up1 (up1 (up1 ν 0 (upd (ν 0) 0 (nI 0))) 6 o2) 7 g2) ∨ (¬ IX x 4 ∧ r = nI 0 ∧ u = up1 ν 0 (upd (ν 0) 0 (nI 1))) ∨ (∃ q, q < 4 ∧ x = nI q ∧ ¬ IX y ((lnV (ν 1)) q) ∧ r = nI 0 ∧ u = up1 ν 0 (upd (ν 0) 0 (nI 2)))) rb ω) : CR u.1 ω ∧ u.1.2.1 (0, 14) = A (0, 14) ∧ ω 0 0 = r ∧ (r = nI 0 → u.2 0 = rb.toInt64) := by
  subst hv
  obtain ⟨hVG, hR, hH, hS, hT, hL, hE, hW⟩ := id hCR
  have hn8 := hVG.1.2
  have hn4 := hVG.2.1.2
  have h160 := fun q hq => VG_ln hVG (q := q) hq
  rcases hC with ⟨rfl, x9, hC, hx9⟩ | ⟨n9, ⟨hSM, hC⟩, hk⟩
  · obtain ⟨q, i, hq, hx, hi, hy, hr9, hSM⟩ := hC
    rcases hM with ⟨q2, i2, hq2, hx2, hi2, hy2, hrb, hω⟩ | ⟨hx2, hrb, hω⟩ | ⟨q2, hq2, hx2, hy2, hrb, hω⟩
    · have e_x : q2 = q := (nI_eq (by omega) (by omega)).mp (hx2.symm.trans hx)
      subst e_x
      have h16 := h160 q2 (by omega)
      have e_y : i2 = i := (nI_eq (by omega) (by omega)).mp (hy2.symm.trans hy)
      subst e_y
      obtain ⟨o2, g2, hω⟩ := hω
      rw [hω]
      exact ⟨CR_rd hCR hSM (TN_67 ν _ _ _), congrFun hSM.2.1 _, TH_67 ν _ _ _, fun _ => by rw [hx9, hr9, hrb]⟩
    · exact absurd ⟨q, hq, hx⟩ hx2
    · have e_x : q2 = q := (nI_eq (by omega) (by omega)).mp (hx2.symm.trans hx)
      subst e_x
      exact absurd ⟨i, hi, hy⟩ hy2
  · rcases hC with ⟨rfl, hx⟩ | ⟨rfl, q, hq, hx, hy⟩
    · have hr9 : r = nI 1 := by rcases hk with ⟨e, h⟩ | ⟨e, h⟩ <;> first | exact h | exact absurd e (by decide)
      subst hr9
      rcases hM with ⟨q2, i2, hq2, hx2, hi2, hy2, hrb, hω⟩ | ⟨hx2, hrb, hω⟩ | ⟨q2, hq2, hx2, hy2, hrb, hω⟩
      · exact absurd ⟨q2, hq2, hx2⟩ hx
      · rw [hω]
        exact ⟨CR_rd hCR hSM (TN_0 ν _), congrFun hSM.2.1 _, TH_0 ν _, fun z => absurd z (by decide)⟩
      · exact absurd ⟨q2, hq2, hx2⟩ hx
    · have hr9 : r = nI 2 := by rcases hk with ⟨e, h⟩ | ⟨e, h⟩ <;> first | exact h | exact absurd e (by decide)
      subst hr9
      rcases hM with ⟨q2, i2, hq2, hx2, hi2, hy2, hrb, hω⟩ | ⟨hx2, hrb, hω⟩ | ⟨q2, hq2, hx2, hy2, hrb, hω⟩
      · have e_x : q2 = q := (nI_eq (by omega) (by omega)).mp (hx2.symm.trans hx)
        subst e_x
        exact absurd ⟨i2, hi2, hy2⟩ hy
      · exact absurd ⟨q, hq, hx⟩ hx2
      · have e_x : q2 = q := (nI_eq (by omega) (by omega)).mp (hx2.symm.trans hx)
        subst e_x
        rw [hω]
        exact ⟨CR_rd hCR hSM (TN_0 ν _), congrFun hSM.2.1 _, TH_0 ν _, fun z => absurd z (by decide)⟩
set_option maxHeartbeats 1000000 in
theorem j_sampleByFilter {g : Nat → Bool} {A : Nat × Nat → Nat} {μ : CM} {ν ω : MM} (hCR : CR (g, A, μ) ν) {kr cn : Nat} (hkr : kr < 8) (hc8 : cn ≤ 8) (hch : ν 0 1 = nI cn) (hHR : HR g μ kr cn (ν 5)) {x y : Int32}  {v : Nat → Int32} (hv : v = ν 1) {r : Int32} {u : GM × (Nat → Int64)} {rb : Int32} (hC : (fun r u => (r = nI 0 ∧ ∃ x9 : Int32, (fun r u => ∃ q i, q < 4 ∧ x = nI q ∧ i < lnV v q ∧ y = nI i ∧ r = flV v q (nfV v) i ∧ SM g A μ u) x9 u.1 ∧ u.2 0 = x9.toInt64) ∨ ∃ n9 : Nat, (fun n u => SM g A μ u ∧ ((n = 1 ∧ ¬ IX x 4) ∨ (n = 4 ∧ ∃ q, q < 4 ∧ x = nI q ∧ ¬ IX y (lnV v q)))) n9 u.1 ∧ ((n9 = 1 ∧ r = nI 1) ∨ (n9 = 4 ∧ r = nI 2))) r u) (hM : (fun r u => (∃ q i, q < 4 ∧ x = nI q ∧ i < (lnV (ν 1)) q ∧ y = nI i ∧ r = (flV (ν 1) q (nfV (ν 1))) i ∧ ∃ o2 g2 : Nat → Int32, u = up1 (up1 (up1 ν 0 (upd (ν 0) 0 (nI 0))) 6 o2) 7 g2) ∨ (¬ IX x 4 ∧ r = nI 0 ∧ u = up1 ν 0 (upd (ν 0) 0 (nI 1))) ∨ (∃ q, q < 4 ∧ x = nI q ∧ ¬ IX y ((lnV (ν 1)) q) ∧ r = nI 0 ∧ u = up1 ν 0 (upd (ν 0) 0 (nI 2)))) rb ω) : CR u.1 ω ∧ u.1.2.1 (0, 14) = A (0, 14) ∧ ω 0 0 = r ∧ (r = nI 0 → u.2 0 = rb.toInt64) := by
  subst hv
  obtain ⟨hVG, hR, hH, hS, hT, hL, hE, hW⟩ := id hCR
  have hn8 := hVG.1.2
  have hn4 := hVG.2.1.2
  have h160 := fun q hq => VG_ln hVG (q := q) hq
  rcases hC with ⟨rfl, x9, hC, hx9⟩ | ⟨n9, ⟨hSM, hC⟩, hk⟩
  · obtain ⟨q, i, hq, hx, hi, hy, hr9, hSM⟩ := hC
    rcases hM with ⟨q2, i2, hq2, hx2, hi2, hy2, hrb, hω⟩ | ⟨hx2, hrb, hω⟩ | ⟨q2, hq2, hx2, hy2, hrb, hω⟩
    · have e_x : q2 = q := (nI_eq (by omega) (by omega)).mp (hx2.symm.trans hx)
      subst e_x
      have h16 := h160 q2 (by omega)
      have e_y : i2 = i := (nI_eq (by omega) (by omega)).mp (hy2.symm.trans hy)
      subst e_y
      obtain ⟨o2, g2, hω⟩ := hω
      rw [hω]
      exact ⟨CR_rd hCR hSM (TN_67 ν _ _ _), congrFun hSM.2.1 _, TH_67 ν _ _ _, fun _ => by rw [hx9, hr9, hrb]⟩
    · exact absurd ⟨q, hq, hx⟩ hx2
    · have e_x : q2 = q := (nI_eq (by omega) (by omega)).mp (hx2.symm.trans hx)
      subst e_x
      exact absurd ⟨i, hi, hy⟩ hy2
  · rcases hC with ⟨rfl, hx⟩ | ⟨rfl, q, hq, hx, hy⟩
    · have hr9 : r = nI 1 := by rcases hk with ⟨e, h⟩ | ⟨e, h⟩ <;> first | exact h | exact absurd e (by decide)
      subst hr9
      rcases hM with ⟨q2, i2, hq2, hx2, hi2, hy2, hrb, hω⟩ | ⟨hx2, hrb, hω⟩ | ⟨q2, hq2, hx2, hy2, hrb, hω⟩
      · exact absurd ⟨q2, hq2, hx2⟩ hx
      · rw [hω]
        exact ⟨CR_rd hCR hSM (TN_0 ν _), congrFun hSM.2.1 _, TH_0 ν _, fun z => absurd z (by decide)⟩
      · exact absurd ⟨q2, hq2, hx2⟩ hx
    · have hr9 : r = nI 2 := by rcases hk with ⟨e, h⟩ | ⟨e, h⟩ <;> first | exact h | exact absurd e (by decide)
      subst hr9
      rcases hM with ⟨q2, i2, hq2, hx2, hi2, hy2, hrb, hω⟩ | ⟨hx2, hrb, hω⟩ | ⟨q2, hq2, hx2, hy2, hrb, hω⟩
      · have e_x : q2 = q := (nI_eq (by omega) (by omega)).mp (hx2.symm.trans hx)
        subst e_x
        exact absurd ⟨i2, hi2, hy2⟩ hy
      · exact absurd ⟨q, hq, hx⟩ hx2
      · have e_x : q2 = q := (nI_eq (by omega) (by omega)).mp (hx2.symm.trans hx)
        subst e_x
        rw [hω]
        exact ⟨CR_rd hCR hSM (TN_0 ν _), congrFun hSM.2.1 _, TH_0 ν _, fun z => absurd z (by decide)⟩
set_option maxHeartbeats 1000000 in
theorem j_peak {g : Nat → Bool} {A : Nat × Nat → Nat} {μ : CM} {ν ω : MM} (hCR : CR (g, A, μ) ν) {kr cn : Nat} (hkr : kr < 8) (hc8 : cn ≤ 8) (hch : ν 0 1 = nI cn) (hHR : HR g μ kr cn (ν 5)) {x : Int32}  {v : Nat → Int32} (hv : v = ν 1) {r : Int32} {u : GM × (Nat → Int64)} {rb : Int32} (hC : (fun r u => (r = nI 0 ∧ ∃ x9 : Int32, (fun r u => ∃ q, q < 4 ∧ x = nI q ∧ 0 < nnV v q ∧ r = maxR (fun k => iabs ((flV v q (nfV v)) k)) (lnV v q) ∧ SM g A μ u) x9 u.1 ∧ u.2 0 = x9.toInt64) ∨ ∃ n9 : Nat, (fun n u => SM g A μ u ∧ ((n = 1 ∧ ¬ IX x 4) ∨ (n = 4 ∧ ∃ q, q < 4 ∧ x = nI q ∧ nnV v q = 0))) n9 u.1 ∧ ((n9 = 1 ∧ r = nI 1) ∨ (n9 = 4 ∧ r = nI 2))) r u) (hM : (fun r u => (¬ IX x 4 ∧ r = nI 0 ∧ u = up1 ν 0 (upd (ν 0) 0 (nI 1))) ∨ (∃ q, q < 4 ∧ x = nI q ∧ (lnV (ν 1)) q = 0 ∧ r = nI 0 ∧ u = up1 ν 0 (upd (ν 0) 0 (nI 2))) ∨ (∃ q, q < 4 ∧ x = nI q ∧ 0 < (lnV (ν 1)) q ∧ r = maxR (fun k => iabs ((flV (ν 1) q (nfV (ν 1))) k)) ((lnV (ν 1)) q) ∧ ∃ o2 g2 : Nat → Int32, u = up1 (up1 (up1 ν 0 (upd (ν 0) 0 (nI 0))) 6 o2) 7 g2)) rb ω) : CR u.1 ω ∧ u.1.2.1 (0, 14) = A (0, 14) ∧ ω 0 0 = r ∧ (r = nI 0 → u.2 0 = rb.toInt64) := by
  subst hv
  obtain ⟨hVG, hR, hH, hS, hT, hL, hE, hW⟩ := id hCR
  have hn8 := hVG.1.2
  have hn4 := hVG.2.1.2
  have hnl := fun q hq => nn_ln hVG (q := q) hq
  rcases hC with ⟨rfl, x9, hC, hx9⟩ | ⟨n9, ⟨hSM, hC⟩, hk⟩
  · obtain ⟨q, hq, hx, h0, hr9, hSM⟩ := hC
    rcases hM with ⟨hx2, hrb, hω⟩ | ⟨q2, hq2, hx2, h02, hrb, hω⟩ | ⟨q2, hq2, hx2, h02, hrb, hω⟩
    · exact absurd ⟨q, hq, hx⟩ hx2
    · have e_x : q2 = q := (nI_eq (by omega) (by omega)).mp (hx2.symm.trans hx)
      subst e_x
      have hz := hnl q2 (by omega)
      omega
    · have e_x : q2 = q := (nI_eq (by omega) (by omega)).mp (hx2.symm.trans hx)
      subst e_x
      obtain ⟨o2, g2, hω⟩ := hω
      rw [hω]
      exact ⟨CR_rd hCR hSM (TN_67 ν _ _ _), congrFun hSM.2.1 _, TH_67 ν _ _ _, fun _ => by rw [hx9, hr9, hrb]⟩
  · rcases hC with ⟨rfl, hx⟩ | ⟨rfl, q, hq, hx, h0⟩
    · have hr9 : r = nI 1 := by rcases hk with ⟨e, h⟩ | ⟨e, h⟩ <;> first | exact h | exact absurd e (by decide)
      subst hr9
      rcases hM with ⟨hx2, hrb, hω⟩ | ⟨q2, hq2, hx2, h02, hrb, hω⟩ | ⟨q2, hq2, hx2, h02, hrb, hω⟩
      · rw [hω]
        exact ⟨CR_rd hCR hSM (TN_0 ν _), congrFun hSM.2.1 _, TH_0 ν _, fun z => absurd z (by decide)⟩
      · exact absurd ⟨q2, hq2, hx2⟩ hx
      · exact absurd ⟨q2, hq2, hx2⟩ hx
    · have hr9 : r = nI 2 := by rcases hk with ⟨e, h⟩ | ⟨e, h⟩ <;> first | exact h | exact absurd e (by decide)
      subst hr9
      rcases hM with ⟨hx2, hrb, hω⟩ | ⟨q2, hq2, hx2, h02, hrb, hω⟩ | ⟨q2, hq2, hx2, h02, hrb, hω⟩
      · exact absurd ⟨q, hq, hx⟩ hx2
      · have e_x : q2 = q := (nI_eq (by omega) (by omega)).mp (hx2.symm.trans hx)
        subst e_x
        rw [hω]
        exact ⟨CR_rd hCR hSM (TN_0 ν _), congrFun hSM.2.1 _, TH_0 ν _, fun z => absurd z (by decide)⟩
      · have e_x : q2 = q := (nI_eq (by omega) (by omega)).mp (hx2.symm.trans hx)
        subst e_x
        have hz := hnl q2 (by omega)
        omega
set_option maxHeartbeats 1000000 in
theorem j_addTank {g : Nat → Bool} {A : Nat × Nat → Nat} {μ : CM} {ν ω : MM} (hCR : CR (g, A, μ) ν) {kr cn : Nat} (hkr : kr < 8) (hc8 : cn ≤ 8) (hch : ν 0 1 = nI cn) (hHR : HR g μ kr cn (ν 5)) {x : Int32}  {v : Nat → Int32} (hv : v = ν 1) {r : Int32} {u : GM × (Nat → Int64)} {rb : Int32} (hC : (fun r u => (r = nI 0 ∧ ∃ x9 : Int32, (fun r u => (nI 1 ≤ x ∧ x ≤ nI 9) ∧ ntV v < 4 ∧ r = nI (ntV v) ∧ CHG g A μ kr cn v (upd (upd (upd v (29 + 12 * ntV v + 0) x) (29 + 12 * ntV v + 1) (nI 9999)) 1 (nI (ntV v + 1))) u) x9 u.1 ∧ u.2 0 = x9.toInt64) ∨ ∃ n9 : Nat, (fun n u => SM g A μ u ∧ ((n = 2 ∧ ¬ (nI 1 ≤ x ∧ x ≤ nI 9)) ∨ (n = 3 ∧ (nI 1 ≤ x ∧ x ≤ nI 9) ∧ ¬ ntV v < 4))) n9 u.1 ∧ ((n9 = 2 ∧ r = nI 1) ∨ (n9 = 3 ∧ r = nI 2))) r u) (hM : (fun r u => (¬ (nI 1 ≤ x ∧ x ≤ nI 9) ∧ r = nI 0 ∧ u = mF ν 1) ∨ ((nI 1 ≤ x ∧ x ≤ nI 9) ∧ (ntV (ν 1)) = 4 ∧ r = nI 0 ∧ u = mF ν 2) ∨ ((nI 1 ≤ x ∧ x ≤ nI 9) ∧ (ntV (ν 1)) < 4 ∧ r = nI (ntV (ν 1)) ∧ u = mS ν cn (upd (upd (upd (ν 1) (29 + 12 * (ntV (ν 1)) + 0) x) (29 + 12 * (ntV (ν 1)) + 1) (nI 9999)) 1 (nI ((ntV (ν 1)) + 1))))) rb ω) : CR u.1 ω ∧ u.1.2.1 (0, 14) = A (0, 14) ∧ ω 0 0 = r ∧ (r = nI 0 → u.2 0 = rb.toInt64) := by
  subst hv
  obtain ⟨hVG, hR, hH, hS, hT, hL, hE, hW⟩ := id hCR
  have hn8 := hVG.1.2
  have hn4 := hVG.2.1.2
  rcases hC with ⟨rfl, x9, hC, hx9⟩ | ⟨n9, ⟨hSM, hC⟩, hk⟩
  · obtain ⟨hx, h4, hr9, hG⟩ := hC
    rcases hM with ⟨hx2, hrb, hω⟩ | ⟨hx2, h42, hrb, hω⟩ | ⟨hx2, h42, hrb, hω⟩
    · exact absurd hx hx2
    · omega
    · obtain ⟨a, ha1, ha9, rfl⟩ := (I_rng2 (by decide) (by decide)).mp hx
      rw [hω]
      exact ⟨CR_chg hVG hkr hc8 hHR hS hT hL hE hW (VG_add hVG h4 ⟨ha1, ha9⟩) hG (MSX_mS hc8 _), hG.2.1 _ (in_r (by decide) (by decide)), (MSX_mS hc8 _).2.1, fun _ => by rw [hx9, hr9, hrb]⟩
  · rcases hC with ⟨rfl, hx⟩ | ⟨rfl, hx, h4⟩
    · have hr9 : r = nI 1 := by rcases hk with ⟨e, h⟩ | ⟨e, h⟩ <;> first | exact h | exact absurd e (by decide)
      subst hr9
      rcases hM with ⟨hx2, hrb, hω⟩ | ⟨hx2, h42, hrb, hω⟩ | ⟨hx2, h42, hrb, hω⟩
      · rw [hω]
        exact ⟨CR_rd hCR hSM (TN_mF ν _), congrFun hSM.2.1 _, mF_0 ν _, fun z => absurd z (by decide)⟩
      · exact absurd hx2 hx
      · exact absurd hx2 hx
    · have hr9 : r = nI 2 := by rcases hk with ⟨e, h⟩ | ⟨e, h⟩ <;> first | exact h | exact absurd e (by decide)
      subst hr9
      rcases hM with ⟨hx2, hrb, hω⟩ | ⟨hx2, h42, hrb, hω⟩ | ⟨hx2, h42, hrb, hω⟩
      · exact absurd hx hx2
      · rw [hω]
        exact ⟨CR_rd hCR hSM (TN_mF ν _), congrFun hSM.2.1 _, mF_0 ν _, fun z => absurd z (by decide)⟩
      · omega
set_option maxHeartbeats 1000000 in
theorem j_setTuning {g : Nat → Bool} {A : Nat × Nat → Nat} {μ : CM} {ν ω : MM} (hCR : CR (g, A, μ) ν) {kr cn : Nat} (hkr : kr < 8) (hc8 : cn ≤ 8) (hch : ν 0 1 = nI cn) (hHR : HR g μ kr cn (ν 5)) {x y : Int32}  {v : Nat → Int32} (hv : v = ν 1) {r : Int32} {u : GM × (Nat → Int64)} {rb : Int32} (hC : (fun r u => (r = nI 0 ∧ ∃ x9 : Int32, (fun r u => ∃ q, q < ntV v ∧ x = nI q ∧ (nI 0 ≤ y ∧ y ≤ nI 9999) ∧ r = v (29 + 12 * q + 1) ∧ CHG g A μ kr cn v (upd v (29 + 12 * q + 1) y) u) x9 u.1 ∧ u.2 0 = x9.toInt64) ∨ ∃ n9 : Nat, (fun n u => SM g A μ u ∧ ((n = 1 ∧ ¬ IX x (ntV v)) ∨ (n = 2 ∧ IX x (ntV v) ∧ ¬ (nI 0 ≤ y ∧ y ≤ nI 9999)))) n9 u.1 ∧ ((n9 = 1 ∧ r = nI 1) ∨ (n9 = 2 ∧ r = nI 2))) r u) (hM : (fun r u => (¬ IX x (ntV (ν 1)) ∧ r = nI 0 ∧ u = mF ν 1) ∨ (IX x (ntV (ν 1)) ∧ ¬ (nI 0 ≤ y ∧ y ≤ nI 9999) ∧ r = nI 0 ∧ u = mF ν 2) ∨ (∃ q, q < (ntV (ν 1)) ∧ x = nI q ∧ (nI 0 ≤ y ∧ y ≤ nI 9999) ∧ r = ν 1 (29 + 12 * q + 1) ∧ u = mS ν cn (upd (ν 1) (29 + 12 * q + 1) y))) rb ω) : CR u.1 ω ∧ u.1.2.1 (0, 14) = A (0, 14) ∧ ω 0 0 = r ∧ (r = nI 0 → u.2 0 = rb.toInt64) := by
  subst hv
  obtain ⟨hVG, hR, hH, hS, hT, hL, hE, hW⟩ := id hCR
  have hn8 := hVG.1.2
  have hn4 := hVG.2.1.2
  rcases hC with ⟨rfl, x9, hC, hx9⟩ | ⟨n9, ⟨hSM, hC⟩, hk⟩
  · obtain ⟨q, hq, hx, hy, hr9, hG⟩ := hC
    rcases hM with ⟨hx2, hrb, hω⟩ | ⟨⟨q2, hq2, hx2⟩, hy2, hrb, hω⟩ | ⟨q2, hq2, hx2, hy2, hrb, hω⟩
    · exact absurd ⟨q, hq, hx⟩ hx2
    · have e_x : q2 = q := (nI_eq (by omega) (by omega)).mp (hx2.symm.trans hx)
      subst e_x
      exact absurd hy hy2
    · have e_x : q2 = q := (nI_eq (by omega) (by omega)).mp (hx2.symm.trans hx)
      subst e_x
      obtain ⟨a, ha1, ha9, rfl⟩ := (I_rng2 (by decide) (by decide)).mp hy
      rw [hω]
      exact ⟨CR_chg hVG hkr hc8 hHR hS hT hL hE hW (VG_tune hVG (by omega) ha9) hG (MSX_mS hc8 _), hG.2.1 _ (in_r (by decide) (by decide)), (MSX_mS hc8 _).2.1, fun _ => by rw [hx9, hr9, hrb]⟩
  · rcases hC with ⟨rfl, hx⟩ | ⟨rfl, ⟨q, hq, hx⟩, hy⟩
    · have hr9 : r = nI 1 := by rcases hk with ⟨e, h⟩ | ⟨e, h⟩ <;> first | exact h | exact absurd e (by decide)
      subst hr9
      rcases hM with ⟨hx2, hrb, hω⟩ | ⟨⟨q2, hq2, hx2⟩, hy2, hrb, hω⟩ | ⟨q2, hq2, hx2, hy2, hrb, hω⟩
      · rw [hω]
        exact ⟨CR_rd hCR hSM (TN_mF ν _), congrFun hSM.2.1 _, mF_0 ν _, fun z => absurd z (by decide)⟩
      · exact absurd ⟨q2, hq2, hx2⟩ hx
      · exact absurd ⟨q2, hq2, hx2⟩ hx
    · have hr9 : r = nI 2 := by rcases hk with ⟨e, h⟩ | ⟨e, h⟩ <;> first | exact h | exact absurd e (by decide)
      subst hr9
      rcases hM with ⟨hx2, hrb, hω⟩ | ⟨⟨q2, hq2, hx2⟩, hy2, hrb, hω⟩ | ⟨q2, hq2, hx2, hy2, hrb, hω⟩
      · exact absurd ⟨q, hq, hx⟩ hx2
      · have e_x : q2 = q := (nI_eq (by omega) (by omega)).mp (hx2.symm.trans hx)
        subst e_x
        rw [hω]
        exact ⟨CR_rd hCR hSM (TN_mF ν _), congrFun hSM.2.1 _, mF_0 ν _, fun z => absurd z (by decide)⟩
      · have e_x : q2 = q := (nI_eq (by omega) (by omega)).mp (hx2.symm.trans hx)
        subst e_x
        exact absurd hy2 hy
set_option maxHeartbeats 1000000 in
theorem j_drain {g : Nat → Bool} {A : Nat × Nat → Nat} {μ : CM} {ν ω : MM} (hCR : CR (g, A, μ) ν) {kr cn : Nat} (hkr : kr < 8) (hc8 : cn ≤ 8) (hch : ν 0 1 = nI cn) (hHR : HR g μ kr cn (ν 5)) {x y : Int32}  {v : Nat → Int32} (hv : v = ν 1) {r : Int32} {u : GM × (Nat → Int64)} {rb : Int32} (hC : (fun r u => (r = nI 0 ∧ ∃ x9 : Int32, (fun r u => ∃ q j, q < ntV v ∧ x = nI q ∧ 1 ≤ j ∧ j ≤ 9 ∧ y = nI j ∧ j ≤ lvN v q ∧ r = maxR (fun i => v (29 + 12 * q + (3 + i))) j ∧ CHG g A μ kr cn v (drnV v q (lvN v q) j) u) x9 u.1 ∧ u.2 0 = x9.toInt64) ∨ ∃ n9 : Nat, (fun n u => SM g A μ u ∧ ((n = 1 ∧ ¬ IX x (ntV v)) ∨ (n = 2 ∧ IX x (ntV v) ∧ ¬ (nI 1 ≤ y ∧ y ≤ nI 9)) ∨ (n = 4 ∧ ∃ q j, q < ntV v ∧ x = nI q ∧ 1 ≤ j ∧ j ≤ 9 ∧ y = nI j ∧ ¬ j ≤ lvN v q))) n9 u.1 ∧ ((n9 = 1 ∧ r = nI 1) ∨ (n9 = 2 ∧ r = nI 2) ∨ (n9 = 4 ∧ r = nI 3))) r u) (hM : (fun r u => (¬ IX x (ntV (ν 1)) ∧ r = nI 0 ∧ u = mF ν 1) ∨ (IX x (ntV (ν 1)) ∧ ¬ (nI 1 ≤ y ∧ y ≤ nI 9) ∧ r = nI 0 ∧ u = mF ν 2) ∨ (∃ q j, q < (ntV (ν 1)) ∧ x = nI q ∧ 1 ≤ j ∧ j ≤ 9 ∧ y = nI j ∧ (lvN (ν 1)) q < j ∧ r = nI 0 ∧ u = mF ν 3) ∨ (∃ q j, q < (ntV (ν 1)) ∧ x = nI q ∧ 1 ≤ j ∧ j ≤ 9 ∧ y = nI j ∧ j ≤ (lvN (ν 1)) q ∧ r = maxR (fun i => ν 1 (29 + 12 * q + (3 + i))) j ∧ u = mS ν cn (drnV (ν 1) q ((lvN (ν 1)) q) j))) rb ω) : CR u.1 ω ∧ u.1.2.1 (0, 14) = A (0, 14) ∧ ω 0 0 = r ∧ (r = nI 0 → u.2 0 = rb.toInt64) := by
  subst hv
  obtain ⟨hVG, hR, hH, hS, hT, hL, hE, hW⟩ := id hCR
  have hn8 := hVG.1.2
  have hn4 := hVG.2.1.2
  rcases hC with ⟨rfl, x9, hC, hx9⟩ | ⟨n9, ⟨hSM, hC⟩, hk⟩
  · obtain ⟨q, j, hq, hx, hj1, hj2, hy, hl, hr9, hG⟩ := hC
    rcases hM with ⟨hx2, hrb, hω⟩ | ⟨⟨q2, hq2, hx2⟩, hy2, hrb, hω⟩ | ⟨q2, j2, hq2, hx2, hj12, hj22, hy2, hl2, hrb, hω⟩ | ⟨q2, j2, hq2, hx2, hj12, hj22, hy2, hl2, hrb, hω⟩
    · exact absurd ⟨q, hq, hx⟩ hx2
    · have e_x : q2 = q := (nI_eq (by omega) (by omega)).mp (hx2.symm.trans hx)
      subst e_x
      exact absurd ((I_rng2 (by decide) (by decide)).mpr ⟨j, hj1, hj2, hy⟩) hy2
    · have e_x : q2 = q := (nI_eq (by omega) (by omega)).mp (hx2.symm.trans hx)
      subst e_x
      have e_j : j2 = j := (nI_eq (by omega) (by omega)).mp (hy2.symm.trans hy)
      subst e_j
      omega
    · have e_x : q2 = q := (nI_eq (by omega) (by omega)).mp (hx2.symm.trans hx)
      subst e_x
      have e_j : j2 = j := (nI_eq (by omega) (by omega)).mp (hy2.symm.trans hy)
      subst e_j
      rw [hω]
      exact ⟨CR_chg hVG hkr hc8 hHR hS hT hL hE hW (VG_drn hVG (by omega) (by omega) (by omega)) hG (MSX_mS hc8 _), hG.2.1 _ (in_r (by decide) (by decide)), (MSX_mS hc8 _).2.1, fun _ => by rw [hx9, hr9, hrb]⟩
  · rcases hC with ⟨rfl, hx⟩ | ⟨rfl, ⟨q, hq, hx⟩, hy⟩ | ⟨rfl, q, j, hq, hx, hj1, hj2, hy, hl⟩
    · have hr9 : r = nI 1 := by rcases hk with ⟨e, h⟩ | ⟨e, h⟩ | ⟨e, h⟩ <;> first | exact h | exact absurd e (by decide)
      subst hr9
      rcases hM with ⟨hx2, hrb, hω⟩ | ⟨⟨q2, hq2, hx2⟩, hy2, hrb, hω⟩ | ⟨q2, j2, hq2, hx2, hj12, hj22, hy2, hl2, hrb, hω⟩ | ⟨q2, j2, hq2, hx2, hj12, hj22, hy2, hl2, hrb, hω⟩
      · rw [hω]
        exact ⟨CR_rd hCR hSM (TN_mF ν _), congrFun hSM.2.1 _, mF_0 ν _, fun z => absurd z (by decide)⟩
      · exact absurd ⟨q2, hq2, hx2⟩ hx
      · exact absurd ⟨q2, hq2, hx2⟩ hx
      · exact absurd ⟨q2, hq2, hx2⟩ hx
    · have hr9 : r = nI 2 := by rcases hk with ⟨e, h⟩ | ⟨e, h⟩ | ⟨e, h⟩ <;> first | exact h | exact absurd e (by decide)
      subst hr9
      rcases hM with ⟨hx2, hrb, hω⟩ | ⟨⟨q2, hq2, hx2⟩, hy2, hrb, hω⟩ | ⟨q2, j2, hq2, hx2, hj12, hj22, hy2, hl2, hrb, hω⟩ | ⟨q2, j2, hq2, hx2, hj12, hj22, hy2, hl2, hrb, hω⟩
      · exact absurd ⟨q, hq, hx⟩ hx2
      · have e_x : q2 = q := (nI_eq (by omega) (by omega)).mp (hx2.symm.trans hx)
        subst e_x
        rw [hω]
        exact ⟨CR_rd hCR hSM (TN_mF ν _), congrFun hSM.2.1 _, mF_0 ν _, fun z => absurd z (by decide)⟩
      · have e_x : q2 = q := (nI_eq (by omega) (by omega)).mp (hx2.symm.trans hx)
        subst e_x
        exact absurd ((I_rng2 (by decide) (by decide)).mpr ⟨j2, hj12, hj22, hy2⟩) hy
      · have e_x : q2 = q := (nI_eq (by omega) (by omega)).mp (hx2.symm.trans hx)
        subst e_x
        exact absurd ((I_rng2 (by decide) (by decide)).mpr ⟨j2, hj12, hj22, hy2⟩) hy
    · have hr9 : r = nI 3 := by rcases hk with ⟨e, h⟩ | ⟨e, h⟩ | ⟨e, h⟩ <;> first | exact h | exact absurd e (by decide)
      subst hr9
      rcases hM with ⟨hx2, hrb, hω⟩ | ⟨⟨q2, hq2, hx2⟩, hy2, hrb, hω⟩ | ⟨q2, j2, hq2, hx2, hj12, hj22, hy2, hl2, hrb, hω⟩ | ⟨q2, j2, hq2, hx2, hj12, hj22, hy2, hl2, hrb, hω⟩
      · exact absurd ⟨q, hq, hx⟩ hx2
      · have e_x : q2 = q := (nI_eq (by omega) (by omega)).mp (hx2.symm.trans hx)
        subst e_x
        exact absurd ((I_rng2 (by decide) (by decide)).mpr ⟨j, hj1, hj2, hy⟩) hy2
      · have e_x : q2 = q := (nI_eq (by omega) (by omega)).mp (hx2.symm.trans hx)
        subst e_x
        rw [hω]
        exact ⟨CR_rd hCR hSM (TN_mF ν _), congrFun hSM.2.1 _, mF_0 ν _, fun z => absurd z (by decide)⟩
      · have e_x : q2 = q := (nI_eq (by omega) (by omega)).mp (hx2.symm.trans hx)
        subst e_x
        have e_j : j2 = j := (nI_eq (by omega) (by omega)).mp (hy2.symm.trans hy)
        subst e_j
        omega
set_option maxHeartbeats 1000000 in
theorem j_frameLoudness {g : Nat → Bool} {A : Nat × Nat → Nat} {μ : CM} {ν ω : MM} (hCR : CR (g, A, μ) ν) {kr cn : Nat} (hkr : kr < 8) (hc8 : cn ≤ 8) (hch : ν 0 1 = nI cn) (hHR : HR g μ kr cn (ν 5)) {x y : Int32}  {v : Nat → Int32} (hv : v = ν 1) {r : Int32} {u : GM × (Nat → Int64)} {rb : Int32} (hC : (fun r u => (r = nI 0 ∧ ∃ x9 : Int32, (fun r u => ∃ q j, q < ntV v ∧ x = nI q ∧ j < lvN v q ∧ y = nI j ∧ r = v (29 + 12 * q + (3 + j)) ∧ SM g A μ u) x9 u.1 ∧ u.2 0 = x9.toInt64) ∨ ∃ n9 : Nat, (fun n u => SM g A μ u ∧ ((n = 1 ∧ ¬ IX x (ntV v)) ∨ (n = 4 ∧ ∃ q, q < ntV v ∧ x = nI q ∧ ¬ IX y (lvN v q)))) n9 u.1 ∧ ((n9 = 1 ∧ r = nI 1) ∨ (n9 = 4 ∧ r = nI 2))) r u) (hM : (fun r u => (∃ q j, q < (ntV (ν 1)) ∧ x = nI q ∧ j < (lvN (ν 1)) q ∧ y = nI j ∧ r = ν 1 (29 + 12 * q + (3 + j)) ∧ u = up1 ν 0 (upd (ν 0) 0 (nI 0))) ∨ (¬ IX x (ntV (ν 1)) ∧ r = nI 0 ∧ u = up1 ν 0 (upd (ν 0) 0 (nI 1))) ∨ (∃ q, q < (ntV (ν 1)) ∧ x = nI q ∧ ¬ IX y ((lvN (ν 1)) q) ∧ r = nI 0 ∧ u = up1 ν 0 (upd (ν 0) 0 (nI 2)))) rb ω) : CR u.1 ω ∧ u.1.2.1 (0, 14) = A (0, 14) ∧ ω 0 0 = r ∧ (r = nI 0 → u.2 0 = rb.toInt64) := by
  subst hv
  obtain ⟨hVG, hR, hH, hS, hT, hL, hE, hW⟩ := id hCR
  have hn8 := hVG.1.2
  have hn4 := hVG.2.1.2
  have h9 := fun q hq => (hVG.2.2.2.2.2.2.2.1 q hq).2.2
  rcases hC with ⟨rfl, x9, hC, hx9⟩ | ⟨n9, ⟨hSM, hC⟩, hk⟩
  · obtain ⟨q, j, hq, hx, hj, hy, hr9, hSM⟩ := hC
    rcases hM with ⟨q2, i2, hq2, hx2, hi2, hy2, hrb, hω⟩ | ⟨hx2, hrb, hω⟩ | ⟨q2, hq2, hx2, hy2, hrb, hω⟩
    · have e_x : q2 = q := (nI_eq (by omega) (by omega)).mp (hx2.symm.trans hx)
      subst e_x
      have h16 := h9 q2 (by omega)
      have e_y : i2 = j := (nI_eq (by omega) (by omega)).mp (hy2.symm.trans hy)
      subst e_y
      rw [hω]
      exact ⟨CR_rd hCR hSM (TN_0 ν _), congrFun hSM.2.1 _, TH_0 ν _, fun _ => by rw [hx9, hr9, hrb]⟩
    · exact absurd ⟨q, hq, hx⟩ hx2
    · have e_x : q2 = q := (nI_eq (by omega) (by omega)).mp (hx2.symm.trans hx)
      subst e_x
      exact absurd ⟨j, hj, hy⟩ hy2
  · rcases hC with ⟨rfl, hx⟩ | ⟨rfl, q, hq, hx, hy⟩
    · have hr9 : r = nI 1 := by rcases hk with ⟨e, h⟩ | ⟨e, h⟩ <;> first | exact h | exact absurd e (by decide)
      subst hr9
      rcases hM with ⟨q2, i2, hq2, hx2, hi2, hy2, hrb, hω⟩ | ⟨hx2, hrb, hω⟩ | ⟨q2, hq2, hx2, hy2, hrb, hω⟩
      · exact absurd ⟨q2, hq2, hx2⟩ hx
      · rw [hω]
        exact ⟨CR_rd hCR hSM (TN_0 ν _), congrFun hSM.2.1 _, TH_0 ν _, fun z => absurd z (by decide)⟩
      · exact absurd ⟨q2, hq2, hx2⟩ hx
    · have hr9 : r = nI 2 := by rcases hk with ⟨e, h⟩ | ⟨e, h⟩ <;> first | exact h | exact absurd e (by decide)
      subst hr9
      rcases hM with ⟨q2, i2, hq2, hx2, hi2, hy2, hrb, hω⟩ | ⟨hx2, hrb, hω⟩ | ⟨q2, hq2, hx2, hy2, hrb, hω⟩
      · have e_x : q2 = q := (nI_eq (by omega) (by omega)).mp (hx2.symm.trans hx)
        subst e_x
        exact absurd ⟨i2, hi2, hy2⟩ hy
      · exact absurd ⟨q, hq, hx⟩ hx2
      · have e_x : q2 = q := (nI_eq (by omega) (by omega)).mp (hx2.symm.trans hx)
        subst e_x
        rw [hω]
        exact ⟨CR_rd hCR hSM (TN_0 ν _), congrFun hSM.2.1 _, TH_0 ν _, fun z => absurd z (by decide)⟩
