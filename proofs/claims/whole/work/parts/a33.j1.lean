theorem TH_0 (ν : MM) (x : Int32) : up1 ν 0 (upd (ν 0) 0 x) 0 0 = x := by rw [up1_s, upd_s]
theorem mF_0 (ν : MM) (k : Nat) : mF ν k 0 0 = nI k := by
  unfold mF
  rw [up1_o (by decide), up1_s, upd_s]
theorem TH_67 (ν : MM) (x : Int32) (o g : Nat → Int32) : up1 (up1 (up1 ν 0 (upd (ν 0) 0 x)) 6 o) 7 g 0 0 = x := by rw [up1_o (by decide), up1_o (by decide), up1_s, upd_s]
theorem TH_467 (ν : MM) (x : Int32) (h o g : Nat → Int32) : up1 (up1 (up1 (up1 ν 0 (upd (ν 0) 0 x)) 4 h) 6 o) 7 g 0 0 = x := by rw [up1_o (by decide), up1_o (by decide), up1_o (by decide), up1_s, upd_s]
theorem TN_67 (ν : MM) (x : Int32) (o g : Nat → Int32) : TN ν (up1 (up1 (up1 ν 0 (upd (ν 0) 0 x)) 6 o) 7 g) := TN_up (TN_up (TN_0 ν x) (by omega) _) (by omega) _
theorem TN_467 (ν : MM) (x : Int32) (h o g : Nat → Int32) : TN ν (up1 (up1 (up1 (up1 ν 0 (upd (ν 0) 0 x)) 4 h) 6 o) 7 g) := TN_up (TN_up (TN_up (TN_0 ν x) (by omega) _) (by omega) _) (by omega) _
set_option maxHeartbeats 1000000 in
theorem j_addFilter {g : Nat → Bool} {A : Nat × Nat → Nat} {μ : CM} {ν ω : MM} (hCR : CR (g, A, μ) ν) {kr cn : Nat} (hkr : kr < 8) (hc8 : cn ≤ 8) (hch : ν 0 1 = nI cn) (hHR : HR g μ kr cn (ν 5)) {k x : Int32}  {v : Nat → Int32} (hv : v = ν 1) {r : Int32} {u : GM × (Nat → Int64)} {rb : Int32} (hC : (fun r u => (r = nI 0 ∧ ∃ x9 : Int32, (fun r u => KP k x ∧ nfV v < 8 ∧ r = nI (nfV v + 1) ∧ CHG g A μ kr cn v (insV v (nfV v) (nfV v) k x) u) x9 u.1 ∧ u.2 0 = x9.toInt64) ∨ ∃ n9 : Nat, (fun n u => SM g A μ u ∧ ((n = 2 ∧ ¬ KP k x) ∨ (n = 3 ∧ KP k x ∧ ¬ nfV v < 8))) n9 u.1 ∧ ((n9 = 2 ∧ r = nI 1) ∨ (n9 = 3 ∧ r = nI 2))) r u) (hM : (fun r u => (¬ KP k x ∧ r = nI 0 ∧ u = mF ν 1) ∨ (KP k x ∧ (nfV (ν 1)) = 8 ∧ r = nI 0 ∧ u = mF ν 2) ∨ (KP k x ∧ (nfV (ν 1)) < 8 ∧ r = nI ((nfV (ν 1)) + 1) ∧ u = mS ν cn (insV (ν 1) (nfV (ν 1)) (nfV (ν 1)) k x))) rb ω) : CR u.1 ω ∧ u.1.2.1 (0, 14) = A (0, 14) ∧ ω 0 0 = r ∧ (r = nI 0 → u.2 0 = rb.toInt64) := by
  subst hv
  obtain ⟨hVG, hR, hH, hS, hT, hL, hE, hW⟩ := id hCR
  have hn8 := hVG.1.2
  have hn4 := hVG.2.1.2
  rcases hC with ⟨rfl, x9, hC, hx9⟩ | ⟨n9, ⟨hSM, hC⟩, hk⟩
  · obtain ⟨hK, hlt, hr9, hG⟩ := hC
    rcases hM with ⟨hK2, hrb, hω⟩ | ⟨hK2, h8, hrb, hω⟩ | ⟨hK2, h8, hrb, hω⟩
    · exact absurd hK hK2
    · omega
    · obtain ⟨a, ha9, rfl⟩ := KP_nat hK
      rw [hω]
      exact ⟨CR_chg hVG hkr hc8 hHR hS hT hL hE hW (VG_ins hVG (Nat.le_refl _) hlt hK ha9) hG (MSX_mS hc8 _), hG.2.1 _ (in_r (by decide) (by decide)), (MSX_mS hc8 _).2.1, fun _ => by rw [hx9, hr9, hrb]⟩
  · rcases hC with ⟨rfl, hK⟩ | ⟨rfl, hK, hlt⟩
    · have hr9 : r = nI 1 := by rcases hk with ⟨e, h⟩ | ⟨e, h⟩ <;> first | exact h | exact absurd e (by decide)
      subst hr9
      rcases hM with ⟨hK2, hrb, hω⟩ | ⟨hK2, h8, hrb, hω⟩ | ⟨hK2, h8, hrb, hω⟩
      · rw [hω]
        exact ⟨CR_rd hCR hSM (TN_mF ν _), congrFun hSM.2.1 _, mF_0 ν _, fun z => absurd z (by decide)⟩
      · exact absurd hK2 hK
      · exact absurd hK2 hK
    · have hr9 : r = nI 2 := by rcases hk with ⟨e, h⟩ | ⟨e, h⟩ <;> first | exact h | exact absurd e (by decide)
      subst hr9
      rcases hM with ⟨hK2, hrb, hω⟩ | ⟨hK2, h8, hrb, hω⟩ | ⟨hK2, h8, hrb, hω⟩
      · exact absurd hK hK2
      · rw [hω]
        exact ⟨CR_rd hCR hSM (TN_mF ν _), congrFun hSM.2.1 _, mF_0 ν _, fun z => absurd z (by decide)⟩
      · omega
set_option maxHeartbeats 1000000 in
theorem j_insertFilter {g : Nat → Bool} {A : Nat × Nat → Nat} {μ : CM} {ν ω : MM} (hCR : CR (g, A, μ) ν) {kr cn : Nat} (hkr : kr < 8) (hc8 : cn ≤ 8) (hch : ν 0 1 = nI cn) (hHR : HR g μ kr cn (ν 5)) {y k x : Int32}  {v : Nat → Int32} (hv : v = ν 1) {r : Int32} {u : GM × (Nat → Int64)} {rb : Int32} (hC : (fun r u => (r = nI 0 ∧ ∃ x9 : Int32, (fun r u => ∃ q, q < nfV v + 1 ∧ y = nI q ∧ KP k x ∧ nfV v < 8 ∧ r = nI (nfV v + 1) ∧ CHG g A μ kr cn v (insV v q (nfV v) k x) u) x9 u.1 ∧ u.2 0 = x9.toInt64) ∨ ∃ n9 : Nat, (fun n u => SM g A μ u ∧ ((n = 1 ∧ ¬ IX y (nfV v + 1)) ∨ (n = 2 ∧ IX y (nfV v + 1) ∧ ¬ KP k x) ∨ (n = 3 ∧ IX y (nfV v + 1) ∧ KP k x ∧ ¬ nfV v < 8))) n9 u.1 ∧ ((n9 = 1 ∧ r = nI 1) ∨ (n9 = 2 ∧ r = nI 2) ∨ (n9 = 3 ∧ r = nI 3))) r u) (hM : (fun r u => (¬ IX y ((nfV (ν 1)) + 1) ∧ r = nI 0 ∧ u = mF ν 1) ∨ (IX y ((nfV (ν 1)) + 1) ∧ ¬ KP k x ∧ r = nI 0 ∧ u = mF ν 2) ∨ (IX y ((nfV (ν 1)) + 1) ∧ KP k x ∧ (nfV (ν 1)) = 8 ∧ r = nI 0 ∧ u = mF ν 3) ∨ (∃ q, q < (nfV (ν 1)) + 1 ∧ y = nI q ∧ KP k x ∧ (nfV (ν 1)) < 8 ∧ r = nI ((nfV (ν 1)) + 1) ∧ u = mS ν cn (insV (ν 1) q (nfV (ν 1)) k x))) rb ω) : CR u.1 ω ∧ u.1.2.1 (0, 14) = A (0, 14) ∧ ω 0 0 = r ∧ (r = nI 0 → u.2 0 = rb.toInt64) := by
  subst hv
  obtain ⟨hVG, hR, hH, hS, hT, hL, hE, hW⟩ := id hCR
  have hn8 := hVG.1.2
  have hn4 := hVG.2.1.2
  rcases hC with ⟨rfl, x9, hC, hx9⟩ | ⟨n9, ⟨hSM, hC⟩, hk⟩
  · obtain ⟨q, hq, hx, hK, hlt, hr9, hG⟩ := hC
    rcases hM with ⟨hx2, hrb, hω⟩ | ⟨⟨q2, hq2, hx2⟩, hK2, hrb, hω⟩ | ⟨⟨q2, hq2, hx2⟩, hK2, h8, hrb, hω⟩ | ⟨q2, hq2, hx2, hK2, h8, hrb, hω⟩
    · exact absurd ⟨q, hq, hx⟩ hx2
    · have e_x : q2 = q := (nI_eq (by omega) (by omega)).mp (hx2.symm.trans hx)
      subst e_x
      exact absurd hK hK2
    · have e_x : q2 = q := (nI_eq (by omega) (by omega)).mp (hx2.symm.trans hx)
      subst e_x
      omega
    · have e_x : q2 = q := (nI_eq (by omega) (by omega)).mp (hx2.symm.trans hx)
      subst e_x
      obtain ⟨a, ha9, rfl⟩ := KP_nat hK
      rw [hω]
      exact ⟨CR_chg hVG hkr hc8 hHR hS hT hL hE hW (VG_ins hVG (by omega) hlt hK ha9) hG (MSX_mS hc8 _), hG.2.1 _ (in_r (by decide) (by decide)), (MSX_mS hc8 _).2.1, fun _ => by rw [hx9, hr9, hrb]⟩
  · rcases hC with ⟨rfl, hx⟩ | ⟨rfl, ⟨q, hq, hx⟩, hK⟩ | ⟨rfl, ⟨q, hq, hx⟩, hK, hlt⟩
    · have hr9 : r = nI 1 := by rcases hk with ⟨e, h⟩ | ⟨e, h⟩ | ⟨e, h⟩ <;> first | exact h | exact absurd e (by decide)
      subst hr9
      rcases hM with ⟨hx2, hrb, hω⟩ | ⟨⟨q2, hq2, hx2⟩, hK2, hrb, hω⟩ | ⟨⟨q2, hq2, hx2⟩, hK2, h8, hrb, hω⟩ | ⟨q2, hq2, hx2, hK2, h8, hrb, hω⟩
      · rw [hω]
        exact ⟨CR_rd hCR hSM (TN_mF ν _), congrFun hSM.2.1 _, mF_0 ν _, fun z => absurd z (by decide)⟩
      · exact absurd ⟨q2, hq2, hx2⟩ hx
      · exact absurd ⟨q2, hq2, hx2⟩ hx
      · exact absurd ⟨q2, hq2, hx2⟩ hx
    · have hr9 : r = nI 2 := by rcases hk with ⟨e, h⟩ | ⟨e, h⟩ | ⟨e, h⟩ <;> first | exact h | exact absurd e (by decide)
      subst hr9
      rcases hM with ⟨hx2, hrb, hω⟩ | ⟨⟨q2, hq2, hx2⟩, hK2, hrb, hω⟩ | ⟨⟨q2, hq2, hx2⟩, hK2, h8, hrb, hω⟩ | ⟨q2, hq2, hx2, hK2, h8, hrb, hω⟩
      · exact absurd ⟨q, hq, hx⟩ hx2
      · have e_x : q2 = q := (nI_eq (by omega) (by omega)).mp (hx2.symm.trans hx)
        subst e_x
        rw [hω]
        exact ⟨CR_rd hCR hSM (TN_mF ν _), congrFun hSM.2.1 _, mF_0 ν _, fun z => absurd z (by decide)⟩
      · have e_x : q2 = q := (nI_eq (by omega) (by omega)).mp (hx2.symm.trans hx)
        subst e_x
        exact absurd hK2 hK
      · have e_x : q2 = q := (nI_eq (by omega) (by omega)).mp (hx2.symm.trans hx)
        subst e_x
        exact absurd hK2 hK
    · have hr9 : r = nI 3 := by rcases hk with ⟨e, h⟩ | ⟨e, h⟩ | ⟨e, h⟩ <;> first | exact h | exact absurd e (by decide)
      subst hr9
      rcases hM with ⟨hx2, hrb, hω⟩ | ⟨⟨q2, hq2, hx2⟩, hK2, hrb, hω⟩ | ⟨⟨q2, hq2, hx2⟩, hK2, h8, hrb, hω⟩ | ⟨q2, hq2, hx2, hK2, h8, hrb, hω⟩
      · exact absurd ⟨q, hq, hx⟩ hx2
      · have e_x : q2 = q := (nI_eq (by omega) (by omega)).mp (hx2.symm.trans hx)
        subst e_x
        exact absurd hK hK2
      · have e_x : q2 = q := (nI_eq (by omega) (by omega)).mp (hx2.symm.trans hx)
        subst e_x
        rw [hω]
        exact ⟨CR_rd hCR hSM (TN_mF ν _), congrFun hSM.2.1 _, mF_0 ν _, fun z => absurd z (by decide)⟩
      · have e_x : q2 = q := (nI_eq (by omega) (by omega)).mp (hx2.symm.trans hx)
        subst e_x
        omega
set_option maxHeartbeats 1000000 in
theorem j_removeFilter {g : Nat → Bool} {A : Nat × Nat → Nat} {μ : CM} {ν ω : MM} (hCR : CR (g, A, μ) ν) {kr cn : Nat} (hkr : kr < 8) (hc8 : cn ≤ 8) (hch : ν 0 1 = nI cn) (hHR : HR g μ kr cn (ν 5)) {x : Int32}  {v : Nat → Int32} (hv : v = ν 1) {r : Int32} {u : GM × (Nat → Int64)} {rb : Int32} (hC : (fun r u => (r = nI 0 ∧ ∃ x9 : Int32, (fun r u => ∃ q, q < nfV v ∧ x = nI q ∧ r = v (13 + q) ∧ CHG g A μ kr cn v (delV v q (nfV v)) u) x9 u.1 ∧ u.2 0 = x9.toInt64) ∨ ∃ n9 : Nat, (fun n u => SM g A μ u ∧ ((n = 1 ∧ ¬ IX x (nfV v)))) n9 u.1 ∧ ((n9 = 1 ∧ r = nI 1))) r u) (hM : (fun r u => (¬ IX x (nfV (ν 1)) ∧ r = nI 0 ∧ u = mF ν 1) ∨ (∃ q, q < (nfV (ν 1)) ∧ x = nI q ∧ r = ν 1 (13 + q) ∧ u = mS ν cn (delV (ν 1) q (nfV (ν 1))))) rb ω) : CR u.1 ω ∧ u.1.2.1 (0, 14) = A (0, 14) ∧ ω 0 0 = r ∧ (r = nI 0 → u.2 0 = rb.toInt64) := by
  subst hv
  obtain ⟨hVG, hR, hH, hS, hT, hL, hE, hW⟩ := id hCR
  have hn8 := hVG.1.2
  have hn4 := hVG.2.1.2
  rcases hC with ⟨rfl, x9, hC, hx9⟩ | ⟨n9, ⟨hSM, hC⟩, hk⟩
  · obtain ⟨q, hq, hx, hr9, hG⟩ := hC
    rcases hM with ⟨hx2, hrb, hω⟩ | ⟨q2, hq2, hx2, hrb, hω⟩
    · exact absurd ⟨q, hq, hx⟩ hx2
    · have e_x : q2 = q := (nI_eq (by omega) (by omega)).mp (hx2.symm.trans hx)
      subst e_x
      rw [hω]
      exact ⟨CR_chg hVG hkr hc8 hHR hS hT hL hE hW (VG_del hVG hq) hG (MSX_mS hc8 _), hG.2.1 _ (in_r (by decide) (by decide)), (MSX_mS hc8 _).2.1, fun _ => by rw [hx9, hr9, hrb]⟩
  · obtain ⟨rfl, hx⟩ := hC
    have hr9 : r = nI 1 := by exact hk.2
    subst hr9
    rcases hM with ⟨hx2, hrb, hω⟩ | ⟨q2, hq2, hx2, hrb, hω⟩
    · rw [hω]
      exact ⟨CR_rd hCR hSM (TN_mF ν _), congrFun hSM.2.1 _, mF_0 ν _, fun z => absurd z (by decide)⟩
    · exact absurd ⟨q2, hq2, hx2⟩ hx
set_option maxHeartbeats 1000000 in
theorem j_swapFilters {g : Nat → Bool} {A : Nat × Nat → Nat} {μ : CM} {ν ω : MM} (hCR : CR (g, A, μ) ν) {kr cn : Nat} (hkr : kr < 8) (hc8 : cn ≤ 8) (hch : ν 0 1 = nI cn) (hHR : HR g μ kr cn (ν 5)) {x y : Int32}  {v : Nat → Int32} (hv : v = ν 1) {r : Int32} {u : GM × (Nat → Int64)} {rb : Int32} (hC : (fun r u => (r = nI 0 ∧ ∃ x9 : Int32, (fun r u => ∃ q q2, q < nfV v ∧ q2 < nfV v ∧ x = nI q ∧ y = nI q2 ∧ r = nI (dsN q q2) ∧ CHG g A μ kr cn v (swV v q q2) u) x9 u.1 ∧ u.2 0 = x9.toInt64) ∨ ∃ n9 : Nat, (fun n u => SM g A μ u ∧ ((n = 1 ∧ ¬ (IX x (nfV v) ∧ IX y (nfV v))))) n9 u.1 ∧ ((n9 = 1 ∧ r = nI 1))) r u) (hM : (fun r u => (¬ (IX x (nfV (ν 1)) ∧ IX y (nfV (ν 1))) ∧ r = nI 0 ∧ u = mF ν 1) ∨ (∃ a b, a < (nfV (ν 1)) ∧ b < (nfV (ν 1)) ∧ x = nI a ∧ y = nI b ∧ r = nI (dsN a b) ∧ u = mS ν cn (swV (ν 1) a b))) rb ω) : CR u.1 ω ∧ u.1.2.1 (0, 14) = A (0, 14) ∧ ω 0 0 = r ∧ (r = nI 0 → u.2 0 = rb.toInt64) := by
  subst hv
  obtain ⟨hVG, hR, hH, hS, hT, hL, hE, hW⟩ := id hCR
  have hn8 := hVG.1.2
  have hn4 := hVG.2.1.2
  rcases hC with ⟨rfl, x9, hC, hx9⟩ | ⟨n9, ⟨hSM, hC⟩, hk⟩
  · obtain ⟨q, p, hq, hp, hx, hy, hr9, hG⟩ := hC
    rcases hM with ⟨hB2, hrb, hω⟩ | ⟨q2, p2, hq2, hp2, hx2, hy2, hrb, hω⟩
    · exact absurd ⟨⟨q, hq, hx⟩, ⟨p, hp, hy⟩⟩ hB2
    · have e_x : q2 = q := (nI_eq (by omega) (by omega)).mp (hx2.symm.trans hx)
      subst e_x
      have e_y : p2 = p := (nI_eq (by omega) (by omega)).mp (hy2.symm.trans hy)
      subst e_y
      rw [hω]
      exact ⟨CR_chg hVG hkr hc8 hHR hS hT hL hE hW (VG_sw hVG hq hp) hG (MSX_mS hc8 _), hG.2.1 _ (in_r (by decide) (by decide)), (MSX_mS hc8 _).2.1, fun _ => by rw [hx9, hr9, hrb]⟩
  · obtain ⟨rfl, hB⟩ := hC
    have hr9 : r = nI 1 := by exact hk.2
    subst hr9
    rcases hM with ⟨hB2, hrb, hω⟩ | ⟨q2, p2, hq2, hp2, hx2, hy2, hrb, hω⟩
    · rw [hω]
      exact ⟨CR_rd hCR hSM (TN_mF ν _), congrFun hSM.2.1 _, mF_0 ν _, fun z => absurd z (by decide)⟩
    · exact absurd ⟨⟨q2, hq2, hx2⟩, ⟨p2, hp2, hy2⟩⟩ hB
set_option maxHeartbeats 1000000 in
theorem j_filterKind {g : Nat → Bool} {A : Nat × Nat → Nat} {μ : CM} {ν ω : MM} (hCR : CR (g, A, μ) ν) {kr cn : Nat} (hkr : kr < 8) (hc8 : cn ≤ 8) (hch : ν 0 1 = nI cn) (hHR : HR g μ kr cn (ν 5)) {x : Int32}  {v : Nat → Int32} (hv : v = ν 1) {r : Int32} {u : GM × (Nat → Int64)} {rb : Int32} (hC : (fun r u => (r = nI 0 ∧ ∃ x9 : Int32, (fun r u => ∃ q, q < nfV v ∧ x = nI q ∧ r = v (5 + q) ∧ SM g A μ u) x9 u.1 ∧ u.2 0 = x9.toInt64) ∨ ∃ n9 : Nat, (fun n u => SM g A μ u ∧ ((n = 1 ∧ ¬ IX x (nfV v)))) n9 u.1 ∧ ((n9 = 1 ∧ r = nI 1))) r u) (hM : (fun r u => (∃ f, f < (nfV (ν 1)) ∧ x = nI f ∧ r = ν 1 (5 + f) ∧ u = up1 ν 0 (upd (ν 0) 0 (nI 0))) ∨ (¬ IX x (nfV (ν 1)) ∧ r = nI 97 ∧ u = up1 ν 0 (upd (ν 0) 0 (nI 1)))) rb ω) : CR u.1 ω ∧ u.1.2.1 (0, 14) = A (0, 14) ∧ ω 0 0 = r ∧ (r = nI 0 → u.2 0 = rb.toInt64) := by
  subst hv
  obtain ⟨hVG, hR, hH, hS, hT, hL, hE, hW⟩ := id hCR
  have hn8 := hVG.1.2
  have hn4 := hVG.2.1.2
  rcases hC with ⟨rfl, x9, hC, hx9⟩ | ⟨n9, ⟨hSM, hC⟩, hk⟩
  · obtain ⟨q, hq, hx, hr9, hSM⟩ := hC
    rcases hM with ⟨q2, hq2, hx2, hrb, hω⟩ | ⟨hx2, hrb, hω⟩
    · have e_x : q2 = q := (nI_eq (by omega) (by omega)).mp (hx2.symm.trans hx)
      subst e_x
      rw [hω]
      exact ⟨CR_rd hCR hSM (TN_0 ν _), congrFun hSM.2.1 _, TH_0 ν _, fun _ => by rw [hx9, hr9, hrb]⟩
    · exact absurd ⟨q, hq, hx⟩ hx2
  · obtain ⟨rfl, hx⟩ := hC
    have hr9 : r = nI 1 := by exact hk.2
    subst hr9
    rcases hM with ⟨q2, hq2, hx2, hrb, hω⟩ | ⟨hx2, hrb, hω⟩
    · exact absurd ⟨q2, hq2, hx2⟩ hx
    · rw [hω]
      exact ⟨CR_rd hCR hSM (TN_0 ν _), congrFun hSM.2.1 _, TH_0 ν _, fun z => absurd z (by decide)⟩
set_option maxHeartbeats 1000000 in
theorem j_filterParameter {g : Nat → Bool} {A : Nat × Nat → Nat} {μ : CM} {ν ω : MM} (hCR : CR (g, A, μ) ν) {kr cn : Nat} (hkr : kr < 8) (hc8 : cn ≤ 8) (hch : ν 0 1 = nI cn) (hHR : HR g μ kr cn (ν 5)) {x : Int32}  {v : Nat → Int32} (hv : v = ν 1) {r : Int32} {u : GM × (Nat → Int64)} {rb : Int32} (hC : (fun r u => (r = nI 0 ∧ ∃ x9 : Int32, (fun r u => ∃ q, q < nfV v ∧ x = nI q ∧ r = v (13 + q) ∧ SM g A μ u) x9 u.1 ∧ u.2 0 = x9.toInt64) ∨ ∃ n9 : Nat, (fun n u => SM g A μ u ∧ ((n = 1 ∧ ¬ IX x (nfV v)))) n9 u.1 ∧ ((n9 = 1 ∧ r = nI 1))) r u) (hM : (fun r u => (∃ f, f < (nfV (ν 1)) ∧ x = nI f ∧ r = ν 1 (13 + f) ∧ u = up1 ν 0 (upd (ν 0) 0 (nI 0))) ∨ (¬ IX x (nfV (ν 1)) ∧ r = nI 0 ∧ u = up1 ν 0 (upd (ν 0) 0 (nI 1)))) rb ω) : CR u.1 ω ∧ u.1.2.1 (0, 14) = A (0, 14) ∧ ω 0 0 = r ∧ (r = nI 0 → u.2 0 = rb.toInt64) := by
  subst hv
  obtain ⟨hVG, hR, hH, hS, hT, hL, hE, hW⟩ := id hCR
  have hn8 := hVG.1.2
  have hn4 := hVG.2.1.2
  rcases hC with ⟨rfl, x9, hC, hx9⟩ | ⟨n9, ⟨hSM, hC⟩, hk⟩
  · obtain ⟨q, hq, hx, hr9, hSM⟩ := hC
    rcases hM with ⟨q2, hq2, hx2, hrb, hω⟩ | ⟨hx2, hrb, hω⟩
    · have e_x : q2 = q := (nI_eq (by omega) (by omega)).mp (hx2.symm.trans hx)
      subst e_x
      rw [hω]
      exact ⟨CR_rd hCR hSM (TN_0 ν _), congrFun hSM.2.1 _, TH_0 ν _, fun _ => by rw [hx9, hr9, hrb]⟩
    · exact absurd ⟨q, hq, hx⟩ hx2
  · obtain ⟨rfl, hx⟩ := hC
    have hr9 : r = nI 1 := by exact hk.2
    subst hr9
    rcases hM with ⟨q2, hq2, hx2, hrb, hω⟩ | ⟨hx2, hrb, hω⟩
    · exact absurd ⟨q2, hq2, hx2⟩ hx
    · rw [hω]
      exact ⟨CR_rd hCR hSM (TN_0 ν _), congrFun hSM.2.1 _, TH_0 ν _, fun z => absurd z (by decide)⟩
set_option maxHeartbeats 1000000 in
theorem j_noteCount {g : Nat → Bool} {A : Nat × Nat → Nat} {μ : CM} {ν ω : MM} (hCR : CR (g, A, μ) ν) {kr cn : Nat} (hkr : kr < 8) (hc8 : cn ≤ 8) (hch : ν 0 1 = nI cn) (hHR : HR g μ kr cn (ν 5)) {x : Int32}  {v : Nat → Int32} (hv : v = ν 1) {r : Int32} {u : GM × (Nat → Int64)} {rb : Int32} (hC : (fun r u => (r = nI 0 ∧ ∃ x9 : Int32, (fun r u => ∃ q, q < 4 ∧ x = nI q ∧ r = v (21 + q) ∧ SM g A μ u) x9 u.1 ∧ u.2 0 = x9.toInt64) ∨ ∃ n9 : Nat, (fun n u => SM g A μ u ∧ ((n = 1 ∧ ¬ IX x 4))) n9 u.1 ∧ ((n9 = 1 ∧ r = nI 1))) r u) (hM : (fun r u => (∃ q, q < 4 ∧ x = nI q ∧ r = ν 1 (21 + q) ∧ u = up1 ν 0 (upd (ν 0) 0 (nI 0))) ∨ (¬ IX x 4 ∧ r = nI 0 ∧ u = up1 ν 0 (upd (ν 0) 0 (nI 1)))) rb ω) : CR u.1 ω ∧ u.1.2.1 (0, 14) = A (0, 14) ∧ ω 0 0 = r ∧ (r = nI 0 → u.2 0 = rb.toInt64) := by
  subst hv
  obtain ⟨hVG, hR, hH, hS, hT, hL, hE, hW⟩ := id hCR
  have hn8 := hVG.1.2
  have hn4 := hVG.2.1.2
  rcases hC with ⟨rfl, x9, hC, hx9⟩ | ⟨n9, ⟨hSM, hC⟩, hk⟩
  · obtain ⟨q, hq, hx, hr9, hSM⟩ := hC
    rcases hM with ⟨q2, hq2, hx2, hrb, hω⟩ | ⟨hx2, hrb, hω⟩
    · have e_x : q2 = q := (nI_eq (by omega) (by omega)).mp (hx2.symm.trans hx)
      subst e_x
      rw [hω]
      exact ⟨CR_rd hCR hSM (TN_0 ν _), congrFun hSM.2.1 _, TH_0 ν _, fun _ => by rw [hx9, hr9, hrb]⟩
    · exact absurd ⟨q, hq, hx⟩ hx2
  · obtain ⟨rfl, hx⟩ := hC
    have hr9 : r = nI 1 := by exact hk.2
    subst hr9
    rcases hM with ⟨q2, hq2, hx2, hrb, hω⟩ | ⟨hx2, hrb, hω⟩
    · exact absurd ⟨q2, hq2, hx2⟩ hx
    · rw [hω]
      exact ⟨CR_rd hCR hSM (TN_0 ν _), congrFun hSM.2.1 _, TH_0 ν _, fun z => absurd z (by decide)⟩
set_option maxHeartbeats 1000000 in
theorem j_songLength {g : Nat → Bool} {A : Nat × Nat → Nat} {μ : CM} {ν ω : MM} (hCR : CR (g, A, μ) ν) {kr cn : Nat} (hkr : kr < 8) (hc8 : cn ≤ 8) (hch : ν 0 1 = nI cn) (hHR : HR g μ kr cn (ν 5)) {x : Int32}  {v : Nat → Int32} (hv : v = ν 1) {r : Int32} {u : GM × (Nat → Int64)} {rb : Int32} (hC : (fun r u => (r = nI 0 ∧ ∃ x9 : Int32, (fun r u => ∃ q, q < 4 ∧ x = nI q ∧ r = v (25 + q) ∧ SM g A μ u) x9 u.1 ∧ u.2 0 = x9.toInt64) ∨ ∃ n9 : Nat, (fun n u => SM g A μ u ∧ ((n = 1 ∧ ¬ IX x 4))) n9 u.1 ∧ ((n9 = 1 ∧ r = nI 1))) r u) (hM : (fun r u => (∃ q, q < 4 ∧ x = nI q ∧ r = ν 1 (25 + q) ∧ u = up1 ν 0 (upd (ν 0) 0 (nI 0))) ∨ (¬ IX x 4 ∧ r = nI 0 ∧ u = up1 ν 0 (upd (ν 0) 0 (nI 1)))) rb ω) : CR u.1 ω ∧ u.1.2.1 (0, 14) = A (0, 14) ∧ ω 0 0 = r ∧ (r = nI 0 → u.2 0 = rb.toInt64) := by
  subst hv
  obtain ⟨hVG, hR, hH, hS, hT, hL, hE, hW⟩ := id hCR
  have hn8 := hVG.1.2
  have hn4 := hVG.2.1.2
  rcases hC with ⟨rfl, x9, hC, hx9⟩ | ⟨n9, ⟨hSM, hC⟩, hk⟩
  · obtain ⟨q, hq, hx, hr9, hSM⟩ := hC
    rcases hM with ⟨q2, hq2, hx2, hrb, hω⟩ | ⟨hx2, hrb, hω⟩
    · have e_x : q2 = q := (nI_eq (by omega) (by omega)).mp (hx2.symm.trans hx)
      subst e_x
      rw [hω]
      exact ⟨CR_rd hCR hSM (TN_0 ν _), congrFun hSM.2.1 _, TH_0 ν _, fun _ => by rw [hx9, hr9, hrb]⟩
    · exact absurd ⟨q, hq, hx⟩ hx2
  · obtain ⟨rfl, hx⟩ := hC
    have hr9 : r = nI 1 := by exact hk.2
    subst hr9
    rcases hM with ⟨q2, hq2, hx2, hrb, hω⟩ | ⟨hx2, hrb, hω⟩
    · exact absurd ⟨q2, hq2, hx2⟩ hx
    · rw [hω]
      exact ⟨CR_rd hCR hSM (TN_0 ν _), congrFun hSM.2.1 _, TH_0 ν _, fun z => absurd z (by decide)⟩
set_option maxHeartbeats 1000000 in
theorem j_capacity {g : Nat → Bool} {A : Nat × Nat → Nat} {μ : CM} {ν ω : MM} (hCR : CR (g, A, μ) ν) {kr cn : Nat} (hkr : kr < 8) (hc8 : cn ≤ 8) (hch : ν 0 1 = nI cn) (hHR : HR g μ kr cn (ν 5)) {x : Int32}  {v : Nat → Int32} (hv : v = ν 1) {r : Int32} {u : GM × (Nat → Int64)} {rb : Int32} (hC : (fun r u => (r = nI 0 ∧ ∃ x9 : Int32, (fun r u => ∃ q, q < ntV v ∧ x = nI q ∧ r = v (29 + 12 * q + 0) ∧ SM g A μ u) x9 u.1 ∧ u.2 0 = x9.toInt64) ∨ ∃ n9 : Nat, (fun n u => SM g A μ u ∧ ((n = 1 ∧ ¬ IX x (ntV v)))) n9 u.1 ∧ ((n9 = 1 ∧ r = nI 1))) r u) (hM : (fun r u => (∃ q, q < (ntV (ν 1)) ∧ x = nI q ∧ r = ν 1 (29 + 12 * q + 0) ∧ u = up1 ν 0 (upd (ν 0) 0 (nI 0))) ∨ (¬ IX x (ntV (ν 1)) ∧ r = nI 0 ∧ u = up1 ν 0 (upd (ν 0) 0 (nI 1)))) rb ω) : CR u.1 ω ∧ u.1.2.1 (0, 14) = A (0, 14) ∧ ω 0 0 = r ∧ (r = nI 0 → u.2 0 = rb.toInt64) := by
  subst hv
  obtain ⟨hVG, hR, hH, hS, hT, hL, hE, hW⟩ := id hCR
  have hn8 := hVG.1.2
  have hn4 := hVG.2.1.2
  rcases hC with ⟨rfl, x9, hC, hx9⟩ | ⟨n9, ⟨hSM, hC⟩, hk⟩
  · obtain ⟨q, hq, hx, hr9, hSM⟩ := hC
    rcases hM with ⟨q2, hq2, hx2, hrb, hω⟩ | ⟨hx2, hrb, hω⟩
    · have e_x : q2 = q := (nI_eq (by omega) (by omega)).mp (hx2.symm.trans hx)
      subst e_x
      rw [hω]
      exact ⟨CR_rd hCR hSM (TN_0 ν _), congrFun hSM.2.1 _, TH_0 ν _, fun _ => by rw [hx9, hr9, hrb]⟩
    · exact absurd ⟨q, hq, hx⟩ hx2
  · obtain ⟨rfl, hx⟩ := hC
    have hr9 : r = nI 1 := by exact hk.2
    subst hr9
    rcases hM with ⟨q2, hq2, hx2, hrb, hω⟩ | ⟨hx2, hrb, hω⟩
    · exact absurd ⟨q2, hq2, hx2⟩ hx
    · rw [hω]
      exact ⟨CR_rd hCR hSM (TN_0 ν _), congrFun hSM.2.1 _, TH_0 ν _, fun z => absurd z (by decide)⟩
set_option maxHeartbeats 1000000 in
theorem j_tuning {g : Nat → Bool} {A : Nat × Nat → Nat} {μ : CM} {ν ω : MM} (hCR : CR (g, A, μ) ν) {kr cn : Nat} (hkr : kr < 8) (hc8 : cn ≤ 8) (hch : ν 0 1 = nI cn) (hHR : HR g μ kr cn (ν 5)) {x : Int32}  {v : Nat → Int32} (hv : v = ν 1) {r : Int32} {u : GM × (Nat → Int64)} {rb : Int32} (hC : (fun r u => (r = nI 0 ∧ ∃ x9 : Int32, (fun r u => ∃ q, q < ntV v ∧ x = nI q ∧ r = v (29 + 12 * q + 1) ∧ SM g A μ u) x9 u.1 ∧ u.2 0 = x9.toInt64) ∨ ∃ n9 : Nat, (fun n u => SM g A μ u ∧ ((n = 1 ∧ ¬ IX x (ntV v)))) n9 u.1 ∧ ((n9 = 1 ∧ r = nI 1))) r u) (hM : (fun r u => (∃ q, q < (ntV (ν 1)) ∧ x = nI q ∧ r = ν 1 (29 + 12 * q + 1) ∧ u = up1 ν 0 (upd (ν 0) 0 (nI 0))) ∨ (¬ IX x (ntV (ν 1)) ∧ r = nI 0 ∧ u = up1 ν 0 (upd (ν 0) 0 (nI 1)))) rb ω) : CR u.1 ω ∧ u.1.2.1 (0, 14) = A (0, 14) ∧ ω 0 0 = r ∧ (r = nI 0 → u.2 0 = rb.toInt64) := by
  subst hv
  obtain ⟨hVG, hR, hH, hS, hT, hL, hE, hW⟩ := id hCR
  have hn8 := hVG.1.2
  have hn4 := hVG.2.1.2
  rcases hC with ⟨rfl, x9, hC, hx9⟩ | ⟨n9, ⟨hSM, hC⟩, hk⟩
  · obtain ⟨q, hq, hx, hr9, hSM⟩ := hC
    rcases hM with ⟨q2, hq2, hx2, hrb, hω⟩ | ⟨hx2, hrb, hω⟩
    · have e_x : q2 = q := (nI_eq (by omega) (by omega)).mp (hx2.symm.trans hx)
      subst e_x
      rw [hω]
      exact ⟨CR_rd hCR hSM (TN_0 ν _), congrFun hSM.2.1 _, TH_0 ν _, fun _ => by rw [hx9, hr9, hrb]⟩
    · exact absurd ⟨q, hq, hx⟩ hx2
  · obtain ⟨rfl, hx⟩ := hC
    have hr9 : r = nI 1 := by exact hk.2
    subst hr9
    rcases hM with ⟨q2, hq2, hx2, hrb, hω⟩ | ⟨hx2, hrb, hω⟩
    · exact absurd ⟨q2, hq2, hx2⟩ hx
    · rw [hω]
      exact ⟨CR_rd hCR hSM (TN_0 ν _), congrFun hSM.2.1 _, TH_0 ν _, fun z => absurd z (by decide)⟩
set_option maxHeartbeats 1000000 in
theorem j_level {g : Nat → Bool} {A : Nat × Nat → Nat} {μ : CM} {ν ω : MM} (hCR : CR (g, A, μ) ν) {kr cn : Nat} (hkr : kr < 8) (hc8 : cn ≤ 8) (hch : ν 0 1 = nI cn) (hHR : HR g μ kr cn (ν 5)) {x : Int32}  {v : Nat → Int32} (hv : v = ν 1) {r : Int32} {u : GM × (Nat → Int64)} {rb : Int32} (hC : (fun r u => (r = nI 0 ∧ ∃ x9 : Int32, (fun r u => ∃ q, q < ntV v ∧ x = nI q ∧ r = v (29 + 12 * q + 2) ∧ SM g A μ u) x9 u.1 ∧ u.2 0 = x9.toInt64) ∨ ∃ n9 : Nat, (fun n u => SM g A μ u ∧ ((n = 1 ∧ ¬ IX x (ntV v)))) n9 u.1 ∧ ((n9 = 1 ∧ r = nI 1))) r u) (hM : (fun r u => (∃ q, q < (ntV (ν 1)) ∧ x = nI q ∧ r = ν 1 (29 + 12 * q + 2) ∧ u = up1 ν 0 (upd (ν 0) 0 (nI 0))) ∨ (¬ IX x (ntV (ν 1)) ∧ r = nI 0 ∧ u = up1 ν 0 (upd (ν 0) 0 (nI 1)))) rb ω) : CR u.1 ω ∧ u.1.2.1 (0, 14) = A (0, 14) ∧ ω 0 0 = r ∧ (r = nI 0 → u.2 0 = rb.toInt64) := by
  subst hv
  obtain ⟨hVG, hR, hH, hS, hT, hL, hE, hW⟩ := id hCR
  have hn8 := hVG.1.2
  have hn4 := hVG.2.1.2
  rcases hC with ⟨rfl, x9, hC, hx9⟩ | ⟨n9, ⟨hSM, hC⟩, hk⟩
  · obtain ⟨q, hq, hx, hr9, hSM⟩ := hC
    rcases hM with ⟨q2, hq2, hx2, hrb, hω⟩ | ⟨hx2, hrb, hω⟩
    · have e_x : q2 = q := (nI_eq (by omega) (by omega)).mp (hx2.symm.trans hx)
      subst e_x
      rw [hω]
      exact ⟨CR_rd hCR hSM (TN_0 ν _), congrFun hSM.2.1 _, TH_0 ν _, fun _ => by rw [hx9, hr9, hrb]⟩
    · exact absurd ⟨q, hq, hx⟩ hx2
  · obtain ⟨rfl, hx⟩ := hC
    have hr9 : r = nI 1 := by exact hk.2
    subst hr9
    rcases hM with ⟨q2, hq2, hx2, hrb, hω⟩ | ⟨hx2, hrb, hω⟩
    · exact absurd ⟨q2, hq2, hx2⟩ hx
    · rw [hω]
      exact ⟨CR_rd hCR hSM (TN_0 ν _), congrFun hSM.2.1 _, TH_0 ν _, fun z => absurd z (by decide)⟩
set_option maxHeartbeats 1000000 in
theorem j_frameCount {g : Nat → Bool} {A : Nat × Nat → Nat} {μ : CM} {ν ω : MM} (hCR : CR (g, A, μ) ν) {kr cn : Nat} (hkr : kr < 8) (hc8 : cn ≤ 8) (hch : ν 0 1 = nI cn) (hHR : HR g μ kr cn (ν 5)) {x : Int32}  {v : Nat → Int32} (hv : v = ν 1) {r : Int32} {u : GM × (Nat → Int64)} {rb : Int32} (hC : (fun r u => (r = nI 0 ∧ ∃ x9 : Int32, (fun r u => ∃ q, q < 4 ∧ x = nI q ∧ r = nI ((lnV v q + 7) / 8) ∧ SM g A μ u) x9 u.1 ∧ u.2 0 = x9.toInt64) ∨ ∃ n9 : Nat, (fun n u => SM g A μ u ∧ ((n = 1 ∧ ¬ IX x 4))) n9 u.1 ∧ ((n9 = 1 ∧ r = nI 1))) r u) (hM : (fun r u => (∃ q, q < 4 ∧ x = nI q ∧ r = nI (((lnV (ν 1)) q + 7) / 8) ∧ u = up1 ν 0 (upd (ν 0) 0 (nI 0))) ∨ (¬ IX x 4 ∧ r = nI 0 ∧ u = up1 ν 0 (upd (ν 0) 0 (nI 1)))) rb ω) : CR u.1 ω ∧ u.1.2.1 (0, 14) = A (0, 14) ∧ ω 0 0 = r ∧ (r = nI 0 → u.2 0 = rb.toInt64) := by
  subst hv
  obtain ⟨hVG, hR, hH, hS, hT, hL, hE, hW⟩ := id hCR
  have hn8 := hVG.1.2
  have hn4 := hVG.2.1.2
  rcases hC with ⟨rfl, x9, hC, hx9⟩ | ⟨n9, ⟨hSM, hC⟩, hk⟩
  · obtain ⟨q, hq, hx, hr9, hSM⟩ := hC
    rcases hM with ⟨q2, hq2, hx2, hrb, hω⟩ | ⟨hx2, hrb, hω⟩
    · have e_x : q2 = q := (nI_eq (by omega) (by omega)).mp (hx2.symm.trans hx)
      subst e_x
      rw [hω]
      exact ⟨CR_rd hCR hSM (TN_0 ν _), congrFun hSM.2.1 _, TH_0 ν _, fun _ => by rw [hx9, hr9, hrb]⟩
    · exact absurd ⟨q, hq, hx⟩ hx2
  · obtain ⟨rfl, hx⟩ := hC
    have hr9 : r = nI 1 := by exact hk.2
    subst hr9
    rcases hM with ⟨q2, hq2, hx2, hrb, hω⟩ | ⟨hx2, hrb, hω⟩
    · exact absurd ⟨q2, hq2, hx2⟩ hx
    · rw [hω]
      exact ⟨CR_rd hCR hSM (TN_0 ν _), congrFun hSM.2.1 _, TH_0 ν _, fun z => absurd z (by decide)⟩
set_option maxHeartbeats 1000000 in
theorem j_energy {g : Nat → Bool} {A : Nat × Nat → Nat} {μ : CM} {ν ω : MM} (hCR : CR (g, A, μ) ν) {kr cn : Nat} (hkr : kr < 8) (hc8 : cn ≤ 8) (hch : ν 0 1 = nI cn) (hHR : HR g μ kr cn (ν 5)) {x : Int32}  {v : Nat → Int32} (hv : v = ν 1) {r : Int32} {u : GM × (Nat → Int64)} {rb : Int64} (hC : (fun r u => (r = nI 0 ∧ ∃ x9 : Int64, (fun r u => ∃ q, q < 4 ∧ x = nI q ∧ r = sqS (flV v q (nfV v)) (lnV v q) ∧ SM g A μ u) x9 u.1 ∧ u.2 0 = x9) ∨ ∃ n9 : Nat, (fun n u => SM g A μ u ∧ ((n = 1 ∧ ¬ IX x 4))) n9 u.1 ∧ ((n9 = 1 ∧ r = nI 1))) r u) (hM : (fun r u => (¬ IX x 4 ∧ r = 0 ∧ u = up1 ν 0 (upd (ν 0) 0 (nI 1))) ∨ (∃ q, q < 4 ∧ x = nI q ∧ r = sqS (flV (ν 1) q (nfV (ν 1))) ((lnV (ν 1)) q) ∧ ∃ o2 g2 : Nat → Int32, u = up1 (up1 (up1 ν 0 (upd (ν 0) 0 (nI 0))) 6 o2) 7 g2)) rb ω) : CR u.1 ω ∧ u.1.2.1 (0, 14) = A (0, 14) ∧ ω 0 0 = r ∧ (r = nI 0 → u.2 0 = rb) := by
  subst hv
  obtain ⟨hVG, hR, hH, hS, hT, hL, hE, hW⟩ := id hCR
  have hn8 := hVG.1.2
  have hn4 := hVG.2.1.2
  rcases hC with ⟨rfl, x9, hC, hx9⟩ | ⟨n9, ⟨hSM, hC⟩, hk⟩
  · obtain ⟨q, hq, hx, hr9, hSM⟩ := hC
    rcases hM with ⟨hx2, hrb, hω⟩ | ⟨q2, hq2, hx2, hrb, hω⟩
    · exact absurd ⟨q, hq, hx⟩ hx2
    · have e_x : q2 = q := (nI_eq (by omega) (by omega)).mp (hx2.symm.trans hx)
      subst e_x
      obtain ⟨o2, g2, hω⟩ := hω
      rw [hω]
      exact ⟨CR_rd hCR hSM (TN_67 ν _ _ _), congrFun hSM.2.1 _, TH_67 ν _ _ _, fun _ => by rw [hx9, hr9, hrb]⟩
  · obtain ⟨rfl, hx⟩ := hC
    have hr9 : r = nI 1 := by exact hk.2
    subst hr9
    rcases hM with ⟨hx2, hrb, hω⟩ | ⟨q2, hq2, hx2, hrb, hω⟩
    · rw [hω]
      exact ⟨CR_rd hCR hSM (TN_0 ν _), congrFun hSM.2.1 _, TH_0 ν _, fun z => absurd z (by decide)⟩
    · exact absurd ⟨q2, hq2, hx2⟩ hx
set_option maxHeartbeats 1000000 in
theorem j_signChanges {g : Nat → Bool} {A : Nat × Nat → Nat} {μ : CM} {ν ω : MM} (hCR : CR (g, A, μ) ν) {kr cn : Nat} (hkr : kr < 8) (hc8 : cn ≤ 8) (hch : ν 0 1 = nI cn) (hHR : HR g μ kr cn (ν 5)) {x : Int32}  {v : Nat → Int32} (hv : v = ν 1) {r : Int32} {u : GM × (Nat → Int64)} {rb : Int32} (hC : (fun r u => (r = nI 0 ∧ ∃ x9 : Int32, (fun r u => ∃ q, q < 4 ∧ x = nI q ∧ r = nI (chgN (flV v q (nfV v)) (lnV v q)) ∧ SM g A μ u) x9 u.1 ∧ u.2 0 = x9.toInt64) ∨ ∃ n9 : Nat, (fun n u => SM g A μ u ∧ ((n = 1 ∧ ¬ IX x 4))) n9 u.1 ∧ ((n9 = 1 ∧ r = nI 1))) r u) (hM : (fun r u => (¬ IX x 4 ∧ r = nI 0 ∧ u = up1 ν 0 (upd (ν 0) 0 (nI 1))) ∨ (∃ q, q < 4 ∧ x = nI q ∧ r = nI (chgN (flV (ν 1) q (nfV (ν 1))) ((lnV (ν 1)) q)) ∧ ∃ o2 g2 : Nat → Int32, u = up1 (up1 (up1 ν 0 (upd (ν 0) 0 (nI 0))) 6 o2) 7 g2)) rb ω) : CR u.1 ω ∧ u.1.2.1 (0, 14) = A (0, 14) ∧ ω 0 0 = r ∧ (r = nI 0 → u.2 0 = rb.toInt64) := by
  subst hv
  obtain ⟨hVG, hR, hH, hS, hT, hL, hE, hW⟩ := id hCR
  have hn8 := hVG.1.2
  have hn4 := hVG.2.1.2
  rcases hC with ⟨rfl, x9, hC, hx9⟩ | ⟨n9, ⟨hSM, hC⟩, hk⟩
  · obtain ⟨q, hq, hx, hr9, hSM⟩ := hC
    rcases hM with ⟨hx2, hrb, hω⟩ | ⟨q2, hq2, hx2, hrb, hω⟩
    · exact absurd ⟨q, hq, hx⟩ hx2
    · have e_x : q2 = q := (nI_eq (by omega) (by omega)).mp (hx2.symm.trans hx)
      subst e_x
      obtain ⟨o2, g2, hω⟩ := hω
      rw [hω]
      exact ⟨CR_rd hCR hSM (TN_67 ν _ _ _), congrFun hSM.2.1 _, TH_67 ν _ _ _, fun _ => by rw [hx9, hr9, hrb]⟩
  · obtain ⟨rfl, hx⟩ := hC
    have hr9 : r = nI 1 := by exact hk.2
    subst hr9
    rcases hM with ⟨hx2, hrb, hω⟩ | ⟨q2, hq2, hx2, hrb, hω⟩
    · rw [hω]
      exact ⟨CR_rd hCR hSM (TN_0 ν _), congrFun hSM.2.1 _, TH_0 ν _, fun z => absurd z (by decide)⟩
    · exact absurd ⟨q2, hq2, hx2⟩ hx
set_option maxHeartbeats 1000000 in
theorem j_dropsFor {g : Nat → Bool} {A : Nat × Nat → Nat} {μ : CM} {ν ω : MM} (hCR : CR (g, A, μ) ν) {kr cn : Nat} (hkr : kr < 8) (hc8 : cn ≤ 8) (hch : ν 0 1 = nI cn) (hHR : HR g μ kr cn (ν 5)) {x : Int32}  {v : Nat → Int32} (hv : v = ν 1) {r : Int32} {u : GM × (Nat → Int64)} {rb : Int32} (hC : (fun r u => (r = nI 0 ∧ ∃ x9 : Int32, (fun r u => ∃ q, q < 4 ∧ x = nI q ∧ r = nI (((lnV v q + 7) / 8) - pourC v (ntV v) (ldV (flV v q (nfV v)) (lnV v q)) ((lnV v q + 7) / 8)) ∧ SM g A μ u) x9 u.1 ∧ u.2 0 = x9.toInt64) ∨ ∃ n9 : Nat, (fun n u => SM g A μ u ∧ ((n = 1 ∧ ¬ IX x 4))) n9 u.1 ∧ ((n9 = 1 ∧ r = nI 1))) r u) (hM : (fun r u => (¬ IX x 4 ∧ r = nI 0 ∧ u = up1 ν 0 (upd (ν 0) 0 (nI 1))) ∨ (∃ q, q < 4 ∧ x = nI q ∧ r = nI (((lnV (ν 1)) q + 7) / 8 - pourC (ν 1) (ntV (ν 1)) (ldV (flV (ν 1) q (nfV (ν 1))) ((lnV (ν 1)) q)) (((lnV (ν 1)) q + 7) / 8)) ∧ ∃ o2 g2 : Nat → Int32, u = up1 (up1 (up1 (up1 ν 0 (upd (ν 0) 0 (nI 0))) 4 (ν 1)) 6 o2) 7 g2)) rb ω) : CR u.1 ω ∧ u.1.2.1 (0, 14) = A (0, 14) ∧ ω 0 0 = r ∧ (r = nI 0 → u.2 0 = rb.toInt64) := by
  subst hv
  obtain ⟨hVG, hR, hH, hS, hT, hL, hE, hW⟩ := id hCR
  have hn8 := hVG.1.2
  have hn4 := hVG.2.1.2
  rcases hC with ⟨rfl, x9, hC, hx9⟩ | ⟨n9, ⟨hSM, hC⟩, hk⟩
  · obtain ⟨q, hq, hx, hr9, hSM⟩ := hC
    rcases hM with ⟨hx2, hrb, hω⟩ | ⟨q2, hq2, hx2, hrb, hω⟩
    · exact absurd ⟨q, hq, hx⟩ hx2
    · have e_x : q2 = q := (nI_eq (by omega) (by omega)).mp (hx2.symm.trans hx)
      subst e_x
      obtain ⟨o2, g2, hω⟩ := hω
      rw [hω]
      exact ⟨CR_rd hCR hSM (TN_467 ν _ _ _ _), congrFun hSM.2.1 _, TH_467 ν _ _ _ _, fun _ => by rw [hx9, hr9, hrb]⟩
  · obtain ⟨rfl, hx⟩ := hC
    have hr9 : r = nI 1 := by exact hk.2
    subst hr9
    rcases hM with ⟨hx2, hrb, hω⟩ | ⟨q2, hq2, hx2, hrb, hω⟩
    · rw [hω]
      exact ⟨CR_rd hCR hSM (TN_0 ν _), congrFun hSM.2.1 _, TH_0 ν _, fun z => absurd z (by decide)⟩
    · exact absurd ⟨q2, hq2, hx2⟩ hx
