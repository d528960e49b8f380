/-! the relation is kept -/
theorem TN_0 (ν : MM) (x : Int32) : TN ν (up1 ν 0 (upd (ν 0) 0 x)) :=
  ⟨fun k hk => by rw [up1_s, upd_o hk], up1_o (by decide), up1_o (by decide), up1_o (by decide), up1_o (by decide), up1_o (by decide), up1_o (by decide), up1_o (by decide)⟩
theorem TN_up {ν u : MM} (h : TN ν u) {i : Nat} (hi : i = 2 ∨ i = 4 ∨ i = 6 ∨ i = 7) (f : Nat → Int32) : TN ν (up1 u i f) := by
  obtain ⟨h0, h1, h3, h5, h8, h9, h11, h12⟩ := h
  refine ⟨fun k hk => ?_, ?_, ?_, ?_, ?_, ?_, ?_, ?_⟩ <;> rw [up1_o (by omega)]
  · exact h0 k hk
  all_goals assumption
theorem TN_mF (ν : MM) (k : Nat) : TN ν (mF ν k) := TN_up (TN_0 ν _) (Or.inl rfl) _
/-- what a change leaves of the model's memory -/
def MSX (ν : MM) (cn : Nat) (w : Nat → Int32) (u : MM) : Prop := (∀ k, k ≠ 0 → k ≠ 1 → u 0 k = ν 0 k) ∧ u 0 0 = nI 0 ∧ u 0 1 = nI (min (cn + 1) 8) ∧ u 1 = w ∧ u 3 = ν 3 ∧ u 5 = pushP (ν 5) cn (ν 1) ∧ u 8 = ν 8 ∧ u 9 = ν 9 ∧ u 11 = ν 11 ∧ u 12 = ν 12
theorem MSX_mS {ν : MM} {cn : Nat} (hc : cn ≤ 8) (w : Nat → Int32) : MSX ν cn w (mS ν cn w) := by
  have e : pushC cn = min (cn + 1) 8 := by
    unfold pushC
    split <;> omega
  refine ⟨fun k h0 h1 => ?_, ?_, ?_, ?_, ?_, ?_, ?_, ?_, ?_, ?_⟩ <;> unfold mS
  · rw [up1_o (by decide), up1_o (by decide), up1_o (by decide), up1_s, upd_o h1, upd_o h0]
  · rw [up1_o (by decide), up1_o (by decide), up1_o (by decide), up1_s, upd_o (by decide), upd_s]
  · rw [up1_o (by decide), up1_o (by decide), up1_o (by decide), up1_s, upd_s, e]
  · rw [up1_o (by decide), up1_s]
  · rw [up1_o (by decide), up1_o (by decide), up1_o (by decide), up1_o (by decide)]
  · rw [up1_s]
  all_goals rw [up1_o (by decide), up1_o (by decide), up1_o (by decide), up1_o (by decide)]
theorem MSX_up {ν u : MM} {cn : Nat} {w : Nat → Int32} (h : MSX ν cn w u) {i : Nat} (hi : i = 6 ∨ i = 7) (f : Nat → Int32) : MSX ν cn w (up1 u i f) := by
  obtain ⟨h0, h00, h01, h1, h3, h5, h8, h9, h11, h12⟩ := h
  refine ⟨fun k hk hk1 => ?_, ?_, ?_, ?_, ?_, ?_, ?_, ?_, ?_, ?_⟩ <;> rw [up1_o (by omega)]
  · exact h0 k hk hk1
  all_goals assumption
section CRC
variable {g : Nat → Bool} {μ u : CM} {ν ω : MM}
theorem CRs_c (h : CRs μ ν) (a : u 0 14 9 = μ 0 14 9) (b : ∀ o, o < 14 → u 2 o = μ 2 o) (c : ω 0 4 = ν 0 4) (d : ω 3 = ν 3) : CRs u ω := by
  obtain ⟨sv, h1, h2, h3, h4⟩ := h
  exact ⟨sv, c.trans h1, h2, a.trans h3, fun z => by rw [d]; exact ⟨(h4 z).1, RP_k (h4 z).2 b⟩⟩
theorem CRt_c (h : CRt μ ν) (a : u 0 22 1 = μ 0 22 1) (b : u 0 23 = μ 0 23) (c : ω 0 17 = ν 0 17) (d : ω 8 = ν 8) : CRt u ω := by
  obtain ⟨tn, t, h1, h2, h3, h4⟩ := h
  exact ⟨tn, t, c.trans h1, a.trans h2, h3, fun j hj => by rw [b, d]; exact h4 j hj⟩
theorem CRl_c (h : CRl μ ν) (a : u 0 26 = μ 0 26) (b : u 0 27 = μ 0 27) (c : ω 0 20 = ν 0 20) (d : ω 9 = ν 9) : CRl u ω := by
  obtain ⟨lN, h1, h2, h3, h4⟩ := h
  exact ⟨lN, c.trans h1, by rw [a]; exact h2, h3, fun j hj => by rw [b, d]; exact h4 j hj⟩
theorem CRe_c (h : CRe μ ν) (a : u 0 14 10 = μ 0 14 10) (b : u 0 14 11 = μ 0 14 11) (c : ω 0 2 = ν 0 2) (d : ω 0 3 = ν 0 3) : CRe u ω := by
  obtain ⟨h1, h2, h3, h4⟩ := h
  exact ⟨by rw [a, c]; exact h1, by rw [b, d]; exact h2, by rw [c]; exact h3, by rw [d]; exact h4⟩
theorem CRw_c (h : CRw ν) (a : ω 11 = ν 11) (b : ω 12 = ν 12) : CRw ω := ⟨by rw [a]; exact h.1, by rw [b]; exact h.2⟩
theorem CRh_c (h : CRh g μ ν) (a : u 0 15 = μ 0 15) (b : ∀ b o, 3 ≤ b → b < 11 → u b o = μ b o) (c : ω 0 1 = ν 0 1) (d : ω 5 = ν 5) : CRh g u ω := by
  obtain ⟨kr, cn, h1, h2, h3, h4, h5, h6⟩ := h
  exact ⟨kr, cn, h1, h2, by rw [a]; exact h3, by rw [a]; exact h4, c.trans h5, by rw [d]; exact HR_c h6 h2 b⟩
end CRC
variable {g : Nat → Bool} {A : Nat × Nat → Nat} {μ : CM} {ν ω : MM} {u : GM}
theorem SQ_at {μ u : CM} (h : SQ μ u) {o : Nat} (ho : o < 18 ∨ 22 ≤ o) : u 0 o = μ 0 o := h 0 o (by unfold scr; omega)
theorem CR_rd (h : CR (g, A, μ) ν) (hs : SM g A μ u) (hn : TN ν ω) : CR u ω := by
  obtain ⟨hVG, hR, hH, hS, hT, hL, hE, hW⟩ := h
  obtain ⟨h0, h1, h3, h5, h8, h9, h11, h12⟩ := hn
  obtain ⟨e1, e2, hq⟩ := hs
  have hrow : ∀ b o, b < 11 → o < 14 → u.2.2 b o = μ b o := fun b o hb ho => hq b o (by unfold scr; omega)
  have hrw : ∀ b o, 3 ≤ b → b < 11 → u.2.2 b o = μ b o := fun b o hb ho => hq b o (by unfold scr; omega)
  refine ⟨by rw [h1]; exact hVG, by rw [h1]; exact RP_k hR (fun o ho => hrow 0 o (by omega) ho), ?_, CRs_c hS (by rw [SQ_at hq (by omega)]) (fun o ho => hrow 2 o (by omega) ho) (h0 _ (by decide)) h3, CRt_c hT (by rw [SQ_at hq (by omega)]) (SQ_at hq (by omega)) (h0 _ (by decide)) h8, CRl_c hL (SQ_at hq (by omega)) (SQ_at hq (by omega)) (h0 _ (by decide)) h9, CRe_c hE (by rw [SQ_at hq (by omega)]) (by rw [SQ_at hq (by omega)]) (h0 _ (by decide)) (h0 _ (by decide)), CRw_c hW h11 h12⟩
  rw [e1]
  exact CRh_c hH (SQ_at hq (by omega)) hrw (h0 _ (by decide)) h5
theorem CR_chg {kr cn : Nat} {w : Nat → Int32} (hVG : VG (ν 1)) (hkr : kr < 8) (hc8 : cn ≤ 8) (hHR : HR g μ kr cn (ν 5)) (hS : CRs μ ν) (hT : CRt μ ν) (hL : CRl μ ν) (hE : CRe μ ν) (hW : CRw ν) (hw : VG w) (hc : CHG g A μ kr cn (ν 1) w u) (hm : MSX ν cn w ω) : CR u ω := by
  obtain ⟨h0, h00, h01, h1, h3, h5, h8, h9, h11, h12⟩ := hm
  obtain ⟨e1, e2, hR, hB, hq, h15, h16⟩ := hc
  have at0 : ∀ o, o = 14 ∨ (16 ≤ o ∧ o < 18) ∨ 22 ≤ o → u.2.2 0 o = μ 0 o := fun o ho => hq 0 o (by omega) (by omega) (by unfold scr; omega)
  refine ⟨by rw [h1]; exact hw, by rw [h1]; exact hR, ⟨(kr + 1) % 8, min (cn + 1) 8, by omega, by omega, h15, h16, h01, ?_⟩, CRs_c hS (by rw [at0 14 (by omega)]) (fun o ho => hq 2 o (by omega) (by omega) (by unfold scr; omega)) (h0 _ (by decide) (by decide)) h3, CRt_c hT (by rw [at0 22 (by omega)]) (at0 23 (by omega)) (h0 _ (by decide) (by decide)) h8, CRl_c hL (at0 26 (by omega)) (at0 27 (by omega)) (h0 _ (by decide) (by decide)) h9, CRe_c hE (by rw [at0 14 (by omega)]) (by rw [at0 14 (by omega)]) (h0 _ (by decide) (by decide)) (h0 _ (by decide) (by decide)), CRw_c hW h11 h12⟩
  rw [e1, h5]
  exact HR_push hHR hkr hc8 hVG hB (fun b o h3 h4 h5 => hq b o h5 (by omega) (by unfold scr; omega))
/-- undo -/
theorem CR_und {kr cn : Nat} {w : Nat → Int32} (hkr : kr < 8) (hc8 : cn ≤ 8) (hHR : HR g μ kr cn (ν 5)) (hS : CRs μ ν) (hT : CRt μ ν) (hL : CRl μ ν) (hE : CRe μ ν) (hW : CRw ν) (hw : VG w) (hwk : ∀ k, k < 1357 → ν 5 ((cn - 1) * 1357 + k) = w k)
    (e1 : u.1 = g) (hq : ∀ b o, ¬ (b = 0 ∧ (o < 14 ∨ o = 15)) → u.2.2 b o = μ b o) (hR : RP (u.2.2 0) w) (h15 : u.2.2 0 15 1 = nI ((kr + 8 - 1) % 8)) (h16 : u.2.2 0 15 2 = nI (cn - 1)) (hω : ω = up1 (up1 ν 0 (upd (upd (ν 0) 0 (nI 0)) 1 (nI (cn - 1)))) 1 (cpR 1357 (fun k => ν 5 ((cn - 1) * 1357 + k)) (ν 1))) : CR u ω := by
  have h1 : ω 1 = cpR 1357 (fun k => ν 5 ((cn - 1) * 1357 + k)) (ν 1) := by rw [hω, up1_s]
  have ho : ∀ j, j ≠ 0 → j ≠ 1 → ω j = ν j := fun j h0 h1 => by rw [hω, up1_o h1, up1_o h0]
  have h0 : ∀ k, k ≠ 0 → k ≠ 1 → ω 0 k = ν 0 k := fun k a b => by rw [hω, up1_o (by decide), up1_s, upd_o b, upd_o a]
  have h01 : ω 0 1 = nI (cn - 1) := by rw [hω, up1_o (by decide), up1_s, upd_s]
  have hk : ∀ j, j < 1357 → ω 1 j = w j := fun j hj => by
    rw [h1]
    simp only [cpR]
    rw [if_pos hj]
    exact hwk j hj
  refine ⟨VG_k hw hk, RP_kv hR hw hk, ⟨(kr + 8 - 1) % 8, cn - 1, by omega, by omega, h15, h16, h01, ?_⟩, CRs_c hS (by rw [hq 0 14 (by omega)]) (fun o ho => hq 2 o (by omega)) (h0 _ (by decide) (by decide)) (ho 3 (by decide) (by decide)), CRt_c hT (by rw [hq 0 22 (by omega)]) (hq 0 23 (by omega)) (h0 _ (by decide) (by decide)) (ho 8 (by decide) (by decide)), CRl_c hL (hq 0 26 (by omega)) (hq 0 27 (by omega)) (h0 _ (by decide) (by decide)) (ho 9 (by decide) (by decide)), CRe_c hE (by rw [hq 0 14 (by omega)]) (by rw [hq 0 14 (by omega)]) (h0 _ (by decide) (by decide)) (h0 _ (by decide) (by decide)), CRw_c hW (ho 11 (by decide) (by decide)) (ho 12 (by decide) (by decide))⟩
  rw [e1, ho 5 (by decide) (by decide)]
  exact HR_pop hHR hkr hc8 (fun b o h3 h4 => hq b o (by omega))
theorem CR_sav (h : CR (g, A, μ) ν) (e1 : u.1 = g) (hR2 : RP (u.2.2 2) (ν 1)) (hq : ∀ b o, b ≠ 2 → ¬ (b = 0 ∧ o = 14) → u.2.2 b o = μ b o) (h14 : u.2.2 0 14 = upd (μ 0 14) 9 (nI 1)) (hω : ω = up1 (up1 ν 0 (upd (upd (ν 0) 0 (nI 0)) 4 (nI 1))) 3 (ν 1)) : CR u ω := by
  obtain ⟨hVG, hR, hH, hS, hT, hL, hE, hW⟩ := h
  have h3 : ω 3 = ν 1 := by rw [hω, up1_s]
  have ho : ∀ j, j ≠ 0 → j ≠ 3 → ω j = ν j := fun j h0 h1 => by rw [hω, up1_o h1, up1_o h0]
  have h0 : ∀ k, k ≠ 0 → k ≠ 4 → ω 0 k = ν 0 k := fun k a b => by rw [hω, up1_o (by decide), up1_s, upd_o b, upd_o a]
  have h04 : ω 0 4 = nI 1 := by rw [hω, up1_o (by decide), up1_s, upd_s]
  have e := ho 1 (by decide) (by decide)
  refine ⟨by rw [e]; exact hVG, by rw [e]; exact RP_k hR (fun o ho => hq 0 o (by decide) (by omega)), ?_, ⟨1, h04, Nat.le_refl _, by rw [h14, upd_s], fun _ => by rw [h3]; exact ⟨hVG, hR2⟩⟩, CRt_c hT (by rw [hq 0 22 (by decide) (by omega)]) (hq 0 23 (by decide) (by omega)) (h0 _ (by decide) (by decide)) (ho 8 (by decide) (by decide)), CRl_c hL (hq 0 26 (by decide) (by omega)) (hq 0 27 (by decide) (by omega)) (h0 _ (by decide) (by decide)) (ho 9 (by decide) (by decide)), CRe_c hE (by rw [h14, upd_o (by decide)]) (by rw [h14, upd_o (by decide)]) (h0 _ (by decide) (by decide)) (h0 _ (by decide) (by decide)), CRw_c hW (ho 11 (by decide) (by decide)) (ho 12 (by decide) (by decide))⟩
  rw [e1]
  exact CRh_c hH (hq 0 15 (by decide) (by omega)) (fun b o h3 h4 => hq b o (by omega) (by omega)) (h0 _ (by decide) (by decide)) (ho 5 (by decide) (by decide))
theorem CR_res {kr : Nat} (hkr : kr < 8) (h15o : μ 0 15 1 = nI kr) (hS : CRs μ ν) (hT : CRt μ ν) (hL : CRl μ ν) (hE : CRe μ ν) (hW : CRw ν) (hV3 : VG (ν 3)) (hR : RP (u.2.2 0) (ν 3)) (hq : ∀ b o, ¬ (b = 0 ∧ (o < 14 ∨ o = 15)) → u.2.2 b o = μ b o) (h15 : u.2.2 0 15 = upd (μ 0 15) 2 (nI 0)) (hω : ω = up1 (up1 ν 0 (upd (upd (ν 0) 0 (nI 0)) 1 (nI 0))) 1 (ν 3)) : CR u ω := by
  have h1 : ω 1 = ν 3 := by rw [hω, up1_s]
  have ho : ∀ j, j ≠ 0 → j ≠ 1 → ω j = ν j := fun j h0 h1 => by rw [hω, up1_o h1, up1_o h0]
  have h0 : ∀ k, k ≠ 0 → k ≠ 1 → ω 0 k = ν 0 k := fun k a b => by rw [hω, up1_o (by decide), up1_s, upd_o b, upd_o a]
  have h01 : ω 0 1 = nI 0 := by rw [hω, up1_o (by decide), up1_s, upd_s]
  exact ⟨by rw [h1]; exact hV3, by rw [h1]; exact hR, ⟨kr, 0, hkr, by decide, by rw [h15, upd_o (by decide)]; exact h15o, by rw [h15, upd_s], h01, fun i hi => absurd hi (Nat.not_lt_zero _)⟩, CRs_c hS (by rw [hq 0 14 (by omega)]) (fun o ho => hq 2 o (by omega)) (h0 _ (by decide) (by decide)) (ho 3 (by decide) (by decide)), CRt_c hT (by rw [hq 0 22 (by omega)]) (hq 0 23 (by omega)) (h0 _ (by decide) (by decide)) (ho 8 (by decide) (by decide)), CRl_c hL (hq 0 26 (by omega)) (hq 0 27 (by omega)) (h0 _ (by decide) (by decide)) (ho 9 (by decide) (by decide)), CRe_c hE (by rw [hq 0 14 (by omega)]) (by rw [hq 0 14 (by omega)]) (h0 _ (by decide) (by decide)) (h0 _ (by decide) (by decide)), CRw_c hW (ho 11 (by decide) (by decide)) (ho 12 (by decide) (by decide))⟩
