/-! the relation is kept: text, line, runs -/
variable {g : Nat → Bool} {A : Nat × Nat → Nat} {μ : CM} {ν ω : MM} {u : GM}
theorem CR_app (h : CR (g, A, μ) ν) {tn : Nat} (hn1 : ν 0 17 = nI tn) (h6 : tn < 60) {x : Int32} (hx : nI 32 ≤ x ∧ x ≤ nI 126) (hu : u = (g, A, up2 (up2 μ 0 23 (upd (μ 0 23) tn x)) 0 22 (upd (μ 0 22) 1 (nI (tn + 1))))) (hω : ω = up1 (up1 ν 0 (upd (upd (ν 0) 0 (nI 0)) 17 (nI (tn + 1)))) 8 (upd (ν 8) tn x)) : CR u ω := by
  obtain ⟨hVG, hR, hH, hS, hT, hL, hE, hW⟩ := h
  obtain ⟨tn2, t, t1, t2, t3, t4⟩ := hT
  have en : tn2 = tn := (nI_eq (by omega) (by omega)).mp (t1.symm.trans hn1)
  subst en
  obtain ⟨a, ha1, ha2, rfl⟩ := (I_rng2 (by decide) (by decide)).mp hx
  subst hu
  have hq : ∀ b o, ¬ (b = 0 ∧ (o = 22 ∨ o = 23)) → up2 (up2 μ 0 23 (upd (μ 0 23) tn2 (nI a))) 0 22 (upd (μ 0 22) 1 (nI (tn2 + 1))) b o = μ b o := fun b o h => by rw [up2_n (by omega), up2_n (by omega)]
  have ho : ∀ j, j ≠ 0 → j ≠ 8 → ω j = ν j := fun j h0 h1 => by rw [hω, up1_o h1, up1_o h0]
  have h0 : ∀ k, k ≠ 0 → k ≠ 17 → ω 0 k = ν 0 k := fun k a b => by rw [hω, up1_o (by decide), up1_s, upd_o b, upd_o a]
  have h17 : ω 0 17 = nI (tn2 + 1) := by rw [hω, up1_o (by decide), up1_s, upd_s]
  have h8 : ω 8 = upd (ν 8) tn2 (nI a) := by rw [hω, up1_s]
  have e := ho 1 (by decide) (by decide)
  refine ⟨by rw [e]; exact hVG, by rw [e]; exact RP_k hR (fun o ho => hq 0 o (by omega)), CRh_c hH (hq 0 15 (by omega)) (fun b o h3 h4 => hq b o (by omega)) (h0 _ (by decide) (by decide)) (ho 5 (by decide) (by decide)), CRs_c hS (congrFun (hq 0 14 (by omega)) 9) (fun o ho => hq 2 o (by omega)) (h0 _ (by decide) (by decide)) (ho 3 (by decide) (by decide)), ⟨tn2 + 1, fun j => if j = tn2 then a else t j, h17, ?_, by omega, fun j hj => ?_⟩, CRl_c hL (hq 0 26 (by omega)) (hq 0 27 (by omega)) (h0 _ (by decide) (by decide)) (ho 9 (by decide) (by decide)), CRe_c hE (congrFun (hq 0 14 (by omega)) 10) (congrFun (hq 0 14 (by omega)) 11) (h0 _ (by decide) (by decide)) (h0 _ (by decide) (by decide)), CRw_c hW (ho 11 (by decide) (by decide)) (ho 12 (by decide) (by decide))⟩
  · show up2 (up2 μ 0 23 (upd (μ 0 23) tn2 (nI a))) 0 22 (upd (μ 0 22) 1 (nI (tn2 + 1))) 0 22 1 = _
    rw [up2_s, upd_s]
  · show ω 8 j = _ ∧ up2 (up2 μ 0 23 (upd (μ 0 23) tn2 (nI a))) 0 22 (upd (μ 0 22) 1 (nI (tn2 + 1))) 0 23 j = _ ∧ _
    rw [h8, up2_o (o2 := 23) (o := 22) (by decide), up2_s]
    by_cases hj2 : j = tn2
    · subst hj2
      simp only [if_pos]
      rw [upd_s, upd_s]
      exact ⟨rfl, rfl, by omega⟩
    · rw [upd_o hj2, upd_o hj2]
      simp only [if_neg hj2]
      exact t4 j (by omega)
theorem CR_line (h : CR (g, A, μ) ν) {wc wm : WL} (hwe : WE wm wc) (hwc : WC wm) (h80 : wm.2 ≤ 80) (hu : u = (g, A, LK μ wc)) (hω : ω = LM (up1 ν 0 (upd (ν 0) 0 (nI 0))) wm) : CR u ω := by
  obtain ⟨hVG, hR, hH, hS, hT, hL, hE, hW⟩ := h
  subst hu
  have hq : ∀ b o, ¬ (b = 0 ∧ (o = 26 ∨ o = 27)) → LK μ wc b o = μ b o := fun b o h => LK_o h
  have ho : ∀ j, j ≠ 0 → j ≠ 9 → ω j = ν j := fun j h0 h1 => by rw [hω]; unfold LM; rw [up1_o h1, up1_o h0, up1_o h0]
  have h0 : ∀ k, k ≠ 0 → k ≠ 20 → ω 0 k = ν 0 k := fun k a b => by rw [hω]; unfold LM; rw [up1_o (by decide), up1_s, upd_o b, up1_s, upd_o a]
  have h20 : ω 0 20 = nI wm.2 := by rw [hω]; exact LM_n _ _
  have h9 : ω 9 = wm.1 := by rw [hω]; unfold LM; rw [up1_s]
  have e := ho 1 (by decide) (by decide)
  exact ⟨by rw [e]; exact hVG, by rw [e]; exact RP_k hR (fun o ho => hq 0 o (by omega)), CRh_c hH (hq 0 15 (by omega)) (fun b o h3 h4 => hq b o (by omega)) (h0 _ (by decide) (by decide)) (ho 5 (by decide) (by decide)), CRs_c hS (congrFun (hq 0 14 (by omega)) 9) (fun o ho => hq 2 o (by omega)) (h0 _ (by decide) (by decide)) (ho 3 (by decide) (by decide)), CRt_c hT (congrFun (hq 0 22 (by omega)) 1) (hq 0 23 (by omega)) (h0 _ (by decide) (by decide)) (ho 8 (by decide) (by decide)), ⟨wm.2, h20, by rw [hwe.1]; exact LK_n μ wc, h80, fun j hj => by rw [h9]; exact ⟨(hwe.2 j hj).trans (congrFun (LK_r μ wc).symm j), hwc j hj⟩⟩, CRe_c hE (congrFun (hq 0 14 (by omega)) 10) (congrFun (hq 0 14 (by omega)) 11) (h0 _ (by decide) (by decide)) (h0 _ (by decide) (by decide)), CRw_c hW (ho 11 (by decide) (by decide)) (ho 12 (by decide) (by decide))⟩
/-- a run that fails -/
theorem CR_rn1 (h : CR (g, A, μ) ν) {th : Nat} {er fa : Int32} (hr : RUF g A μ u) (h9 : u.2.2 0 14 9 = μ 0 14 9) (h10 : u.2.2 0 14 10 = er) (h11 : u.2.2 0 14 11 = fa) (he : EP er) (hf : EP fa) (hω : RU ν ω th (ν 0 1) er fa (ν 5) (ν 1)) : CR u ω := by
  obtain ⟨hVG, hR, hH, hS, hT, hL, hE, hW⟩ := h
  obtain ⟨e1, e2, hq, h22⟩ := hr
  obtain ⟨m0, m1, m2, m3, m4, m17, m20, n1, n3, n5, n8, n9, n11, n12⟩ := hω
  have hrow : ∀ b o, b ≠ 1 → b < 11 → b ≠ 0 → u.2.2 b o = μ b o := fun b o h1 h2 h3 => hq b o h1 (by omega) (by unfold scr; omega)
  have at0 : ∀ o, o < 14 ∨ o = 15 ∨ o = 23 ∨ 26 ≤ o → u.2.2 0 o = μ 0 o := fun o ho => hq 0 o (by decide) (by omega) (by unfold scr; omega)
  refine ⟨by rw [n1]; exact hVG, by rw [n1]; exact RP_k hR (fun o ho => at0 o (by omega)), ?_, CRs_c hS h9 (fun o ho => hrow 2 o (by decide) (by decide) (by decide)) m4 n3, ⟨0, fun _ => 0, m17, h22, by decide, fun j hj => absurd hj (Nat.not_lt_zero _)⟩, CRl_c hL (at0 26 (by omega)) (at0 27 (by omega)) m20 n9, ⟨by rw [h10, m2], by rw [h11, m3], by rw [m2]; exact he, by rw [m3]; exact hf⟩, CRw_c hW n11 n12⟩
  rw [e1]
  exact CRh_c hH (at0 15 (by omega)) (fun b o h3 h4 => hrow b o (by omega) h4 (by omega)) m1 n5
/-- a run that goes through -/
theorem CR_rn3 {kr cn : Nat} {w : Nat → Int32} (hVG : VG (ν 1)) (hkr : kr < 8) (hc8 : cn ≤ 8) (hHR : HR g μ kr cn (ν 5)) (hS : CRs μ ν) (hL : CRl μ ν) (hE : CRe μ ν) (hW : CRw ν) (hw : VG w)
    (e1 : u.1 = gS g kr) (hR : RP (u.2.2 0) w) (hB : RP (u.2.2 (kr + 3)) (ν 1)) (hq : ∀ b o, b ≠ kr + 3 → b ≠ 1 → ¬ (b = 0 ∧ (o < 14 ∨ o = 15 ∨ o = 22 ∨ o = 24 ∨ o = 25)) → ¬ scr b o → u.2.2 b o = μ b o) (h22 : u.2.2 0 22 1 = nI 0) (h15 : u.2.2 0 15 1 = nI ((kr + 1) % 8)) (h16 : u.2.2 0 15 2 = nI (min (cn + 1) 8)) (hω : RU ν ω 0 (nI (pushC cn)) (ν 0 2) (ν 0 3) (pushP (ν 5) cn (ν 1)) w) : CR u ω := by
  obtain ⟨m0, m1, m2, m3, m4, m17, m20, n1, n3, n5, n8, n9, n11, n12⟩ := hω
  have e : pushC cn = min (cn + 1) 8 := by
    unfold pushC
    split <;> omega
  have at0 : ∀ o, o = 14 ∨ 26 ≤ o → u.2.2 0 o = μ 0 o := fun o ho => hq 0 o (by omega) (by decide) (by omega) (by unfold scr; omega)
  refine ⟨by rw [n1]; exact hw, by rw [n1]; exact hR, ⟨(kr + 1) % 8, min (cn + 1) 8, by omega, by omega, h15, h16, by rw [m1, e], ?_⟩, CRs_c hS (by rw [at0 14 (by omega)]) (fun o ho => hq 2 o (by omega) (by decide) (by omega) (by unfold scr; omega)) m4 n3, ⟨0, fun _ => 0, m17, h22, by decide, fun j hj => absurd hj (Nat.not_lt_zero _)⟩, CRl_c hL (at0 26 (by omega)) (at0 27 (by omega)) m20 n9, CRe_c hE (by rw [at0 14 (by omega)]) (by rw [at0 14 (by omega)]) m2 m3, CRw_c hW n11 n12⟩
  rw [e1, n5]
  exact HR_push hHR hkr hc8 hVG hB (fun b o h3 h4 h5 => hq b o h5 (by omega) (by omega) (by unfold scr; omega))
