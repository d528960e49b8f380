set_option maxHeartbeats 4000000 in
set_option maxRecDepth 100000 in
theorem t_X9_addFilter (l : Launch) (hl0 : l.stackTraces = false) {Z : ZT} (hZ : zOK Z) (hZX : ZX Z) (A : Nat × Nat → Nat) (g : Nat → Bool) (μ : CM) (sz : Nat) {v : Nat → Int32} (hVG : VG v) (hR : RP (μ 0) v) {kr cn : Nat} (hkr : kr < 8) (hk15 : μ 0 15 1 = nI kr) (hcn : μ 0 15 2 = nI cn) (hc8 : cn ≤ 8) (k x : Int32) : XVi l yX9_addFilter cX9_addFilter 3 (some .int) 7 15 1376 [.ref (A (0, 14)), .int k, .int x] Z (ids g) A (cE Z A g μ) sz (fun r u => KP k x ∧ nfV v < 8 ∧ r = nI (nfV v + 1) ∧ CHG g A μ kr cn v (insV v (nfV v) (nfV v) k x) u) (fun n u => SM g A μ u ∧ ((n = 2 ∧ ¬ KP k x) ∨ (n = 3 ∧ KP k x ∧ ¬ nfV v < 8))) := by
  refine x_met (E := (cE Z A g μ)) (by decide +kernel) (Nat.le_of_ble_eq_true rfl) ?_
  intro p e s m below meth c ls S hr hlk hnt hsz hW hl
  have hxe := S.1
  have hcd := S.2.1
  subst hsz
  have hl : lv_has ls 3 [(0, .ref (A (0, 14))), (1, .int k), (2, .int x)] := hl
  refine lv_aload_n hxe hcd dX9_addFilter_0 rfl (lv_at hl 0 rfl) ?_
  refine gf_X9_10 S hW dX9_addFilter_1 ?_
  refine gf_X9_72 S hW sB_0 dX9_addFilter_4 ?_
  refine lv_iload_n hxe hcd dX9_addFilter_7 rfl (lv_at hl 1 rfl) ?_
  refine lv_iload_n hxe hcd dX9_addFilter_8 rfl (lv_at hl 2 rfl) ?_
  refine r_calli0 (r_runV hZ S hW (As := [.int k, .int x]) (rest := []) (t_X0_faultOfNewFilter l hZ A g μ s.heap.size sB_0 (nf := nfV v) (RP_c hR hVG) (hVG).1.2 k x) k_X9_76 (r_recv hW (x := (0, 1)) (in_s sB_0 (by decide)) rfl rfl) (hl.1) rfl rfl (Nat.le_of_ble_eq_true rfl) ⟨Nat.le_of_ble_eq_true rfl, Nat.le_of_ble_eq_true rfl⟩ ⟨Nat.le_of_ble_eq_true rfl, Nat.le_of_ble_eq_true rfl⟩ dX9_addFilter_9) hW (fun r9 H locs hp9 hW => ?_)
  rcases hp9 with ⟨rfl, hk, h8⟩ | ⟨rfl, hk⟩ | ⟨rfl, hk, h8⟩
  · obtain ⟨a, ha9, rfl⟩ := KP_nat hk
    have hn8 := hVG.1.2
    refine r_callv0 (r_runS hZ S hW (As := [.int (nI 0)]) (rest := []) (t_tf0 l hZ (ids g) A (cE Z A g μ) H.size) k_X9_82 hl.1 rfl rfl (Nat.le_of_ble_eq_true rfl) ⟨(Nat.le_of_ble_eq_true rfl), (Nat.le_of_ble_eq_true rfl)⟩ ⟨(Nat.le_of_ble_eq_true rfl), (Nat.le_of_ble_eq_true rfl)⟩ dX9_addFilter_12) hW (fun H locs hW => ?_)
    refine lv_aload_n hxe hcd dX9_addFilter_15 rfl (lv_at hl 0 rfl) ?_
    refine gf_X9_25 S hW dX9_addFilter_16 ?_
    refine lv_aload_n hxe hcd dX9_addFilter_19 rfl (lv_at hl 0 rfl) ?_
    refine gf_X9_10 S hW dX9_addFilter_20 ?_
    refine r_callvG (r_runV hZ S hW (As := [.ref (A (0, 0))]) (rest := []) (t_X2_push l hZ A g μ H.size hkr hk15 hcn hc8) k_X9_86 (r_recv hW (x := (0, 15)) (in_r (by decide) (by decide)) rfl rfl) hl.1 rfl rfl (Nat.le_of_ble_eq_true rfl) ⟨(Nat.le_of_ble_eq_true rfl), (Nat.le_of_ble_eq_true rfl)⟩ ⟨(Nat.le_of_ble_eq_true rfl), (Nat.le_of_ble_eq_true rfl)⟩ dX9_addFilter_23) hW (fun u H locs hp hW => ?_)
    obtain ⟨g, A, μ⟩ := u
    obtain ⟨hg1, hA1, hm1, hk1n, hcnn, hRB⟩ := hp
    simp only at hg1 hA1 hm1 hk1n hcnn hRB
    have hW : wX Z (ids g) A (cE Z A g μ) _ s H locs := hW
    have hRB := hRB v hVG hR
    have hR : RP (μ 0) v := RP_k hR (fun o ho => hm1 0 o (by omega) (by omega))
    have hl : lv_has ls 3 [(0, .ref (A (0, 14))), (1, .int k), (2, .int (nI a))] := by
      rw [hA1 _ (in_r (by decide) (by decide))]
      exact hl
    refine lv_aload_n hxe hcd dX9_addFilter_26 rfl (lv_at hl 0 rfl) ?_
    refine gf_X9_10 S hW dX9_addFilter_27 ?_
    refine gf_X9_72 S hW sB_0 dX9_addFilter_30 ?_
    refine lv_aload_n hxe hcd dX9_addFilter_33 rfl (lv_at hl 0 rfl) ?_
    refine gf_X9_10 S hW dX9_addFilter_34 ?_
    refine gf_X9_72 S hW sB_0 dX9_addFilter_37 ?_
    refine gf_X9_90 S hW sB_0 dX9_addFilter_40 ?_
    refine r_as (y := (nI (nfV v))) (RP_c hR hVG) ?_
    refine lv_iload_n hxe hcd dX9_addFilter_43 rfl (lv_at hl 1 rfl) ?_
    refine lv_iload_n hxe hcd dX9_addFilter_44 rfl (lv_at hl 2 rfl) ?_
    refine r_calli (F := (cE Z A g)) (r_runV hZ S hW (As := [.int (nI (nfV v)), .int k, .int (nI a)]) (rest := []) (t_X0_putFilter l hZ A g μ H.size sB_0 (nf := nfV v) (q := (nfV v)) (RP_c hR hVG) (by omega) (by omega) k (nI a)) k_X9_93 (r_recv hW (x := (0, 1)) (in_s sB_0 (by decide)) rfl rfl) (hl.1) rfl rfl (Nat.le_of_ble_eq_true rfl) ⟨Nat.le_of_ble_eq_true rfl, Nat.le_of_ble_eq_true rfl⟩ ⟨Nat.le_of_ble_eq_true rfl, Nat.le_of_ble_eq_true rfl⟩ dX9_addFilter_45) hW (fun r45 u45 H locs hp45 hW => ?_)
    obtain ⟨hp45, hp45m⟩ := hp45
    have hp45 := hp45.symm
    subst hp45
    have hp45m := hp45m.symm
    subst hp45m
    refine x_iret S hr hlk (Nat.le_of_ble_eq_true rfl) (Nat.le_of_ble_eq_true rfl) (g, A, up2 (chM μ 0 (insR (μ 0 2) (nfV v) (nfV v) k) (insR (μ 0 3) (nfV v) (nfV v) (nI a))) 0 1 (upd (μ 0 1) 2 (nI (nfV v + 1)))) hW ?_ dX9_addFilter_48
    exact ⟨hk, h8, rfl, CHG_of hkr hg1 hA1 hm1 hk1n hcnn hRB (RP_ins hR hVG (Nat.le_refl _) h8 hk ha9 (by simp [chM, up2_rb, upd_rd]) (by simp [chM, up2_rb, upd_rd]) (by simp [chM, up2_rb, upd_rd]) (fun o ho1 ho2 => by simp only [chM, up2_rb]; rw [if_neg (by omega), if_neg (by omega), if_neg (by omega)])) (by repeat (first | exact SQb_rfl _ _ | refine SQb_up ?_ (by decide) _ | exact SQb_SQ (SQ_18 _ _ _)))⟩
  · exact x_tf hZ S hnt hl.1 hlk (g, A, μ) hW (n := 2) (t_tf2 l hl0 hZ hZX _ _ _ _) ⟨⟨rfl, rfl, (by repeat (first | exact SQ_rfl _ | exact SQ_18 _ _ _ | exact SQ_20 _ _ _ _ | exact hsq | (refine SQ_up ?_ (by first | exact Or.inl rfl | exact Or.inr ⟨rfl, by decide, by decide⟩) _)))⟩, Or.inl ⟨rfl, hk⟩⟩ (by decide) ⟨(Nat.le_of_ble_eq_true rfl), (Nat.le_of_ble_eq_true rfl)⟩ (Nat.le_of_ble_eq_true rfl) (Nat.le_of_ble_eq_true rfl) (Nat.le_of_ble_eq_true rfl) (Nat.le_of_ble_eq_true rfl) dX9_addFilter_12
  · exact x_tf hZ S hnt hl.1 hlk (g, A, μ) hW (n := 3) (t_tf3 l hl0 hZ hZX _ _ _ _) ⟨⟨rfl, rfl, (by repeat (first | exact SQ_rfl _ | exact SQ_18 _ _ _ | exact SQ_20 _ _ _ _ | exact hsq | (refine SQ_up ?_ (by first | exact Or.inl rfl | exact Or.inr ⟨rfl, by decide, by decide⟩) _)))⟩, Or.inr ⟨rfl, hk, h8⟩⟩ (by decide) ⟨(Nat.le_of_ble_eq_true rfl), (Nat.le_of_ble_eq_true rfl)⟩ (Nat.le_of_ble_eq_true rfl) (Nat.le_of_ble_eq_true rfl) (Nat.le_of_ble_eq_true rfl) (Nat.le_of_ble_eq_true rfl) dX9_addFilter_12
set_option maxHeartbeats 4000000 in
set_option maxRecDepth 100000 in
theorem t_X9_insertFilter (l : Launch) (hl0 : l.stackTraces = false) {Z : ZT} (hZ : zOK Z) (hZX : ZX Z) (A : Nat × Nat → Nat) (g : Nat → Bool) (μ : CM) (sz : Nat) {v : Nat → Int32} (hVG : VG v) (hR : RP (μ 0) v) {kr cn : Nat} (hkr : kr < 8) (hk15 : μ 0 15 1 = nI kr) (hcn : μ 0 15 2 = nI cn) (hc8 : cn ≤ 8) (y k x : Int32) : XVi l yX9_insertFilter cX9_insertFilter 4 (some .int) 7 15 1376 [.ref (A (0, 14)), .int y, .int k, .int x] Z (ids g) A (cE Z A g μ) sz (fun r u => ∃ q, q < nfV v + 1 ∧ y = nI q ∧ KP k x ∧ nfV v < 8 ∧ r = nI (nfV v + 1) ∧ CHG g A μ kr cn v (insV v q (nfV v) k x) u) (fun n u => SM g A μ u ∧ ((n = 1 ∧ ¬ IX y (nfV v + 1)) ∨ (n = 2 ∧ IX y (nfV v + 1) ∧ ¬ KP k x) ∨ (n = 3 ∧ IX y (nfV v + 1) ∧ KP k x ∧ ¬ nfV v < 8))) := by
  refine x_met (E := (cE Z A g μ)) (by decide +kernel) (Nat.le_of_ble_eq_true rfl) ?_
  intro p e s m below meth c ls S hr hlk hnt hsz hW hl
  have hxe := S.1
  have hcd := S.2.1
  subst hsz
  have hl : lv_has ls 4 [(0, .ref (A (0, 14))), (1, .int y), (2, .int k), (3, .int x)] := hl
  refine lv_aload_n hxe hcd dX9_insertFilter_0 rfl (lv_at hl 0 rfl) ?_
  refine gf_X9_10 S hW dX9_insertFilter_1 ?_
  refine gf_X9_72 S hW sB_0 dX9_insertFilter_4 ?_
  refine lv_iload_n hxe hcd dX9_insertFilter_7 rfl (lv_at hl 1 rfl) ?_
  refine r_calli0 (r_runV hZ S hW (As := [.int y]) (rest := []) (t_X0_faultOfNewPosition l hZ A g μ s.heap.size sB_0 (nf := nfV v) (RP_c hR hVG) (hVG).1.2 y) k_X9_97 (r_recv hW (x := (0, 1)) (in_s sB_0 (by decide)) rfl rfl) (hl.1) rfl rfl (Nat.le_of_ble_eq_true rfl) ⟨Nat.le_of_ble_eq_true rfl, Nat.le_of_ble_eq_true rfl⟩ ⟨Nat.le_of_ble_eq_true rfl, Nat.le_of_ble_eq_true rfl⟩ dX9_insertFilter_8) hW (fun r8 H locs hp8 hW => ?_)
  rcases hp8 with ⟨rfl, hx8⟩ | ⟨rfl, hx8⟩
  · obtain ⟨q, hqq, rfl⟩ := hx8
    refine r_callv0 (r_runS hZ S hW (As := [.int (nI 0)]) (rest := []) (t_tf0 l hZ (ids g) A (cE Z A g μ) H.size) k_X9_82 hl.1 rfl rfl (Nat.le_of_ble_eq_true rfl) ⟨(Nat.le_of_ble_eq_true rfl), (Nat.le_of_ble_eq_true rfl)⟩ ⟨(Nat.le_of_ble_eq_true rfl), (Nat.le_of_ble_eq_true rfl)⟩ dX9_insertFilter_11) hW (fun H locs hW => ?_)
    refine lv_aload_n hxe hcd dX9_insertFilter_14 rfl (lv_at hl 0 rfl) ?_
    refine gf_X9_10 S hW dX9_insertFilter_15 ?_
    refine gf_X9_72 S hW sB_0 dX9_insertFilter_18 ?_
    refine lv_iload_n hxe hcd dX9_insertFilter_21 rfl (lv_at hl 2 rfl) ?_
    refine lv_iload_n hxe hcd dX9_insertFilter_22 rfl (lv_at hl 3 rfl) ?_
    refine r_calli0 (r_runV hZ S hW (As := [.int k, .int x]) (rest := []) (t_X0_faultOfNewFilter l hZ A g μ H.size sB_0 (nf := nfV v) (RP_c hR hVG) (hVG).1.2 k x) k_X9_76 (r_recv hW (x := (0, 1)) (in_s sB_0 (by decide)) rfl rfl) (hl.1) rfl rfl (Nat.le_of_ble_eq_true rfl) ⟨Nat.le_of_ble_eq_true rfl, Nat.le_of_ble_eq_true rfl⟩ ⟨Nat.le_of_ble_eq_true rfl, Nat.le_of_ble_eq_true rfl⟩ dX9_insertFilter_23) hW (fun r23 H locs hp23 hW => ?_)
    rcases hp23 with ⟨rfl, hk, h8⟩ | ⟨rfl, hk⟩ | ⟨rfl, hk, h8⟩
    · obtain ⟨a, ha9, rfl⟩ := KP_nat hk
      have hn8 := hVG.1.2
      refine r_callv0 (r_runS hZ S hW (As := [.int (nI 0)]) (rest := []) (t_tf0 l hZ (ids g) A (cE Z A g μ) H.size) k_X9_82 hl.1 rfl rfl (Nat.le_of_ble_eq_true rfl) ⟨(Nat.le_of_ble_eq_true rfl), (Nat.le_of_ble_eq_true rfl)⟩ ⟨(Nat.le_of_ble_eq_true rfl), (Nat.le_of_ble_eq_true rfl)⟩ dX9_insertFilter_26) hW (fun H locs hW => ?_)
      refine lv_aload_n hxe hcd dX9_insertFilter_29 rfl (lv_at hl 0 rfl) ?_
      refine gf_X9_25 S hW dX9_insertFilter_30 ?_
      refine lv_aload_n hxe hcd dX9_insertFilter_33 rfl (lv_at hl 0 rfl) ?_
      refine gf_X9_10 S hW dX9_insertFilter_34 ?_
      refine r_callvG (r_runV hZ S hW (As := [.ref (A (0, 0))]) (rest := []) (t_X2_push l hZ A g μ H.size hkr hk15 hcn hc8) k_X9_86 (r_recv hW (x := (0, 15)) (in_r (by decide) (by decide)) rfl rfl) hl.1 rfl rfl (Nat.le_of_ble_eq_true rfl) ⟨(Nat.le_of_ble_eq_true rfl), (Nat.le_of_ble_eq_true rfl)⟩ ⟨(Nat.le_of_ble_eq_true rfl), (Nat.le_of_ble_eq_true rfl)⟩ dX9_insertFilter_37) hW (fun u H locs hp hW => ?_)
      obtain ⟨g, A, μ⟩ := u
      obtain ⟨hg1, hA1, hm1, hk1n, hcnn, hRB⟩ := hp
      simp only at hg1 hA1 hm1 hk1n hcnn hRB
      have hW : wX Z (ids g) A (cE Z A g μ) _ s H locs := hW
      have hRB := hRB v hVG hR
      have hR : RP (μ 0) v := RP_k hR (fun o ho => hm1 0 o (by omega) (by omega))
      have hl : lv_has ls 4 [(0, .ref (A (0, 14))), (1, .int (nI q)), (2, .int k), (3, .int (nI a))] := by
        rw [hA1 _ (in_r (by decide) (by decide))]
        exact hl
      refine lv_aload_n hxe hcd dX9_insertFilter_40 rfl (lv_at hl 0 rfl) ?_
      refine gf_X9_10 S hW dX9_insertFilter_41 ?_
      refine gf_X9_72 S hW sB_0 dX9_insertFilter_44 ?_
      refine lv_iload_n hxe hcd dX9_insertFilter_47 rfl (lv_at hl 1 rfl) ?_
      refine lv_iload_n hxe hcd dX9_insertFilter_48 rfl (lv_at hl 2 rfl) ?_
      refine lv_iload_n hxe hcd dX9_insertFilter_49 rfl (lv_at hl 3 rfl) ?_
      refine r_calli (F := (cE Z A g)) (r_runV hZ S hW (As := [.int (nI q), .int k, .int (nI a)]) (rest := []) (t_X0_putFilter l hZ A g μ H.size sB_0 (nf := nfV v) (q := q) (RP_c hR hVG) (by omega) (by omega) k (nI a)) k_X9_93 (r_recv hW (x := (0, 1)) (in_s sB_0 (by decide)) rfl rfl) (hl.1) rfl rfl (Nat.le_of_ble_eq_true rfl) ⟨Nat.le_of_ble_eq_true rfl, Nat.le_of_ble_eq_true rfl⟩ ⟨Nat.le_of_ble_eq_true rfl, Nat.le_of_ble_eq_true rfl⟩ dX9_insertFilter_50) hW (fun r50 u50 H locs hp50 hW => ?_)
      obtain ⟨hp50, hp50m⟩ := hp50
      have hp50 := hp50.symm
      subst hp50
      have hp50m := hp50m.symm
      subst hp50m
      refine x_iret S hr hlk (Nat.le_of_ble_eq_true rfl) (Nat.le_of_ble_eq_true rfl) (g, A, up2 (chM μ 0 (insR (μ 0 2) q (nfV v) k) (insR (μ 0 3) q (nfV v) (nI a))) 0 1 (upd (μ 0 1) 2 (nI (nfV v + 1)))) hW ?_ dX9_insertFilter_53
      exact ⟨q, hqq, rfl, hk, h8, rfl, CHG_of hkr hg1 hA1 hm1 hk1n hcnn hRB (RP_ins hR hVG (by omega) h8 hk ha9 (by simp [chM, up2_rb, upd_rd]) (by simp [chM, up2_rb, upd_rd]) (by simp [chM, up2_rb, upd_rd]) (fun o ho1 ho2 => by simp only [chM, up2_rb]; rw [if_neg (by omega), if_neg (by omega), if_neg (by omega)])) (by repeat (first | exact SQb_rfl _ _ | refine SQb_up ?_ (by decide) _ | exact SQb_SQ (SQ_18 _ _ _)))⟩
    · exact x_tf hZ S hnt hl.1 hlk (g, A, μ) hW (n := 2) (t_tf2 l hl0 hZ hZX _ _ _ _) ⟨⟨rfl, rfl, (by repeat (first | exact SQ_rfl _ | exact SQ_18 _ _ _ | exact SQ_20 _ _ _ _ | exact hsq | (refine SQ_up ?_ (by first | exact Or.inl rfl | exact Or.inr ⟨rfl, by decide, by decide⟩) _)))⟩, Or.inr (Or.inl ⟨rfl, ⟨q, hqq, rfl⟩, hk⟩)⟩ (by decide) ⟨(Nat.le_of_ble_eq_true rfl), (Nat.le_of_ble_eq_true rfl)⟩ (Nat.le_of_ble_eq_true rfl) (Nat.le_of_ble_eq_true rfl) (Nat.le_of_ble_eq_true rfl) (Nat.le_of_ble_eq_true rfl) dX9_insertFilter_26
    · exact x_tf hZ S hnt hl.1 hlk (g, A, μ) hW (n := 3) (t_tf3 l hl0 hZ hZX _ _ _ _) ⟨⟨rfl, rfl, (by repeat (first | exact SQ_rfl _ | exact SQ_18 _ _ _ | exact SQ_20 _ _ _ _ | exact hsq | (refine SQ_up ?_ (by first | exact Or.inl rfl | exact Or.inr ⟨rfl, by decide, by decide⟩) _)))⟩, Or.inr (Or.inr ⟨rfl, ⟨q, hqq, rfl⟩, hk, h8⟩)⟩ (by decide) ⟨(Nat.le_of_ble_eq_true rfl), (Nat.le_of_ble_eq_true rfl)⟩ (Nat.le_of_ble_eq_true rfl) (Nat.le_of_ble_eq_true rfl) (Nat.le_of_ble_eq_true rfl) (Nat.le_of_ble_eq_true rfl) dX9_insertFilter_26
  · exact x_tf hZ S hnt hl.1 hlk (g, A, μ) hW (n := 1) (t_tf1 l hl0 hZ hZX _ _ _ _) ⟨⟨rfl, rfl, (by repeat (first | exact SQ_rfl _ | exact SQ_18 _ _ _ | exact SQ_20 _ _ _ _ | exact hsq | (refine SQ_up ?_ (by first | exact Or.inl rfl | exact Or.inr ⟨rfl, by decide, by decide⟩) _)))⟩, Or.inl ⟨rfl, hx8⟩⟩ (by decide) ⟨(Nat.le_of_ble_eq_true rfl), (Nat.le_of_ble_eq_true rfl)⟩ (Nat.le_of_ble_eq_true rfl) (Nat.le_of_ble_eq_true rfl) (Nat.le_of_ble_eq_true rfl) (Nat.le_of_ble_eq_true rfl) dX9_insertFilter_11
set_option maxHeartbeats 4000000 in
set_option maxRecDepth 100000 in
theorem t_X9_removeFilter (l : Launch) (hl0 : l.stackTraces = false) {Z : ZT} (hZ : zOK Z) (hZX : ZX Z) (A : Nat × Nat → Nat) (g : Nat → Bool) (μ : CM) (sz : Nat) {v : Nat → Int32} (hVG : VG v) (hR : RP (μ 0) v) {kr cn : Nat} (hkr : kr < 8) (hk15 : μ 0 15 1 = nI kr) (hcn : μ 0 15 2 = nI cn) (hc8 : cn ≤ 8) (x : Int32) : XVi l yX9_removeFilter cX9_removeFilter 2 (some .int) 7 15 1376 [.ref (A (0, 14)), .int x] Z (ids g) A (cE Z A g μ) sz (fun r u => ∃ q, q < nfV v ∧ x = nI q ∧ r = v (13 + q) ∧ CHG g A μ kr cn v (delV v q (nfV v)) u) (fun n u => SM g A μ u ∧ ((n = 1 ∧ ¬ IX x (nfV v)))) := by
  refine x_met (E := (cE Z A g μ)) (by decide +kernel) (Nat.le_of_ble_eq_true rfl) ?_
  intro p e s m below meth c ls S hr hlk hnt hsz hW hl
  have hxe := S.1
  have hcd := S.2.1
  subst hsz
  have hl : lv_has ls 2 [(0, .ref (A (0, 14))), (1, .int x)] := hl
  refine lv_aload_n hxe hcd dX9_removeFilter_0 rfl (lv_at hl 0 rfl) ?_
  refine gf_X9_10 S hW dX9_removeFilter_1 ?_
  refine gf_X9_72 S hW sB_0 dX9_removeFilter_4 ?_
  refine lv_iload_n hxe hcd dX9_removeFilter_7 rfl (lv_at hl 1 rfl) ?_
  refine r_calli0 (r_runV hZ S hW (As := [.int x]) (rest := []) (t_X0_faultOfPosition l hZ A g μ s.heap.size sB_0 (nf := nfV v) (RP_c hR hVG) (hVG).1.2 x) k_X9_101 (r_recv hW (x := (0, 1)) (in_s sB_0 (by decide)) rfl rfl) (hl.1) rfl rfl (Nat.le_of_ble_eq_true rfl) ⟨Nat.le_of_ble_eq_true rfl, Nat.le_of_ble_eq_true rfl⟩ ⟨Nat.le_of_ble_eq_true rfl, Nat.le_of_ble_eq_true rfl⟩ dX9_removeFilter_8) hW (fun r8 H locs hp8 hW => ?_)
  rcases hp8 with ⟨rfl, hx8⟩ | ⟨rfl, hx8⟩
  · obtain ⟨q, hqq, rfl⟩ := hx8
    have hn8 := hVG.1.2
    have hn4 := hVG.2.1.2
    refine r_callv0 (r_runS hZ S hW (As := [.int (nI 0)]) (rest := []) (t_tf0 l hZ (ids g) A (cE Z A g μ) H.size) k_X9_82 hl.1 rfl rfl (Nat.le_of_ble_eq_true rfl) ⟨(Nat.le_of_ble_eq_true rfl), (Nat.le_of_ble_eq_true rfl)⟩ ⟨(Nat.le_of_ble_eq_true rfl), (Nat.le_of_ble_eq_true rfl)⟩ dX9_removeFilter_11) hW (fun H locs hW => ?_)
    refine lv_aload_n hxe hcd dX9_removeFilter_14 rfl (lv_at hl 0 rfl) ?_
    refine gf_X9_25 S hW dX9_removeFilter_15 ?_
    refine lv_aload_n hxe hcd dX9_removeFilter_18 rfl (lv_at hl 0 rfl) ?_
    refine gf_X9_10 S hW dX9_removeFilter_19 ?_
    refine r_callvG (r_runV hZ S hW (As := [.ref (A (0, 0))]) (rest := []) (t_X2_push l hZ A g μ H.size hkr hk15 hcn hc8) k_X9_86 (r_recv hW (x := (0, 15)) (in_r (by decide) (by decide)) rfl rfl) hl.1 rfl rfl (Nat.le_of_ble_eq_true rfl) ⟨(Nat.le_of_ble_eq_true rfl), (Nat.le_of_ble_eq_true rfl)⟩ ⟨(Nat.le_of_ble_eq_true rfl), (Nat.le_of_ble_eq_true rfl)⟩ dX9_removeFilter_22) hW (fun u H locs hp hW => ?_)
    obtain ⟨g, A, μ⟩ := u
    obtain ⟨hg1, hA1, hm1, hk1n, hcnn, hRB⟩ := hp
    simp only at hg1 hA1 hm1 hk1n hcnn hRB
    have hW : wX Z (ids g) A (cE Z A g μ) _ s H locs := hW
    have hRB := hRB v hVG hR
    have hR : RP (μ 0) v := RP_k hR (fun o ho => hm1 0 o (by omega) (by omega))
    have hl : lv_has ls 2 [(0, .ref (A (0, 14))), (1, .int (nI q))] := by
      rw [hA1 _ (in_r (by decide) (by decide))]
      exact hl
    refine lv_aload_n hxe hcd dX9_removeFilter_25 rfl (lv_at hl 0 rfl) ?_
    refine gf_X9_10 S hW dX9_removeFilter_26 ?_
    refine gf_X9_72 S hW sB_0 dX9_removeFilter_29 ?_
    refine lv_iload_n hxe hcd dX9_removeFilter_32 rfl (lv_at hl 1 rfl) ?_
    refine r_calli (F := (cE Z A g)) (r_runV hZ S hW (As := [.int (nI q)]) (rest := []) (t_X0_takeFilter l hZ A g μ H.size sB_0 (nf := nfV v) (q := q) (RP_c hR hVG) (by omega) (by omega)) k_X9_104 (r_recv hW (x := (0, 1)) (in_s sB_0 (by decide)) rfl rfl) (hl.1) rfl rfl (Nat.le_of_ble_eq_true rfl) ⟨Nat.le_of_ble_eq_true rfl, Nat.le_of_ble_eq_true rfl⟩ ⟨Nat.le_of_ble_eq_true rfl, Nat.le_of_ble_eq_true rfl⟩ dX9_removeFilter_33) hW (fun r33 u33 H locs hp33 hW => ?_)
    obtain ⟨hp33, hp33m⟩ := hp33
    have hp33 := hp33.symm
    subst hp33
    have hp33m := hp33m.symm
    subst hp33m
    refine x_iret S hr hlk (Nat.le_of_ble_eq_true rfl) (Nat.le_of_ble_eq_true rfl) (g, A, up2 (chM μ 0 (slR (μ 0 2) q (nfV v - 1)) (slR (μ 0 3) q (nfV v - 1))) 0 1 (upd (μ 0 1) 2 (nI (nfV v - 1)))) hW ?_ dX9_removeFilter_36
    exact ⟨q, hqq, rfl, (hR.1.2 q hqq).2, CHG_of hkr hg1 hA1 hm1 hk1n hcnn hRB (RP_del hR hVG hqq (by simp [chM, up2_rb, upd_rd]) (by simp [chM, up2_rb, upd_rd]) (by simp [chM, up2_rb, upd_rd]) (fun o ho1 ho2 => by simp only [chM, up2_rb]; rw [if_neg (by omega), if_neg (by omega), if_neg (by omega)])) (by repeat (first | exact SQb_rfl _ _ | refine SQb_up ?_ (by decide) _ | exact SQb_SQ (SQ_18 _ _ _)))⟩
  · exact x_tf hZ S hnt hl.1 hlk (g, A, μ) hW (n := 1) (t_tf1 l hl0 hZ hZX _ _ _ _) ⟨⟨rfl, rfl, (by repeat (first | exact SQ_rfl _ | exact SQ_18 _ _ _ | exact SQ_20 _ _ _ _ | exact hsq | (refine SQ_up ?_ (by first | exact Or.inl rfl | exact Or.inr ⟨rfl, by decide, by decide⟩) _)))⟩, ⟨rfl, hx8⟩⟩ (by decide) ⟨(Nat.le_of_ble_eq_true rfl), (Nat.le_of_ble_eq_true rfl)⟩ (Nat.le_of_ble_eq_true rfl) (Nat.le_of_ble_eq_true rfl) (Nat.le_of_ble_eq_true rfl) (Nat.le_of_ble_eq_true rfl) dX9_removeFilter_11
set_option maxHeartbeats 4000000 in
set_option maxRecDepth 100000 in
theorem t_X9_swapFilters (l : Launch) (hl0 : l.stackTraces = false) {Z : ZT} (hZ : zOK Z) (hZX : ZX Z) (A : Nat × Nat → Nat) (g : Nat → Bool) (μ : CM) (sz : Nat) {v : Nat → Int32} (hVG : VG v) (hR : RP (μ 0) v) {kr cn : Nat} (hkr : kr < 8) (hk15 : μ 0 15 1 = nI kr) (hcn : μ 0 15 2 = nI cn) (hc8 : cn ≤ 8) (x y : Int32) : XVi l yX9_swapFilters cX9_swapFilters 3 (some .int) 7 15 1376 [.ref (A (0, 14)), .int x, .int y] Z (ids g) A (cE Z A g μ) sz (fun r u => ∃ q q2, q < nfV v ∧ q2 < nfV v ∧ x = nI q ∧ y = nI q2 ∧ r = nI (dsN q q2) ∧ CHG g A μ kr cn v (swV v q q2) u) (fun n u => SM g A μ u ∧ ((n = 1 ∧ ¬ (IX x (nfV v) ∧ IX y (nfV v))))) := by
  refine x_met (E := (cE Z A g μ)) (by decide +kernel) (Nat.le_of_ble_eq_true rfl) ?_
  intro p e s m below meth c ls S hr hlk hnt hsz hW hl
  have hxe := S.1
  have hcd := S.2.1
  subst hsz
  have hl : lv_has ls 3 [(0, .ref (A (0, 14))), (1, .int x), (2, .int y)] := hl
  refine lv_aload_n hxe hcd dX9_swapFilters_0 rfl (lv_at hl 0 rfl) ?_
  refine gf_X9_10 S hW dX9_swapFilters_1 ?_
  refine gf_X9_72 S hW sB_0 dX9_swapFilters_4 ?_
  refine lv_iload_n hxe hcd dX9_swapFilters_7 rfl (lv_at hl 1 rfl) ?_
  refine r_calli0 (r_runV hZ S hW (As := [.int x]) (rest := []) (t_X0_faultOfPosition l hZ A g μ s.heap.size sB_0 (nf := nfV v) (RP_c hR hVG) (hVG).1.2 x) k_X9_101 (r_recv hW (x := (0, 1)) (in_s sB_0 (by decide)) rfl rfl) (hl.1) rfl rfl (Nat.le_of_ble_eq_true rfl) ⟨Nat.le_of_ble_eq_true rfl, Nat.le_of_ble_eq_true rfl⟩ ⟨Nat.le_of_ble_eq_true rfl, Nat.le_of_ble_eq_true rfl⟩ dX9_swapFilters_8) hW (fun r8 H locs hp8 hW => ?_)
  rcases hp8 with ⟨rfl, hx8⟩ | ⟨rfl, hx8⟩
  · obtain ⟨q, hqq, rfl⟩ := hx8
    refine r_callv0 (r_runS hZ S hW (As := [.int (nI 0)]) (rest := []) (t_tf0 l hZ (ids g) A (cE Z A g μ) H.size) k_X9_82 hl.1 rfl rfl (Nat.le_of_ble_eq_true rfl) ⟨(Nat.le_of_ble_eq_true rfl), (Nat.le_of_ble_eq_true rfl)⟩ ⟨(Nat.le_of_ble_eq_true rfl), (Nat.le_of_ble_eq_true rfl)⟩ dX9_swapFilters_11) hW (fun H locs hW => ?_)
    refine lv_aload_n hxe hcd dX9_swapFilters_14 rfl (lv_at hl 0 rfl) ?_
    refine gf_X9_10 S hW dX9_swapFilters_15 ?_
    refine gf_X9_72 S hW sB_0 dX9_swapFilters_18 ?_
    refine lv_iload_n hxe hcd dX9_swapFilters_21 rfl (lv_at hl 2 rfl) ?_
    refine r_calli0 (r_runV hZ S hW (As := [.int y]) (rest := []) (t_X0_faultOfPosition l hZ A g μ H.size sB_0 (nf := nfV v) (RP_c hR hVG) (hVG).1.2 y) k_X9_101 (r_recv hW (x := (0, 1)) (in_s sB_0 (by decide)) rfl rfl) (hl.1) rfl rfl (Nat.le_of_ble_eq_true rfl) ⟨Nat.le_of_ble_eq_true rfl, Nat.le_of_ble_eq_true rfl⟩ ⟨Nat.le_of_ble_eq_true rfl, Nat.le_of_ble_eq_true rfl⟩ dX9_swapFilters_22) hW (fun r22 H locs hp22 hW => ?_)
    rcases hp22 with ⟨rfl, hx22⟩ | ⟨rfl, hx22⟩
    · obtain ⟨q2, hqq2, rfl⟩ := hx22
      have hn8 := hVG.1.2
      refine r_callv0 (r_runS hZ S hW (As := [.int (nI 0)]) (rest := []) (t_tf0 l hZ (ids g) A (cE Z A g μ) H.size) k_X9_82 hl.1 rfl rfl (Nat.le_of_ble_eq_true rfl) ⟨(Nat.le_of_ble_eq_true rfl), (Nat.le_of_ble_eq_true rfl)⟩ ⟨(Nat.le_of_ble_eq_true rfl), (Nat.le_of_ble_eq_true rfl)⟩ dX9_swapFilters_25) hW (fun H locs hW => ?_)
      refine lv_aload_n hxe hcd dX9_swapFilters_28 rfl (lv_at hl 0 rfl) ?_
      refine gf_X9_25 S hW dX9_swapFilters_29 ?_
      refine lv_aload_n hxe hcd dX9_swapFilters_32 rfl (lv_at hl 0 rfl) ?_
      refine gf_X9_10 S hW dX9_swapFilters_33 ?_
      refine r_callvG (r_runV hZ S hW (As := [.ref (A (0, 0))]) (rest := []) (t_X2_push l hZ A g μ H.size hkr hk15 hcn hc8) k_X9_86 (r_recv hW (x := (0, 15)) (in_r (by decide) (by decide)) rfl rfl) hl.1 rfl rfl (Nat.le_of_ble_eq_true rfl) ⟨(Nat.le_of_ble_eq_true rfl), (Nat.le_of_ble_eq_true rfl)⟩ ⟨(Nat.le_of_ble_eq_true rfl), (Nat.le_of_ble_eq_true rfl)⟩ dX9_swapFilters_36) hW (fun u H locs hp hW => ?_)
      obtain ⟨g, A, μ⟩ := u
      obtain ⟨hg1, hA1, hm1, hk1n, hcnn, hRB⟩ := hp
      simp only at hg1 hA1 hm1 hk1n hcnn hRB
      have hW : wX Z (ids g) A (cE Z A g μ) _ s H locs := hW
      have hRB := hRB v hVG hR
      have hR : RP (μ 0) v := RP_k hR (fun o ho => hm1 0 o (by omega) (by omega))
      have hl : lv_has ls 3 [(0, .ref (A (0, 14))), (1, .int (nI q)), (2, .int (nI q2))] := by
        rw [hA1 _ (in_r (by decide) (by decide))]
        exact hl
      refine lv_aload_n hxe hcd dX9_swapFilters_39 rfl (lv_at hl 0 rfl) ?_
      refine gf_X9_10 S hW dX9_swapFilters_40 ?_
      refine gf_X9_72 S hW sB_0 dX9_swapFilters_43 ?_
      refine lv_iload_n hxe hcd dX9_swapFilters_46 rfl (lv_at hl 1 rfl) ?_
      refine lv_iload_n hxe hcd dX9_swapFilters_47 rfl (lv_at hl 2 rfl) ?_
      refine r_callv (F := (cE Z A g)) (r_runV hZ S hW (As := [.int (nI q), .int (nI q2)]) (rest := []) (t_X0_exchange l hZ A g μ H.size sB_0 (nI q) (nI q2)) k_X9_107 (r_recv hW (x := (0, 1)) (in_s sB_0 (by decide)) rfl rfl) (hl.1) rfl rfl (Nat.le_of_ble_eq_true rfl) ⟨Nat.le_of_ble_eq_true rfl, Nat.le_of_ble_eq_true rfl⟩ ⟨Nat.le_of_ble_eq_true rfl, Nat.le_of_ble_eq_true rfl⟩ dX9_swapFilters_48) hW (fun u48 H locs hp48 hW => ?_)
      have hp48 := hp48.symm
      subst hp48
      refine lv_iload_n hxe hcd dX9_swapFilters_51 rfl (lv_at hl 1 rfl) ?_
      refine lv_iload_n hxe hcd dX9_swapFilters_52 rfl (lv_at hl 2 rfl) ?_
      refine n_ne S (a := q) (b := q2) (by omega) (by omega) dX9_swapFilters_53 (tgt := 60) (by decide) (fun c53 => ?_) (fun c53 => ?_)
      · refine lv_iload_n hxe hcd dX9_swapFilters_60 rfl (lv_at hl 1 rfl) ?_
        refine lv_iload_n hxe hcd dX9_swapFilters_61 rfl (lv_at hl 2 rfl) ?_
        refine lv_isub hxe hcd dX9_swapFilters_62 ?_
        refine r_abs S hl.1 g_754 g_416 (Nat.le_of_ble_eq_true rfl) (Nat.le_of_ble_eq_true rfl) (Nat.le_of_ble_eq_true rfl) (Nat.le_of_ble_eq_true rfl) dX9_swapFilters_63 ?_
        refine lv_iconst (v := (nI 1)) hxe hcd dX9_swapFilters_66 (by decide) ?_
        refine lv_isub hxe hcd dX9_swapFilters_67 ?_
        refine x_iret S hr hlk (Nat.le_of_ble_eq_true rfl) (Nat.le_of_ble_eq_true rfl) (g, A, setF (setF μ 0 (nI q) (rd 8 (μ 0 2) (nI q2)) (rd 8 (μ 0 3) (nI q2))) 0 (nI q2) (rd 8 (μ 0 2) (nI q)) (rd 8 (μ 0 3) (nI q))) hW ?_ dX9_swapFilters_68
        exact ⟨q, q2, hqq, hqq2, rfl, rfl, dsN_i c53 (by omega) (by omega), CHG_of hkr hg1 hA1 hm1 hk1n hcnn hRB (RP_sw hR hVG hqq hqq2 (by simp [setF, up2_rb, wr_in (n := 8) (k := q) _ _ (show q < 8 by omega) (by decide), wr_in (n := 8) (k := q2) _ _ (show q2 < 8 by omega) (by decide), rd_in (n := 8) (k := q) _ (show q < 8 by omega) (by decide), rd_in (n := 8) (k := q2) _ (show q2 < 8 by omega) (by decide)]) (by simp [setF, up2_rb, wr_in (n := 8) (k := q) _ _ (show q < 8 by omega) (by decide), wr_in (n := 8) (k := q2) _ _ (show q2 < 8 by omega) (by decide), rd_in (n := 8) (k := q) _ (show q < 8 by omega) (by decide), rd_in (n := 8) (k := q2) _ (show q2 < 8 by omega) (by decide)]) (by simp [setF, up2_rb, wr_in (n := 8) (k := q) _ _ (show q < 8 by omega) (by decide), wr_in (n := 8) (k := q2) _ _ (show q2 < 8 by omega) (by decide), rd_in (n := 8) (k := q) _ (show q < 8 by omega) (by decide), rd_in (n := 8) (k := q2) _ (show q2 < 8 by omega) (by decide)]) (fun o ho1 ho2 => by simp only [setF, up2_rb]; rw [if_neg (by omega), if_neg (by omega), if_neg (by omega), if_neg (by omega)])) (by simp only [setF]; repeat (first | exact SQb_rfl _ _ | refine SQb_up ?_ (by decide) _ | exact SQb_SQ (SQ_18 _ _ _)))⟩
      · refine lv_iconst (v := (nI 0)) hxe hcd dX9_swapFilters_56 (by decide) ?_
        refine lv_goto (tgt := 68) hxe hcd dX9_swapFilters_57 (by decide) ?_
        refine x_iret S hr hlk (Nat.le_of_ble_eq_true rfl) (Nat.le_of_ble_eq_true rfl) (g, A, setF (setF μ 0 (nI q) (rd 8 (μ 0 2) (nI q2)) (rd 8 (μ 0 3) (nI q2))) 0 (nI q2) (rd 8 (μ 0 2) (nI q)) (rd 8 (μ 0 3) (nI q))) hW ?_ dX9_swapFilters_68
        exact ⟨q, q2, hqq, hqq2, rfl, rfl, (by subst c53; exact dsN_s q), CHG_of hkr hg1 hA1 hm1 hk1n hcnn hRB (RP_sw hR hVG hqq hqq2 (by simp [setF, up2_rb, wr_in (n := 8) (k := q) _ _ (show q < 8 by omega) (by decide), wr_in (n := 8) (k := q2) _ _ (show q2 < 8 by omega) (by decide), rd_in (n := 8) (k := q) _ (show q < 8 by omega) (by decide), rd_in (n := 8) (k := q2) _ (show q2 < 8 by omega) (by decide)]) (by simp [setF, up2_rb, wr_in (n := 8) (k := q) _ _ (show q < 8 by omega) (by decide), wr_in (n := 8) (k := q2) _ _ (show q2 < 8 by omega) (by decide), rd_in (n := 8) (k := q) _ (show q < 8 by omega) (by decide), rd_in (n := 8) (k := q2) _ (show q2 < 8 by omega) (by decide)]) (by simp [setF, up2_rb, wr_in (n := 8) (k := q) _ _ (show q < 8 by omega) (by decide), wr_in (n := 8) (k := q2) _ _ (show q2 < 8 by omega) (by decide), rd_in (n := 8) (k := q) _ (show q < 8 by omega) (by decide), rd_in (n := 8) (k := q2) _ (show q2 < 8 by omega) (by decide)]) (fun o ho1 ho2 => by simp only [setF, up2_rb]; rw [if_neg (by omega), if_neg (by omega), if_neg (by omega), if_neg (by omega)])) (by simp only [setF]; repeat (first | exact SQb_rfl _ _ | refine SQb_up ?_ (by decide) _ | exact SQb_SQ (SQ_18 _ _ _)))⟩
    · exact x_tf hZ S hnt hl.1 hlk (g, A, μ) hW (n := 1) (t_tf1 l hl0 hZ hZX _ _ _ _) ⟨⟨rfl, rfl, (by repeat (first | exact SQ_rfl _ | exact SQ_18 _ _ _ | exact SQ_20 _ _ _ _ | exact hsq | (refine SQ_up ?_ (by first | exact Or.inl rfl | exact Or.inr ⟨rfl, by decide, by decide⟩) _)))⟩, ⟨rfl, fun z => hx22 z.2⟩⟩ (by decide) ⟨(Nat.le_of_ble_eq_true rfl), (Nat.le_of_ble_eq_true rfl)⟩ (Nat.le_of_ble_eq_true rfl) (Nat.le_of_ble_eq_true rfl) (Nat.le_of_ble_eq_true rfl) (Nat.le_of_ble_eq_true rfl) dX9_swapFilters_25
  · exact x_tf hZ S hnt hl.1 hlk (g, A, μ) hW (n := 1) (t_tf1 l hl0 hZ hZX _ _ _ _) ⟨⟨rfl, rfl, (by repeat (first | exact SQ_rfl _ | exact SQ_18 _ _ _ | exact SQ_20 _ _ _ _ | exact hsq | (refine SQ_up ?_ (by first | exact Or.inl rfl | exact Or.inr ⟨rfl, by decide, by decide⟩) _)))⟩, ⟨rfl, fun z => hx8 z.1⟩⟩ (by decide) ⟨(Nat.le_of_ble_eq_true rfl), (Nat.le_of_ble_eq_true rfl)⟩ (Nat.le_of_ble_eq_true rfl) (Nat.le_of_ble_eq_true rfl) (Nat.le_of_ble_eq_true rfl) (Nat.le_of_ble_eq_true rfl) dX9_swapFilters_11
set_option maxHeartbeats 4000000 in
set_option maxRecDepth 100000 in
theorem t_X9_filterCount (l : Launch) (hl0 : l.stackTraces = false) {Z : ZT} (hZ : zOK Z) (hZX : ZX Z) (A : Nat × Nat → Nat) (g : Nat → Bool) (μ : CM) (sz : Nat) {v : Nat → Int32} (hVG : VG v) (hR : RP (μ 0) v) : XVi l yX9_filterCount cX9_filterCount 1 (some .int) 7 15 1376 [.ref (A (0, 14))] Z (ids g) A (cE Z A g μ) sz (fun r u => r = v 0 ∧ SM g A μ u) (fun _ _ => False) := by
  refine x_met (E := (cE Z A g μ)) (by decide +kernel) (Nat.le_of_ble_eq_true rfl) ?_
  intro p e s m below meth c ls S hr hlk hnt hsz hW hl
  have hxe := S.1
  have hcd := S.2.1
  subst hsz
  have hl : lv_has ls 1 [(0, .ref (A (0, 14)))] := hl
  refine lv_aload_n hxe hcd dX9_filterCount_0 rfl (lv_at hl 0 rfl) ?_
  refine gf_X9_10 S hW dX9_filterCount_1 ?_
  refine gf_X9_72 S hW sB_0 dX9_filterCount_4 ?_
  refine gf_X9_90 S hW sB_0 dX9_filterCount_7 ?_
  refine x_iret S hr hlk (Nat.le_of_ble_eq_true rfl) (Nat.le_of_ble_eq_true rfl) (g, A, μ) hW ?_ dX9_filterCount_10
  exact ⟨hR.1.1, rfl, rfl, SQ_rfl _⟩
set_option maxHeartbeats 4000000 in
set_option maxRecDepth 100000 in
theorem t_X9_filterKind (l : Launch) (hl0 : l.stackTraces = false) {Z : ZT} (hZ : zOK Z) (hZX : ZX Z) (A : Nat × Nat → Nat) (g : Nat → Bool) (μ : CM) (sz : Nat) {v : Nat → Int32} (hVG : VG v) (hR : RP (μ 0) v) (x : Int32) : XVi l yX9_filterKind cX9_filterKind 2 (some .char) 7 15 1376 [.ref (A (0, 14)), .int x] Z (ids g) A (cE Z A g μ) sz (fun r u => ∃ q, q < nfV v ∧ x = nI q ∧ r = v (5 + q) ∧ SM g A μ u) (fun n u => SM g A μ u ∧ ((n = 1 ∧ ¬ IX x (nfV v)))) := by
  refine x_met (E := (cE Z A g μ)) (by decide +kernel) (Nat.le_of_ble_eq_true rfl) ?_
  intro p e s m below meth c ls S hr hlk hnt hsz hW hl
  have hxe := S.1
  have hcd := S.2.1
  subst hsz
  have hl : lv_has ls 2 [(0, .ref (A (0, 14))), (1, .int x)] := hl
  refine lv_aload_n hxe hcd dX9_filterKind_0 rfl (lv_at hl 0 rfl) ?_
  refine gf_X9_10 S hW dX9_filterKind_1 ?_
  refine gf_X9_72 S hW sB_0 dX9_filterKind_4 ?_
  refine lv_iload_n hxe hcd dX9_filterKind_7 rfl (lv_at hl 1 rfl) ?_
  refine r_calli0 (r_runV hZ S hW (As := [.int x]) (rest := []) (t_X0_faultOfPosition l hZ A g μ s.heap.size sB_0 (nf := nfV v) (RP_c hR hVG) (hVG).1.2 x) k_X9_101 (r_recv hW (x := (0, 1)) (in_s sB_0 (by decide)) rfl rfl) (hl.1) rfl rfl (Nat.le_of_ble_eq_true rfl) ⟨Nat.le_of_ble_eq_true rfl, Nat.le_of_ble_eq_true rfl⟩ ⟨Nat.le_of_ble_eq_true rfl, Nat.le_of_ble_eq_true rfl⟩ dX9_filterKind_8) hW (fun r8 H locs hp8 hW => ?_)
  rcases hp8 with ⟨rfl, hx8⟩ | ⟨rfl, hx8⟩
  · obtain ⟨q, hqq, rfl⟩ := hx8
    have hn8 := hVG.1.2
    have hn4 := hVG.2.1.2
    refine r_callv0 (r_runS hZ S hW (As := [.int (nI 0)]) (rest := []) (t_tf0 l hZ (ids g) A (cE Z A g μ) H.size) k_X9_82 hl.1 rfl rfl (Nat.le_of_ble_eq_true rfl) ⟨(Nat.le_of_ble_eq_true rfl), (Nat.le_of_ble_eq_true rfl)⟩ ⟨(Nat.le_of_ble_eq_true rfl), (Nat.le_of_ble_eq_true rfl)⟩ dX9_filterKind_11) hW (fun H locs hW => ?_)
    refine lv_aload_n hxe hcd dX9_filterKind_14 rfl (lv_at hl 0 rfl) ?_
    refine gf_X9_10 S hW dX9_filterKind_15 ?_
    refine gf_X9_72 S hW sB_0 dX9_filterKind_18 ?_
    refine lv_iload_n hxe hcd dX9_filterKind_21 rfl (lv_at hl 1 rfl) ?_
    refine r_calli0 (r_runV hZ S hW (As := [.int (nI q)]) (rest := []) (t_X0_kindAt l hZ A g μ H.size sB_0 (nI q)) k_X9_116 (r_recv hW (x := (0, 1)) (in_s sB_0 (by decide)) rfl rfl) (hl.1) rfl rfl (Nat.le_of_ble_eq_true rfl) ⟨Nat.le_of_ble_eq_true rfl, Nat.le_of_ble_eq_true rfl⟩ ⟨Nat.le_of_ble_eq_true rfl, Nat.le_of_ble_eq_true rfl⟩ dX9_filterKind_22) hW (fun r22 H locs hp22 hW => ?_)
    have hp22 := hp22.symm
    subst hp22
    refine r_as (y := v (5 + q)) (by rw [rd_in (n := 8) (k := q) _ (by omega) (by decide)]; exact (hR.1.2 q hqq).1) ?_
    have hch := KP_CH (hVG.2.2.2.2.2.2.1 q hqq).2.2
    have hi2 := CH_i2c hch
    refine lv_i2c (v := (v (5 + q))) hxe hcd dX9_filterKind_25 (by first | rfl | assumption) ?_
    refine x_zret S hr hlk (Nat.le_of_ble_eq_true rfl) (Nat.le_of_ble_eq_true rfl) (g, A, μ) hW (CH_nar hch) ?_ dX9_filterKind_26
    exact ⟨q, hqq, rfl, rfl, ⟨rfl, rfl, (by repeat (first | exact SQ_rfl _ | exact SQ_18 _ _ _ | exact SQ_20 _ _ _ _ | exact hsq | (refine SQ_up ?_ (by first | exact Or.inl rfl | exact Or.inr ⟨rfl, by decide, by decide⟩) _)))⟩⟩
  · exact x_tf hZ S hnt hl.1 hlk (g, A, μ) hW (n := 1) (t_tf1 l hl0 hZ hZX _ _ _ _) ⟨⟨rfl, rfl, (by repeat (first | exact SQ_rfl _ | exact SQ_18 _ _ _ | exact SQ_20 _ _ _ _ | exact hsq | (refine SQ_up ?_ (by first | exact Or.inl rfl | exact Or.inr ⟨rfl, by decide, by decide⟩) _)))⟩, ⟨rfl, hx8⟩⟩ (by decide) ⟨(Nat.le_of_ble_eq_true rfl), (Nat.le_of_ble_eq_true rfl)⟩ (Nat.le_of_ble_eq_true rfl) (Nat.le_of_ble_eq_true rfl) (Nat.le_of_ble_eq_true rfl) (Nat.le_of_ble_eq_true rfl) dX9_filterKind_11
set_option maxHeartbeats 4000000 in
set_option maxRecDepth 100000 in
theorem t_X9_filterParameter (l : Launch) (hl0 : l.stackTraces = false) {Z : ZT} (hZ : zOK Z) (hZX : ZX Z) (A : Nat × Nat → Nat) (g : Nat → Bool) (μ : CM) (sz : Nat) {v : Nat → Int32} (hVG : VG v) (hR : RP (μ 0) v) (x : Int32) : XVi l yX9_filterParameter cX9_filterParameter 2 (some .int) 7 15 1376 [.ref (A (0, 14)), .int x] Z (ids g) A (cE Z A g μ) sz (fun r u => ∃ q, q < nfV v ∧ x = nI q ∧ r = v (13 + q) ∧ SM g A μ u) (fun n u => SM g A μ u ∧ ((n = 1 ∧ ¬ IX x (nfV v)))) := by
  refine x_met (E := (cE Z A g μ)) (by decide +kernel) (Nat.le_of_ble_eq_true rfl) ?_
  intro p e s m below meth c ls S hr hlk hnt hsz hW hl
  have hxe := S.1
  have hcd := S.2.1
  subst hsz
  have hl : lv_has ls 2 [(0, .ref (A (0, 14))), (1, .int x)] := hl
  refine lv_aload_n hxe hcd dX9_filterParameter_0 rfl (lv_at hl 0 rfl) ?_
  refine gf_X9_10 S hW dX9_filterParameter_1 ?_
  refine gf_X9_72 S hW sB_0 dX9_filterParameter_4 ?_
  refine lv_iload_n hxe hcd dX9_filterParameter_7 rfl (lv_at hl 1 rfl) ?_
  refine r_calli0 (r_runV hZ S hW (As := [.int x]) (rest := []) (t_X0_faultOfPosition l hZ A g μ s.heap.size sB_0 (nf := nfV v) (RP_c hR hVG) (hVG).1.2 x) k_X9_101 (r_recv hW (x := (0, 1)) (in_s sB_0 (by decide)) rfl rfl) (hl.1) rfl rfl (Nat.le_of_ble_eq_true rfl) ⟨Nat.le_of_ble_eq_true rfl, Nat.le_of_ble_eq_true rfl⟩ ⟨Nat.le_of_ble_eq_true rfl, Nat.le_of_ble_eq_true rfl⟩ dX9_filterParameter_8) hW (fun r8 H locs hp8 hW => ?_)
  rcases hp8 with ⟨rfl, hx8⟩ | ⟨rfl, hx8⟩
  · obtain ⟨q, hqq, rfl⟩ := hx8
    have hn8 := hVG.1.2
    have hn4 := hVG.2.1.2
    refine r_callv0 (r_runS hZ S hW (As := [.int (nI 0)]) (rest := []) (t_tf0 l hZ (ids g) A (cE Z A g μ) H.size) k_X9_82 hl.1 rfl rfl (Nat.le_of_ble_eq_true rfl) ⟨(Nat.le_of_ble_eq_true rfl), (Nat.le_of_ble_eq_true rfl)⟩ ⟨(Nat.le_of_ble_eq_true rfl), (Nat.le_of_ble_eq_true rfl)⟩ dX9_filterParameter_11) hW (fun H locs hW => ?_)
    refine lv_aload_n hxe hcd dX9_filterParameter_14 rfl (lv_at hl 0 rfl) ?_
    refine gf_X9_10 S hW dX9_filterParameter_15 ?_
    refine gf_X9_72 S hW sB_0 dX9_filterParameter_18 ?_
    refine lv_iload_n hxe hcd dX9_filterParameter_21 rfl (lv_at hl 1 rfl) ?_
    refine r_calli0 (r_runV hZ S hW (As := [.int (nI q)]) (rest := []) (t_X0_parameterAt l hZ A g μ H.size sB_0 (nI q)) k_X9_119 (r_recv hW (x := (0, 1)) (in_s sB_0 (by decide)) rfl rfl) (hl.1) rfl rfl (Nat.le_of_ble_eq_true rfl) ⟨Nat.le_of_ble_eq_true rfl, Nat.le_of_ble_eq_true rfl⟩ ⟨Nat.le_of_ble_eq_true rfl, Nat.le_of_ble_eq_true rfl⟩ dX9_filterParameter_22) hW (fun r22 H locs hp22 hW => ?_)
    have hp22 := hp22.symm
    subst hp22
    refine x_iret S hr hlk (Nat.le_of_ble_eq_true rfl) (Nat.le_of_ble_eq_true rfl) (g, A, μ) hW ?_ dX9_filterParameter_25
    exact ⟨q, hqq, rfl, by rw [rd_in (n := 8) (k := q) _ (by omega) (by decide)]; exact (hR.1.2 q hqq).2, ⟨rfl, rfl, (by repeat (first | exact SQ_rfl _ | exact SQ_18 _ _ _ | exact SQ_20 _ _ _ _ | exact hsq | (refine SQ_up ?_ (by first | exact Or.inl rfl | exact Or.inr ⟨rfl, by decide, by decide⟩) _)))⟩⟩
  · exact x_tf hZ S hnt hl.1 hlk (g, A, μ) hW (n := 1) (t_tf1 l hl0 hZ hZX _ _ _ _) ⟨⟨rfl, rfl, (by repeat (first | exact SQ_rfl _ | exact SQ_18 _ _ _ | exact SQ_20 _ _ _ _ | exact hsq | (refine SQ_up ?_ (by first | exact Or.inl rfl | exact Or.inr ⟨rfl, by decide, by decide⟩) _)))⟩, ⟨rfl, hx8⟩⟩ (by decide) ⟨(Nat.le_of_ble_eq_true rfl), (Nat.le_of_ble_eq_true rfl)⟩ (Nat.le_of_ble_eq_true rfl) (Nat.le_of_ble_eq_true rfl) (Nat.le_of_ble_eq_true rfl) (Nat.le_of_ble_eq_true rfl) dX9_filterParameter_11
