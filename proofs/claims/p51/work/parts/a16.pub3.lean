set_option maxHeartbeats 4000000 in
set_option maxRecDepth 100000 in
theorem t_X9_addTank (l : Launch) (hl0 : l.stackTraces = false) {Z : ZT} (hZ : zOK Z) (hZX : ZX Z) (A : Nat × Nat → Nat) (g : Nat → Bool) (μ : CM) (sz : Nat) {v : Nat → Int32} (hVG : VG v) (hR : RP (μ 0) v) {kr cn : Nat} (hkr : kr < 8) (hk15 : μ 0 15 1 = nI kr) (hcn : μ 0 15 2 = nI cn) (hc8 : cn ≤ 8) (x : Int32) : XVi l yX9_addTank cX9_addTank 2 (some .int) 7 15 1376 [.ref (A (0, 14)), .int x] Z (ids g) A (cE Z A g μ) sz (fun r u => (nI 1 ≤ x ∧ x ≤ nI 9) ∧ ntV v < 4 ∧ r = nI (ntV v) ∧ CHG g A μ kr cn v (upd (upd (upd v (29 + 12 * ntV v + 0) x) (29 + 12 * ntV v + 1) (nI 9999)) 1 (nI (ntV v + 1))) u) (fun n u => SM g A μ u ∧ ((n = 2 ∧ ¬ (nI 1 ≤ x ∧ x ≤ nI 9)) ∨ (n = 3 ∧ (nI 1 ≤ x ∧ x ≤ nI 9) ∧ ¬ ntV v < 4))) := by
  refine x_met (E := (cE Z A g μ)) (by decide +kernel) (Nat.le_of_ble_eq_true rfl) ?_
  intro p e s m below meth c ls S hr hlk hnt hsz hW hl
  have hxe := S.1
  have hcd := S.2.1
  subst hsz
  have hl : lv_has ls 2 [(0, .ref (A (0, 14))), (1, .int x)] := hl
  refine lv_aload_n hxe hcd dX9_addTank_0 rfl (lv_at hl 0 rfl) ?_
  refine gf_X9_10 S hW dX9_addTank_1 ?_
  refine gf_X9_193 S hW sB_0 dX9_addTank_4 ?_
  refine lv_iload_n hxe hcd dX9_addTank_7 rfl (lv_at hl 1 rfl) ?_
  refine r_calli0 (r_runV hZ S hW (As := [.int x]) (rest := []) (t_X7_faultOfNewTank l hZ A g μ s.heap.size (Or.inl sB_0) (nt := ntV v) (RP_nt hR hVG) (hVG).2.1.2 x) k_X9_196 (r_recv hW (x := (0, 9)) (in_s sB_0 (by decide)) rfl rfl) (hl.1) rfl rfl (Nat.le_of_ble_eq_true rfl) ⟨Nat.le_of_ble_eq_true rfl, Nat.le_of_ble_eq_true rfl⟩ ⟨Nat.le_of_ble_eq_true rfl, Nat.le_of_ble_eq_true rfl⟩ dX9_addTank_8) hW (fun r8 H locs hp8 hW => ?_)
  rcases hp8 with ⟨rfl, hx, h4⟩ | ⟨rfl, hx⟩ | ⟨rfl, hx, h4⟩
  · obtain ⟨a, ha1, ha9, rfl⟩ := (I_rng2 (by decide) (by decide)).mp hx
    refine r_callv0 (r_runS hZ S hW (As := [.int (nI 0)]) (rest := []) (t_tf0 l hZ (ids g) A (cE Z A g μ) H.size) k_X9_82 hl.1 rfl rfl (Nat.le_of_ble_eq_true rfl) ⟨(Nat.le_of_ble_eq_true rfl), (Nat.le_of_ble_eq_true rfl)⟩ ⟨(Nat.le_of_ble_eq_true rfl), (Nat.le_of_ble_eq_true rfl)⟩ dX9_addTank_11) hW (fun H locs hW => ?_)
    refine lv_aload_n hxe hcd dX9_addTank_14 rfl (lv_at hl 0 rfl) ?_
    refine gf_X9_25 S hW dX9_addTank_15 ?_
    refine lv_aload_n hxe hcd dX9_addTank_18 rfl (lv_at hl 0 rfl) ?_
    refine gf_X9_10 S hW dX9_addTank_19 ?_
    refine r_callvG (r_runV hZ S hW (As := [.ref (A (0, 0))]) (rest := []) (t_X2_push l hZ A g μ H.size hkr hk15 hcn hc8) k_X9_86 (r_recv hW (x := (0, 15)) (in_r (by decide) (by decide)) rfl rfl) hl.1 rfl rfl (Nat.le_of_ble_eq_true rfl) ⟨(Nat.le_of_ble_eq_true rfl), (Nat.le_of_ble_eq_true rfl)⟩ ⟨(Nat.le_of_ble_eq_true rfl), (Nat.le_of_ble_eq_true rfl)⟩ dX9_addTank_22) hW (fun u H locs hp hW => ?_)
    obtain ⟨g, A, μ⟩ := u
    obtain ⟨hg1, hA1, hm1, hk1n, hcnn, hRB⟩ := hp
    simp only at hg1 hA1 hm1 hk1n hcnn hRB
    have hW : wX Z (ids g) A (cE Z A g μ) _ s H locs := hW
    have hRB := hRB v hVG hR
    have hR : RP (μ 0) v := RP_k hR (fun o ho => hm1 0 o (by omega) (by omega))
    have hl : lv_has ls 2 [(0, .ref (A (0, 14))), (1, .int (nI a))] := by
      rw [hA1 _ (in_r (by decide) (by decide))]
      exact hl
    refine lv_aload_n hxe hcd dX9_addTank_25 rfl (lv_at hl 0 rfl) ?_
    refine gf_X9_10 S hW dX9_addTank_26 ?_
    refine gf_X9_193 S hW sB_0 dX9_addTank_29 ?_
    refine lv_iload_n hxe hcd dX9_addTank_32 rfl (lv_at hl 1 rfl) ?_
    refine r_calli (F := (cE Z A g)) (r_runV hZ S hW (As := [.int (nI a)]) (rest := []) (t_X7_putTank l hZ A g μ H.size (Or.inl sB_0) (nt := ntV v) (RP_nt hR hVG) (by omega) (nI a)) k_X9_199 (r_recv hW (x := (0, 9)) (in_s sB_0 (by decide)) rfl rfl) (hl.1) rfl rfl (Nat.le_of_ble_eq_true rfl) ⟨Nat.le_of_ble_eq_true rfl, Nat.le_of_ble_eq_true rfl⟩ ⟨Nat.le_of_ble_eq_true rfl, Nat.le_of_ble_eq_true rfl⟩ dX9_addTank_33) hW (fun r33 u33 H locs hp33 hW => ?_)
    obtain ⟨hp33, hp33m⟩ := hp33
    have hp33 := hp33.symm
    subst hp33
    have hp33m := hp33m.symm
    subst hp33m
    refine x_iret S hr hlk (Nat.le_of_ble_eq_true rfl) (Nat.le_of_ble_eq_true rfl) (g, A, up2 (up2 (up2 (up2 μ 0 10 (upd (μ 0 10) (ntV v) (nI a))) 0 11 (upd (μ 0 11) (ntV v) (nI 9999))) 0 12 (upd (μ 0 12) (ntV v) (nI 0))) 0 9 (upd (μ 0 9) 4 (nI (ntV v + 1)))) hW ?_ dX9_addTank_36
    exact ⟨hx, h4, rfl, CHG_of hkr hg1 hA1 hm1 hk1n hcnn hRB (RP_add hR hVG h4 ⟨ha1, ha9⟩ (by simp [chM, up2_rb, upd_rd]) (by simp [chM, up2_rb, upd_rd]) (by simp [chM, up2_rb, upd_rd]) (by simp [chM, up2_rb, upd_rd]) (fun o ho => by simp only [chM, up2_rb]; rw [if_neg (by omega), if_neg (by omega), if_neg (by omega), if_neg (by omega)])) (by repeat (first | exact SQb_rfl _ _ | refine SQb_up ?_ (by decide) _ | exact SQb_SQ (SQ_18 _ _ _)))⟩
  · exact x_tf hZ S hnt hl.1 hlk (g, A, μ) hW (n := 2) (t_tf2 l hl0 hZ hZX _ _ _ _) ⟨⟨rfl, rfl, (SQ_rfl _)⟩, Or.inl ⟨rfl, hx⟩⟩ (by decide) ⟨(Nat.le_of_ble_eq_true rfl), (Nat.le_of_ble_eq_true rfl)⟩ (Nat.le_of_ble_eq_true rfl) (Nat.le_of_ble_eq_true rfl) (Nat.le_of_ble_eq_true rfl) (Nat.le_of_ble_eq_true rfl) dX9_addTank_11
  · exact x_tf hZ S hnt hl.1 hlk (g, A, μ) hW (n := 3) (t_tf3 l hl0 hZ hZX _ _ _ _) ⟨⟨rfl, rfl, (SQ_rfl _)⟩, Or.inr ⟨rfl, hx, h4⟩⟩ (by decide) ⟨(Nat.le_of_ble_eq_true rfl), (Nat.le_of_ble_eq_true rfl)⟩ (Nat.le_of_ble_eq_true rfl) (Nat.le_of_ble_eq_true rfl) (Nat.le_of_ble_eq_true rfl) (Nat.le_of_ble_eq_true rfl) dX9_addTank_11
set_option maxHeartbeats 4000000 in
set_option maxRecDepth 100000 in
theorem t_X9_setTuning (l : Launch) (hl0 : l.stackTraces = false) {Z : ZT} (hZ : zOK Z) (hZX : ZX Z) (A : Nat × Nat → Nat) (g : Nat → Bool) (μ : CM) (sz : Nat) {v : Nat → Int32} (hVG : VG v) (hR : RP (μ 0) v) {kr cn : Nat} (hkr : kr < 8) (hk15 : μ 0 15 1 = nI kr) (hcn : μ 0 15 2 = nI cn) (hc8 : cn ≤ 8) (x y : Int32) : XVi l yX9_setTuning cX9_setTuning 3 (some .int) 7 15 1376 [.ref (A (0, 14)), .int x, .int y] Z (ids g) A (cE Z A g μ) sz (fun r u => ∃ q, q < ntV v ∧ x = nI q ∧ (nI 0 ≤ y ∧ y ≤ nI 9999) ∧ r = v (29 + 12 * q + 1) ∧ CHG g A μ kr cn v (upd v (29 + 12 * q + 1) y) u) (fun n u => SM g A μ u ∧ ((n = 1 ∧ ¬ IX x (ntV v)) ∨ (n = 2 ∧ IX x (ntV v) ∧ ¬ (nI 0 ≤ y ∧ y ≤ nI 9999)))) := by
  refine x_met (E := (cE Z A g μ)) (by decide +kernel) (Nat.le_of_ble_eq_true rfl) ?_
  intro p e s m below meth c ls S hr hlk hnt hsz hW hl
  have hxe := S.1
  have hcd := S.2.1
  subst hsz
  have hl : lv_has ls 3 [(0, .ref (A (0, 14))), (1, .int x), (2, .int y)] := hl
  refine lv_aload_n hxe hcd dX9_setTuning_0 rfl (lv_at hl 0 rfl) ?_
  refine gf_X9_10 S hW dX9_setTuning_1 ?_
  refine gf_X9_193 S hW sB_0 dX9_setTuning_4 ?_
  refine lv_iload_n hxe hcd dX9_setTuning_7 rfl (lv_at hl 1 rfl) ?_
  refine lv_iload_n hxe hcd dX9_setTuning_8 rfl (lv_at hl 2 rfl) ?_
  refine r_calli0 (r_runV hZ S hW (As := [.int x, .int y]) (rest := []) (t_X7_faultOfNewTuning l hZ A g μ s.heap.size (Or.inl sB_0) (nt := ntV v) (RP_nt hR hVG) (hVG).2.1.2 x y) k_X9_202 (r_recv hW (x := (0, 9)) (in_s sB_0 (by decide)) rfl rfl) (hl.1) rfl rfl (Nat.le_of_ble_eq_true rfl) ⟨Nat.le_of_ble_eq_true rfl, Nat.le_of_ble_eq_true rfl⟩ ⟨Nat.le_of_ble_eq_true rfl, Nat.le_of_ble_eq_true rfl⟩ dX9_setTuning_9) hW (fun r9 H locs hp9 hW => ?_)
  rcases hp9 with ⟨rfl, hx, hy⟩ | ⟨rfl, hx⟩ | ⟨rfl, hx, hy⟩
  · obtain ⟨q, hq, rfl⟩ := hx
    obtain ⟨a, ha0, ha9, rfl⟩ := (I_rng2 (by decide) (by decide)).mp hy
    have hn4 := hVG.2.1.2
    refine r_callv0 (r_runS hZ S hW (As := [.int (nI 0)]) (rest := []) (t_tf0 l hZ (ids g) A (cE Z A g μ) H.size) k_X9_82 hl.1 rfl rfl (Nat.le_of_ble_eq_true rfl) ⟨(Nat.le_of_ble_eq_true rfl), (Nat.le_of_ble_eq_true rfl)⟩ ⟨(Nat.le_of_ble_eq_true rfl), (Nat.le_of_ble_eq_true rfl)⟩ dX9_setTuning_12) hW (fun H locs hW => ?_)
    refine lv_aload_n hxe hcd dX9_setTuning_15 rfl (lv_at hl 0 rfl) ?_
    refine gf_X9_25 S hW dX9_setTuning_16 ?_
    refine lv_aload_n hxe hcd dX9_setTuning_19 rfl (lv_at hl 0 rfl) ?_
    refine gf_X9_10 S hW dX9_setTuning_20 ?_
    refine r_callvG (r_runV hZ S hW (As := [.ref (A (0, 0))]) (rest := []) (t_X2_push l hZ A g μ H.size hkr hk15 hcn hc8) k_X9_86 (r_recv hW (x := (0, 15)) (in_r (by decide) (by decide)) rfl rfl) hl.1 rfl rfl (Nat.le_of_ble_eq_true rfl) ⟨(Nat.le_of_ble_eq_true rfl), (Nat.le_of_ble_eq_true rfl)⟩ ⟨(Nat.le_of_ble_eq_true rfl), (Nat.le_of_ble_eq_true rfl)⟩ dX9_setTuning_23) hW (fun u H locs hp hW => ?_)
    obtain ⟨g, A, μ⟩ := u
    obtain ⟨hg1, hA1, hm1, hk1n, hcnn, hRB⟩ := hp
    simp only at hg1 hA1 hm1 hk1n hcnn hRB
    have hW : wX Z (ids g) A (cE Z A g μ) _ s H locs := hW
    have hRB := hRB v hVG hR
    have hR : RP (μ 0) v := RP_k hR (fun o ho => hm1 0 o (by omega) (by omega))
    have hl : lv_has ls 3 [(0, .ref (A (0, 14))), (1, .int (nI q)), (2, .int (nI a))] := by
      rw [hA1 _ (in_r (by decide) (by decide))]
      exact hl
    refine lv_aload_n hxe hcd dX9_setTuning_26 rfl (lv_at hl 0 rfl) ?_
    refine gf_X9_10 S hW dX9_setTuning_27 ?_
    refine gf_X9_193 S hW sB_0 dX9_setTuning_30 ?_
    refine lv_iload_n hxe hcd dX9_setTuning_33 rfl (lv_at hl 1 rfl) ?_
    refine lv_iload_n hxe hcd dX9_setTuning_34 rfl (lv_at hl 2 rfl) ?_
    refine r_calli (F := (cE Z A g)) (r_runV hZ S hW (As := [.int (nI q), .int (nI a)]) (rest := []) (t_X7_tune l hZ A g μ H.size (Or.inl sB_0) (q := q) (by omega) (nI a)) k_X9_205 (r_recv hW (x := (0, 9)) (in_s sB_0 (by decide)) rfl rfl) (hl.1) rfl rfl (Nat.le_of_ble_eq_true rfl) ⟨Nat.le_of_ble_eq_true rfl, Nat.le_of_ble_eq_true rfl⟩ ⟨Nat.le_of_ble_eq_true rfl, Nat.le_of_ble_eq_true rfl⟩ dX9_setTuning_35) hW (fun r35 u35 H locs hp35 hW => ?_)
    obtain ⟨hp35, hp35m⟩ := hp35
    have hp35 := hp35.symm
    subst hp35
    have hp35m := hp35m.symm
    subst hp35m
    refine x_iret S hr hlk (Nat.le_of_ble_eq_true rfl) (Nat.le_of_ble_eq_true rfl) (g, A, up2 μ 0 11 (upd (μ 0 11) q (nI a))) hW ?_ dX9_setTuning_38
    exact ⟨q, hq, rfl, hy, (hR.2.2.2 q hq).2.1, CHG_of hkr hg1 hA1 hm1 hk1n hcnn hRB (RP_tune hR hVG hq ha9 (by simp [chM, up2_rb, upd_rd]) (fun o ho => by simp only [chM, up2_rb]; rw [if_neg (by omega)])) (by repeat (first | exact SQb_rfl _ _ | refine SQb_up ?_ (by decide) _ | exact SQb_SQ (SQ_18 _ _ _)))⟩
  · exact x_tf hZ S hnt hl.1 hlk (g, A, μ) hW (n := 1) (t_tf1 l hl0 hZ hZX _ _ _ _) ⟨⟨rfl, rfl, (SQ_rfl _)⟩, Or.inl ⟨rfl, hx⟩⟩ (by decide) ⟨(Nat.le_of_ble_eq_true rfl), (Nat.le_of_ble_eq_true rfl)⟩ (Nat.le_of_ble_eq_true rfl) (Nat.le_of_ble_eq_true rfl) (Nat.le_of_ble_eq_true rfl) (Nat.le_of_ble_eq_true rfl) dX9_setTuning_12
  · exact x_tf hZ S hnt hl.1 hlk (g, A, μ) hW (n := 2) (t_tf2 l hl0 hZ hZX _ _ _ _) ⟨⟨rfl, rfl, (SQ_rfl _)⟩, Or.inr ⟨rfl, hx, hy⟩⟩ (by decide) ⟨(Nat.le_of_ble_eq_true rfl), (Nat.le_of_ble_eq_true rfl)⟩ (Nat.le_of_ble_eq_true rfl) (Nat.le_of_ble_eq_true rfl) (Nat.le_of_ble_eq_true rfl) (Nat.le_of_ble_eq_true rfl) dX9_setTuning_12
set_option maxHeartbeats 4000000 in
set_option maxRecDepth 100000 in
theorem t_X9_pour (l : Launch) (hl0 : l.stackTraces = false) {Z : ZT} (hZ : zOK Z) (hZX : ZX Z) (A : Nat × Nat → Nat) (g : Nat → Bool) (μ : CM) (sz : Nat) {v : Nat → Int32} (hVG : VG v) (hR : RP (μ 0) v) {kr cn : Nat} (hkr : kr < 8) (hk15 : μ 0 15 1 = nI kr) (hcn : μ 0 15 2 = nI cn) (hc8 : cn ≤ 8) (x : Int32) : XVi l yX9_pour cX9_pour 2 (some .int) 7 15 1376 [.ref (A (0, 14)), .int x] Z (ids g) A (cE Z A g μ) sz (fun r u => ∃ q, q < 4 ∧ x = nI q ∧ 0 < nnV v q ∧ r = nI (pourC v (ntV v) (ldV (flV v q (nfV v)) (lnV v q)) ((lnV v q + 7) / 8)) ∧ CHG g A μ kr cn v (pourN v (ntV v) (ldV (flV v q (nfV v)) (lnV v q)) ((lnV v q + 7) / 8)) u) (fun n u => SM g A μ u ∧ ((n = 1 ∧ ¬ IX x 4) ∨ (n = 4 ∧ ∃ q, q < 4 ∧ x = nI q ∧ nnV v q = 0))) := by
  refine x_met (E := (cE Z A g μ)) (by decide +kernel) (Nat.le_of_ble_eq_true rfl) ?_
  intro p e s m below meth c ls S hr hlk hnt hsz hW hl
  have hxe := S.1
  have hcd := S.2.1
  subst hsz
  have hl : lv_has ls 2 [(0, .ref (A (0, 14))), (1, .int x)] := hl
  refine lv_aload_n hxe hcd dX9_pour_0 rfl (lv_at hl 0 rfl) ?_
  refine gf_X9_10 S hW dX9_pour_1 ?_
  refine gf_X9_122 S hW sB_0 dX9_pour_4 ?_
  refine lv_iload_n hxe hcd dX9_pour_7 rfl (lv_at hl 1 rfl) ?_
  refine r_calli0 (r_runV hZ S hW (As := [.int x]) (rest := []) (t_X5_faultOfPlaying l hZ A g μ s.heap.size sB_0 (nnV v) (RP_ann hR hVG) x) k_X9_135 (r_recv hW (x := (0, 4)) (in_s sB_0 (by decide)) rfl rfl) (hl.1) rfl rfl (Nat.le_of_ble_eq_true rfl) ⟨Nat.le_of_ble_eq_true rfl, Nat.le_of_ble_eq_true rfl⟩ ⟨Nat.le_of_ble_eq_true rfl, Nat.le_of_ble_eq_true rfl⟩ dX9_pour_8) hW (fun r8 H locs hp8 hW => ?_)
  rcases hp8 with ⟨rfl, q, hq, hx, h0⟩ | ⟨rfl, hx⟩ | ⟨rfl, q, hq, hx, h0⟩
  · subst hx
    refine r_callv0 (r_runS hZ S hW (As := [.int (nI 0)]) (rest := []) (t_tf0 l hZ (ids g) A (cE Z A g μ) H.size) k_X9_82 hl.1 rfl rfl (Nat.le_of_ble_eq_true rfl) ⟨(Nat.le_of_ble_eq_true rfl), (Nat.le_of_ble_eq_true rfl)⟩ ⟨(Nat.le_of_ble_eq_true rfl), (Nat.le_of_ble_eq_true rfl)⟩ dX9_pour_11) hW (fun H locs hW => ?_)
    refine lv_aload_n hxe hcd dX9_pour_14 rfl (lv_at hl 0 rfl) ?_
    refine gf_X9_25 S hW dX9_pour_15 ?_
    refine lv_aload_n hxe hcd dX9_pour_18 rfl (lv_at hl 0 rfl) ?_
    refine gf_X9_10 S hW dX9_pour_19 ?_
    refine r_callvG (r_runV hZ S hW (As := [.ref (A (0, 0))]) (rest := []) (t_X2_push l hZ A g μ H.size hkr hk15 hcn hc8) k_X9_86 (r_recv hW (x := (0, 15)) (in_r (by decide) (by decide)) rfl rfl) hl.1 rfl rfl (Nat.le_of_ble_eq_true rfl) ⟨(Nat.le_of_ble_eq_true rfl), (Nat.le_of_ble_eq_true rfl)⟩ ⟨(Nat.le_of_ble_eq_true rfl), (Nat.le_of_ble_eq_true rfl)⟩ dX9_pour_22) hW (fun u H locs hp hW => ?_)
    obtain ⟨g, A, μ⟩ := u
    obtain ⟨hg1, hA1, hm1, hk1n, hcnn, hRB⟩ := hp
    simp only at hg1 hA1 hm1 hk1n hcnn hRB
    have hW : wX Z (ids g) A (cE Z A g μ) _ s H locs := hW
    have hRB := hRB v hVG hR
    have hR : RP (μ 0) v := RP_k hR (fun o ho => hm1 0 o (by omega) (by omega))
    have hl : lv_has ls 2 [(0, .ref (A (0, 14))), (1, .int (nI q))] := by
      rw [hA1 _ (in_r (by decide) (by decide))]
      exact hl
    refine lv_aload_n hxe hcd dX9_pour_25 rfl (lv_at hl 0 rfl) ?_
    refine lv_aload_n hxe hcd dX9_pour_26 rfl (lv_at hl 0 rfl) ?_
    refine gf_X9_10 S hW dX9_pour_27 ?_
    refine lv_aload_n hxe hcd dX9_pour_30 rfl (lv_at hl 0 rfl) ?_
    refine gf_X9_10 S hW dX9_pour_31 ?_
    refine gf_X9_193 S hW sB_0 dX9_pour_34 ?_
    refine lv_iload_n hxe hcd dX9_pour_37 rfl (lv_at hl 1 rfl) ?_
    refine r_calli (F := (cE Z A g)) (r_runV hZ S hW (As := [.ref (A (0, 0)), .ref (A (0, 9)), .int (nI q)]) (rest := []) (t_X9_pourSong l hZ A g μ H.size (b0 := 0) (b := 0) sB_0 (Or.inl sB_0) (q := q) hq v hVG hR hR.2.2) k_X9_208 (r_recv hW (x := (0, 14)) (in_r (by decide) (by decide)) rfl rfl) (hl.1) rfl rfl (Nat.le_of_ble_eq_true rfl) ⟨Nat.le_of_ble_eq_true rfl, Nat.le_of_ble_eq_true rfl⟩ ⟨Nat.le_of_ble_eq_true rfl, Nat.le_of_ble_eq_true rfl⟩ dX9_pour_38) hW (fun r38 u38 H locs hp38 hW => ?_)
    obtain ⟨hr9, M9, R9, f9, f12, f13, hm9, lv2, hV2, hT2⟩ := hp38
    subst hm9
    subst hr9
    refine x_iret S hr hlk (Nat.le_of_ble_eq_true rfl) (Nat.le_of_ble_eq_true rfl) (g, A, up2 (up2 (up2 (up2 (up2 μ 0 18 M9) 0 19 R9) 0 9 f9) 0 12 f12) 0 13 f13) hW ?_ dX9_pour_41
    exact ⟨q, hq, rfl, h0, rfl, CHG_of hkr hg1 hA1 hm1 hk1n hcnn hRB (RP_pour hR hVG hq hT2 hV2 (fun o ho => TKM_o (by omega))) (by repeat (first | exact SQb_rfl _ _ | refine SQb_up ?_ (by decide) _ | exact SQb_SQ (SQ_18 _ _ _)))⟩
  · exact x_tf hZ S hnt hl.1 hlk (g, A, μ) hW (n := 1) (t_tf1 l hl0 hZ hZX _ _ _ _) ⟨⟨rfl, rfl, (SQ_rfl _)⟩, Or.inl ⟨rfl, hx⟩⟩ (by decide) ⟨(Nat.le_of_ble_eq_true rfl), (Nat.le_of_ble_eq_true rfl)⟩ (Nat.le_of_ble_eq_true rfl) (Nat.le_of_ble_eq_true rfl) (Nat.le_of_ble_eq_true rfl) (Nat.le_of_ble_eq_true rfl) dX9_pour_11
  · exact x_tf hZ S hnt hl.1 hlk (g, A, μ) hW (n := 4) (t_tf4 l hl0 hZ hZX _ _ _ _) ⟨⟨rfl, rfl, (SQ_rfl _)⟩, Or.inr ⟨rfl, q, hq, hx, h0⟩⟩ (by decide) ⟨(Nat.le_of_ble_eq_true rfl), (Nat.le_of_ble_eq_true rfl)⟩ (Nat.le_of_ble_eq_true rfl) (Nat.le_of_ble_eq_true rfl) (Nat.le_of_ble_eq_true rfl) (Nat.le_of_ble_eq_true rfl) dX9_pour_11
set_option maxHeartbeats 4000000 in
set_option maxRecDepth 100000 in
theorem t_X9_drain (l : Launch) (hl0 : l.stackTraces = false) {Z : ZT} (hZ : zOK Z) (hZX : ZX Z) (A : Nat × Nat → Nat) (g : Nat → Bool) (μ : CM) (sz : Nat) {v : Nat → Int32} (hVG : VG v) (hR : RP (μ 0) v) {kr cn : Nat} (hkr : kr < 8) (hk15 : μ 0 15 1 = nI kr) (hcn : μ 0 15 2 = nI cn) (hc8 : cn ≤ 8) (x y : Int32) : XVi l yX9_drain cX9_drain 3 (some .int) 7 15 1376 [.ref (A (0, 14)), .int x, .int y] Z (ids g) A (cE Z A g μ) sz (fun r u => ∃ q j, q < ntV v ∧ x = nI q ∧ 1 ≤ j ∧ j ≤ 9 ∧ y = nI j ∧ j ≤ lvN v q ∧ r = maxR (fun i => v (29 + 12 * q + (3 + i))) j ∧ CHG g A μ kr cn v (drnV v q (lvN v q) j) u) (fun n u => SM g A μ u ∧ ((n = 1 ∧ ¬ IX x (ntV v)) ∨ (n = 2 ∧ IX x (ntV v) ∧ ¬ (nI 1 ≤ y ∧ y ≤ nI 9)) ∨ (n = 4 ∧ ∃ q j, q < ntV v ∧ x = nI q ∧ 1 ≤ j ∧ j ≤ 9 ∧ y = nI j ∧ ¬ j ≤ lvN v q))) := by
  refine x_met (E := (cE Z A g μ)) (by decide +kernel) (Nat.le_of_ble_eq_true rfl) ?_
  intro p e s m below meth c ls S hr hlk hnt hsz hW hl
  have hxe := S.1
  have hcd := S.2.1
  subst hsz
  have hl : lv_has ls 3 [(0, .ref (A (0, 14))), (1, .int x), (2, .int y)] := hl
  refine lv_aload_n hxe hcd dX9_drain_0 rfl (lv_at hl 0 rfl) ?_
  refine gf_X9_10 S hW dX9_drain_1 ?_
  refine gf_X9_193 S hW sB_0 dX9_drain_4 ?_
  refine lv_iload_n hxe hcd dX9_drain_7 rfl (lv_at hl 1 rfl) ?_
  refine lv_iload_n hxe hcd dX9_drain_8 rfl (lv_at hl 2 rfl) ?_
  refine r_calli0 (r_runV hZ S hW (As := [.int x, .int y]) (rest := []) (t_X7_faultOfDraining l hZ A g μ s.heap.size (Or.inl sB_0) (nt := ntV v) (RP_nt hR hVG) (hVG).2.1.2 (lvN v) (RP_alv hR hVG) x y) k_X9_212 (r_recv hW (x := (0, 9)) (in_s sB_0 (by decide)) rfl rfl) (hl.1) rfl rfl (Nat.le_of_ble_eq_true rfl) ⟨Nat.le_of_ble_eq_true rfl, Nat.le_of_ble_eq_true rfl⟩ ⟨Nat.le_of_ble_eq_true rfl, Nat.le_of_ble_eq_true rfl⟩ dX9_drain_9) hW (fun r9 H locs hp9 hW => ?_)
  rcases hp9 with ⟨rfl, q, hq, hx, j, hj1, hj2, hy, hlj⟩ | ⟨rfl, hx⟩ | ⟨rfl, hx, hy⟩ | ⟨rfl, q, hq, hx, j, hj1, hj2, hy, hlj⟩
  · subst hx
    subst hy
    have hn4 := hVG.2.1.2
    refine r_callv0 (r_runS hZ S hW (As := [.int (nI 0)]) (rest := []) (t_tf0 l hZ (ids g) A (cE Z A g μ) H.size) k_X9_82 hl.1 rfl rfl (Nat.le_of_ble_eq_true rfl) ⟨(Nat.le_of_ble_eq_true rfl), (Nat.le_of_ble_eq_true rfl)⟩ ⟨(Nat.le_of_ble_eq_true rfl), (Nat.le_of_ble_eq_true rfl)⟩ dX9_drain_12) hW (fun H locs hW => ?_)
    refine lv_aload_n hxe hcd dX9_drain_15 rfl (lv_at hl 0 rfl) ?_
    refine gf_X9_25 S hW dX9_drain_16 ?_
    refine lv_aload_n hxe hcd dX9_drain_19 rfl (lv_at hl 0 rfl) ?_
    refine gf_X9_10 S hW dX9_drain_20 ?_
    refine r_callvG (r_runV hZ S hW (As := [.ref (A (0, 0))]) (rest := []) (t_X2_push l hZ A g μ H.size hkr hk15 hcn hc8) k_X9_86 (r_recv hW (x := (0, 15)) (in_r (by decide) (by decide)) rfl rfl) hl.1 rfl rfl (Nat.le_of_ble_eq_true rfl) ⟨(Nat.le_of_ble_eq_true rfl), (Nat.le_of_ble_eq_true rfl)⟩ ⟨(Nat.le_of_ble_eq_true rfl), (Nat.le_of_ble_eq_true rfl)⟩ dX9_drain_23) hW (fun u H locs hp hW => ?_)
    obtain ⟨g, A, μ⟩ := u
    obtain ⟨hg1, hA1, hm1, hk1n, hcnn, hRB⟩ := hp
    simp only at hg1 hA1 hm1 hk1n hcnn hRB
    have hW : wX Z (ids g) A (cE Z A g μ) _ s H locs := hW
    have hRB := hRB v hVG hR
    have hR : RP (μ 0) v := RP_k hR (fun o ho => hm1 0 o (by omega) (by omega))
    have hl : lv_has ls 3 [(0, .ref (A (0, 14))), (1, .int (nI q)), (2, .int (nI j))] := by
      rw [hA1 _ (in_r (by decide) (by decide))]
      exact hl
    refine lv_aload_n hxe hcd dX9_drain_26 rfl (lv_at hl 0 rfl) ?_
    refine gf_X9_10 S hW dX9_drain_27 ?_
    refine gf_X9_193 S hW sB_0 dX9_drain_30 ?_
    refine lv_iload_n hxe hcd dX9_drain_33 rfl (lv_at hl 1 rfl) ?_
    refine lv_iload_n hxe hcd dX9_drain_34 rfl (lv_at hl 2 rfl) ?_
    refine r_calli (F := (cE Z A g)) (r_runV hZ S hW (As := [.int (nI q), .int (nI j)]) (rest := []) (t_X7_takeFrames l hZ A g μ H.size (Or.inl sB_0) (q := q) (j := j) (n := lvN v q) (by omega) (RP_alv hR hVG q (by omega)).1 (RP_alv hR hVG q (by omega)).2 (by omega)) k_X9_215 (r_recv hW (x := (0, 9)) (in_s sB_0 (by decide)) rfl rfl) (hl.1) rfl rfl (Nat.le_of_ble_eq_true rfl) ⟨Nat.le_of_ble_eq_true rfl, Nat.le_of_ble_eq_true rfl⟩ ⟨Nat.le_of_ble_eq_true rfl, Nat.le_of_ble_eq_true rfl⟩ dX9_drain_35) hW (fun r35 u35 H locs hp35 hW => ?_)
    obtain ⟨hp35, hp35m⟩ := hp35
    have hp35 := hp35.symm
    subst hp35
    have hp35m := hp35m.symm
    subst hp35m
    refine x_iret S hr hlk (Nat.le_of_ble_eq_true rfl) (Nat.le_of_ble_eq_true rfl) (g, A, up2 (up2 (up2 μ 0 13 (tkR (μ 0 13) (q * 9) j (lvN v q - j))) 0 12 (upd (μ 0 12) q (nI (lvN v q - j)))) 0 9 (upd (μ 0 9) 7 (μ 0 9 7 + nI j))) hW ?_ dX9_drain_38
    exact ⟨q, j, hq, rfl, hj1, hj2, rfl, hlj, maxR_congr (fun i hi => (hR.2.2.2 q hq).2.2.2 i (by omega)), CHG_of hkr hg1 hA1 hm1 hk1n hcnn hRB (RP_drn hR hVG hq hj1 hlj (by simp [chM, up2_rb, upd_rd]) (by simp [chM, up2_rb, upd_rd]) (by simp [chM, up2_rb, upd_rd]) (fun o ho => by simp only [chM, up2_rb]; rw [if_neg (by omega), if_neg (by omega), if_neg (by omega)])) (by repeat (first | exact SQb_rfl _ _ | refine SQb_up ?_ (by decide) _ | exact SQb_SQ (SQ_18 _ _ _)))⟩
  · exact x_tf hZ S hnt hl.1 hlk (g, A, μ) hW (n := 1) (t_tf1 l hl0 hZ hZX _ _ _ _) ⟨⟨rfl, rfl, (SQ_rfl _)⟩, Or.inl ⟨rfl, hx⟩⟩ (by decide) ⟨(Nat.le_of_ble_eq_true rfl), (Nat.le_of_ble_eq_true rfl)⟩ (Nat.le_of_ble_eq_true rfl) (Nat.le_of_ble_eq_true rfl) (Nat.le_of_ble_eq_true rfl) (Nat.le_of_ble_eq_true rfl) dX9_drain_12
  · exact x_tf hZ S hnt hl.1 hlk (g, A, μ) hW (n := 2) (t_tf2 l hl0 hZ hZX _ _ _ _) ⟨⟨rfl, rfl, (SQ_rfl _)⟩, Or.inr (Or.inl ⟨rfl, hx, hy⟩)⟩ (by decide) ⟨(Nat.le_of_ble_eq_true rfl), (Nat.le_of_ble_eq_true rfl)⟩ (Nat.le_of_ble_eq_true rfl) (Nat.le_of_ble_eq_true rfl) (Nat.le_of_ble_eq_true rfl) (Nat.le_of_ble_eq_true rfl) dX9_drain_12
  · exact x_tf hZ S hnt hl.1 hlk (g, A, μ) hW (n := 4) (t_tf4 l hl0 hZ hZX _ _ _ _) ⟨⟨rfl, rfl, (SQ_rfl _)⟩, Or.inr (Or.inr ⟨rfl, q, j, hq, hx, hj1, hj2, hy, hlj⟩)⟩ (by decide) ⟨(Nat.le_of_ble_eq_true rfl), (Nat.le_of_ble_eq_true rfl)⟩ (Nat.le_of_ble_eq_true rfl) (Nat.le_of_ble_eq_true rfl) (Nat.le_of_ble_eq_true rfl) (Nat.le_of_ble_eq_true rfl) dX9_drain_12
set_option maxHeartbeats 4000000 in
set_option maxRecDepth 100000 in
theorem t_X9_tankCount (l : Launch) (hl0 : l.stackTraces = false) {Z : ZT} (hZ : zOK Z) (hZX : ZX Z) (A : Nat × Nat → Nat) (g : Nat → Bool) (μ : CM) (sz : Nat) {v : Nat → Int32} (hVG : VG v) (hR : RP (μ 0) v) : XVi l yX9_tankCount cX9_tankCount 1 (some .int) 7 15 1376 [.ref (A (0, 14))] Z (ids g) A (cE Z A g μ) sz (fun r u => r = v 1 ∧ SM g A μ u) (fun _ _ => False) := by
  refine x_met (E := (cE Z A g μ)) (by decide +kernel) (Nat.le_of_ble_eq_true rfl) ?_
  intro p e s m below meth c ls S hr hlk hnt hsz hW hl
  have hxe := S.1
  have hcd := S.2.1
  subst hsz
  have hl : lv_has ls 1 [(0, .ref (A (0, 14)))] := hl
  refine lv_aload_n hxe hcd dX9_tankCount_0 rfl (lv_at hl 0 rfl) ?_
  refine gf_X9_10 S hW dX9_tankCount_1 ?_
  refine gf_X9_193 S hW sB_0 dX9_tankCount_4 ?_
  refine gf_X9_218 S hW (Or.inl sB_0) dX9_tankCount_7 ?_
  refine x_iret S hr hlk (Nat.le_of_ble_eq_true rfl) (Nat.le_of_ble_eq_true rfl) (g, A, μ) hW ?_ dX9_tankCount_10
  exact ⟨hR.2.2.1.1, rfl, rfl, SQ_rfl _⟩
set_option maxHeartbeats 4000000 in
set_option maxRecDepth 100000 in
theorem t_X9_storedTotal (l : Launch) (hl0 : l.stackTraces = false) {Z : ZT} (hZ : zOK Z) (hZX : ZX Z) (A : Nat × Nat → Nat) (g : Nat → Bool) (μ : CM) (sz : Nat) {v : Nat → Int32} (hVG : VG v) (hR : RP (μ 0) v) : XVi l yX9_storedTotal cX9_storedTotal 1 (some .int) 7 15 1376 [.ref (A (0, 14))] Z (ids g) A (cE Z A g μ) sz (fun r u => r = v 2 ∧ SM g A μ u) (fun _ _ => False) := by
  refine x_met (E := (cE Z A g μ)) (by decide +kernel) (Nat.le_of_ble_eq_true rfl) ?_
  intro p e s m below meth c ls S hr hlk hnt hsz hW hl
  have hxe := S.1
  have hcd := S.2.1
  subst hsz
  have hl : lv_has ls 1 [(0, .ref (A (0, 14)))] := hl
  refine lv_aload_n hxe hcd dX9_storedTotal_0 rfl (lv_at hl 0 rfl) ?_
  refine gf_X9_10 S hW dX9_storedTotal_1 ?_
  refine gf_X9_193 S hW sB_0 dX9_storedTotal_4 ?_
  refine gf_X9_251 S hW (Or.inl sB_0) dX9_storedTotal_7 ?_
  refine x_iret S hr hlk (Nat.le_of_ble_eq_true rfl) (Nat.le_of_ble_eq_true rfl) (g, A, μ) hW ?_ dX9_storedTotal_10
  exact ⟨hR.2.2.1.2.1, rfl, rfl, SQ_rfl _⟩
set_option maxHeartbeats 4000000 in
set_option maxRecDepth 100000 in
theorem t_X9_droppedTotal (l : Launch) (hl0 : l.stackTraces = false) {Z : ZT} (hZ : zOK Z) (hZX : ZX Z) (A : Nat × Nat → Nat) (g : Nat → Bool) (μ : CM) (sz : Nat) {v : Nat → Int32} (hVG : VG v) (hR : RP (μ 0) v) : XVi l yX9_droppedTotal cX9_droppedTotal 1 (some .int) 7 15 1376 [.ref (A (0, 14))] Z (ids g) A (cE Z A g μ) sz (fun r u => r = v 3 ∧ SM g A μ u) (fun _ _ => False) := by
  refine x_met (E := (cE Z A g μ)) (by decide +kernel) (Nat.le_of_ble_eq_true rfl) ?_
  intro p e s m below meth c ls S hr hlk hnt hsz hW hl
  have hxe := S.1
  have hcd := S.2.1
  subst hsz
  have hl : lv_has ls 1 [(0, .ref (A (0, 14)))] := hl
  refine lv_aload_n hxe hcd dX9_droppedTotal_0 rfl (lv_at hl 0 rfl) ?_
  refine gf_X9_10 S hW dX9_droppedTotal_1 ?_
  refine gf_X9_193 S hW sB_0 dX9_droppedTotal_4 ?_
  refine gf_X9_254 S hW (Or.inl sB_0) dX9_droppedTotal_7 ?_
  refine x_iret S hr hlk (Nat.le_of_ble_eq_true rfl) (Nat.le_of_ble_eq_true rfl) (g, A, μ) hW ?_ dX9_droppedTotal_10
  exact ⟨hR.2.2.1.2.2.1, rfl, rfl, SQ_rfl _⟩
set_option maxHeartbeats 4000000 in
set_option maxRecDepth 100000 in
theorem t_X9_drainedTotal (l : Launch) (hl0 : l.stackTraces = false) {Z : ZT} (hZ : zOK Z) (hZX : ZX Z) (A : Nat × Nat → Nat) (g : Nat → Bool) (μ : CM) (sz : Nat) {v : Nat → Int32} (hVG : VG v) (hR : RP (μ 0) v) : XVi l yX9_drainedTotal cX9_drainedTotal 1 (some .int) 7 15 1376 [.ref (A (0, 14))] Z (ids g) A (cE Z A g μ) sz (fun r u => r = v 4 ∧ SM g A μ u) (fun _ _ => False) := by
  refine x_met (E := (cE Z A g μ)) (by decide +kernel) (Nat.le_of_ble_eq_true rfl) ?_
  intro p e s m below meth c ls S hr hlk hnt hsz hW hl
  have hxe := S.1
  have hcd := S.2.1
  subst hsz
  have hl : lv_has ls 1 [(0, .ref (A (0, 14)))] := hl
  refine lv_aload_n hxe hcd dX9_drainedTotal_0 rfl (lv_at hl 0 rfl) ?_
  refine gf_X9_10 S hW dX9_drainedTotal_1 ?_
  refine gf_X9_193 S hW sB_0 dX9_drainedTotal_4 ?_
  refine gf_X9_257 S hW (Or.inl sB_0) dX9_drainedTotal_7 ?_
  refine x_iret S hr hlk (Nat.le_of_ble_eq_true rfl) (Nat.le_of_ble_eq_true rfl) (g, A, μ) hW ?_ dX9_drainedTotal_10
  exact ⟨hR.2.2.1.2.2.2, rfl, rfl, SQ_rfl _⟩
set_option maxHeartbeats 4000000 in
set_option maxRecDepth 100000 in
theorem t_X9_capacity (l : Launch) (hl0 : l.stackTraces = false) {Z : ZT} (hZ : zOK Z) (hZX : ZX Z) (A : Nat × Nat → Nat) (g : Nat → Bool) (μ : CM) (sz : Nat) {v : Nat → Int32} (hVG : VG v) (hR : RP (μ 0) v) (x : Int32) : XVi l yX9_capacity cX9_capacity 2 (some .int) 7 15 1376 [.ref (A (0, 14)), .int x] Z (ids g) A (cE Z A g μ) sz (fun r u => ∃ q, q < ntV v ∧ x = nI q ∧ r = v (29 + 12 * q + 0) ∧ SM g A μ u) (fun n u => SM g A μ u ∧ ((n = 1 ∧ ¬ IX x (ntV v)))) := by
  refine x_met (E := (cE Z A g μ)) (by decide +kernel) (Nat.le_of_ble_eq_true rfl) ?_
  intro p e s m below meth c ls S hr hlk hnt hsz hW hl
  have hxe := S.1
  have hcd := S.2.1
  subst hsz
  have hl : lv_has ls 2 [(0, .ref (A (0, 14))), (1, .int x)] := hl
  refine lv_aload_n hxe hcd dX9_capacity_0 rfl (lv_at hl 0 rfl) ?_
  refine gf_X9_10 S hW dX9_capacity_1 ?_
  refine gf_X9_193 S hW sB_0 dX9_capacity_4 ?_
  refine lv_iload_n hxe hcd dX9_capacity_7 rfl (lv_at hl 1 rfl) ?_
  refine r_calli0 (r_runV hZ S hW (As := [.int x]) (rest := []) (t_X7_faultOfTank l hZ A g μ s.heap.size (Or.inl sB_0) (nt := ntV v) (RP_nt hR hVG) hVG.2.1.2 x) k_X9_219 (r_recv hW (x := (0, 9)) (in_s sB_0 (by decide)) rfl rfl) (hl.1) rfl rfl (Nat.le_of_ble_eq_true rfl) ⟨Nat.le_of_ble_eq_true rfl, Nat.le_of_ble_eq_true rfl⟩ ⟨Nat.le_of_ble_eq_true rfl, Nat.le_of_ble_eq_true rfl⟩ dX9_capacity_8) hW (fun r8 H locs hp8 hW => ?_)
  rcases hp8 with ⟨rfl, hp8⟩ | ⟨rfl, hp8⟩
  · obtain ⟨q, hqq, rfl⟩ := hp8
    have hn8 := hVG.1.2
    have hn4 := hVG.2.1.2
    refine r_callv0 (r_runS hZ S hW (As := [.int (nI 0)]) (rest := []) (t_tf0 l hZ (ids g) A (cE Z A g μ) H.size) k_X9_82 hl.1 rfl rfl (Nat.le_of_ble_eq_true rfl) ⟨(Nat.le_of_ble_eq_true rfl), (Nat.le_of_ble_eq_true rfl)⟩ ⟨(Nat.le_of_ble_eq_true rfl), (Nat.le_of_ble_eq_true rfl)⟩ dX9_capacity_11) hW (fun H locs hW => ?_)
    refine lv_aload_n hxe hcd dX9_capacity_14 rfl (lv_at hl 0 rfl) ?_
    refine gf_X9_10 S hW dX9_capacity_15 ?_
    refine gf_X9_193 S hW sB_0 dX9_capacity_18 ?_
    refine lv_iload_n hxe hcd dX9_capacity_21 rfl (lv_at hl 1 rfl) ?_
    refine r_calli0 (r_runV hZ S hW (As := [.int (nI q)]) (rest := []) (t_X7_capacityOf l hZ A g μ H.size (Or.inl sB_0) (nI q)) k_X9_222 (r_recv hW (x := (0, 9)) (in_s sB_0 (by decide)) rfl rfl) (hl.1) rfl rfl (Nat.le_of_ble_eq_true rfl) ⟨Nat.le_of_ble_eq_true rfl, Nat.le_of_ble_eq_true rfl⟩ ⟨Nat.le_of_ble_eq_true rfl, Nat.le_of_ble_eq_true rfl⟩ dX9_capacity_22) hW (fun r22 H locs hp22 hW => ?_)
    have hp22 := hp22.symm
    subst hp22
    refine x_iret S hr hlk (Nat.le_of_ble_eq_true rfl) (Nat.le_of_ble_eq_true rfl) (g, A, μ) hW ?_ dX9_capacity_25
    exact ⟨q, hqq, rfl, by rw [rd_in (n := 4) (k := q) _ (by omega) (by decide)]; exact (hR.2.2.2 q hqq).1, ⟨rfl, rfl, (SQ_rfl _)⟩⟩
  · exact x_tf hZ S hnt hl.1 hlk (g, A, μ) hW (n := 1) (t_tf1 l hl0 hZ hZX _ _ _ _) ⟨⟨rfl, rfl, (SQ_rfl _)⟩, ⟨rfl, hp8⟩⟩ (by decide) ⟨(Nat.le_of_ble_eq_true rfl), (Nat.le_of_ble_eq_true rfl)⟩ (Nat.le_of_ble_eq_true rfl) (Nat.le_of_ble_eq_true rfl) (Nat.le_of_ble_eq_true rfl) (Nat.le_of_ble_eq_true rfl) dX9_capacity_11
set_option maxHeartbeats 4000000 in
set_option maxRecDepth 100000 in
theorem t_X9_tuning (l : Launch) (hl0 : l.stackTraces = false) {Z : ZT} (hZ : zOK Z) (hZX : ZX Z) (A : Nat × Nat → Nat) (g : Nat → Bool) (μ : CM) (sz : Nat) {v : Nat → Int32} (hVG : VG v) (hR : RP (μ 0) v) (x : Int32) : XVi l yX9_tuning cX9_tuning 2 (some .int) 7 15 1376 [.ref (A (0, 14)), .int x] Z (ids g) A (cE Z A g μ) sz (fun r u => ∃ q, q < ntV v ∧ x = nI q ∧ r = v (29 + 12 * q + 1) ∧ SM g A μ u) (fun n u => SM g A μ u ∧ ((n = 1 ∧ ¬ IX x (ntV v)))) := by
  refine x_met (E := (cE Z A g μ)) (by decide +kernel) (Nat.le_of_ble_eq_true rfl) ?_
  intro p e s m below meth c ls S hr hlk hnt hsz hW hl
  have hxe := S.1
  have hcd := S.2.1
  subst hsz
  have hl : lv_has ls 2 [(0, .ref (A (0, 14))), (1, .int x)] := hl
  refine lv_aload_n hxe hcd dX9_tuning_0 rfl (lv_at hl 0 rfl) ?_
  refine gf_X9_10 S hW dX9_tuning_1 ?_
  refine gf_X9_193 S hW sB_0 dX9_tuning_4 ?_
  refine lv_iload_n hxe hcd dX9_tuning_7 rfl (lv_at hl 1 rfl) ?_
  refine r_calli0 (r_runV hZ S hW (As := [.int x]) (rest := []) (t_X7_faultOfTank l hZ A g μ s.heap.size (Or.inl sB_0) (nt := ntV v) (RP_nt hR hVG) hVG.2.1.2 x) k_X9_219 (r_recv hW (x := (0, 9)) (in_s sB_0 (by decide)) rfl rfl) (hl.1) rfl rfl (Nat.le_of_ble_eq_true rfl) ⟨Nat.le_of_ble_eq_true rfl, Nat.le_of_ble_eq_true rfl⟩ ⟨Nat.le_of_ble_eq_true rfl, Nat.le_of_ble_eq_true rfl⟩ dX9_tuning_8) hW (fun r8 H locs hp8 hW => ?_)
  rcases hp8 with ⟨rfl, hp8⟩ | ⟨rfl, hp8⟩
  · obtain ⟨q, hqq, rfl⟩ := hp8
    have hn8 := hVG.1.2
    have hn4 := hVG.2.1.2
    refine r_callv0 (r_runS hZ S hW (As := [.int (nI 0)]) (rest := []) (t_tf0 l hZ (ids g) A (cE Z A g μ) H.size) k_X9_82 hl.1 rfl rfl (Nat.le_of_ble_eq_true rfl) ⟨(Nat.le_of_ble_eq_true rfl), (Nat.le_of_ble_eq_true rfl)⟩ ⟨(Nat.le_of_ble_eq_true rfl), (Nat.le_of_ble_eq_true rfl)⟩ dX9_tuning_11) hW (fun H locs hW => ?_)
    refine lv_aload_n hxe hcd dX9_tuning_14 rfl (lv_at hl 0 rfl) ?_
    refine gf_X9_10 S hW dX9_tuning_15 ?_
    refine gf_X9_193 S hW sB_0 dX9_tuning_18 ?_
    refine lv_iload_n hxe hcd dX9_tuning_21 rfl (lv_at hl 1 rfl) ?_
    refine r_calli0 (r_runV hZ S hW (As := [.int (nI q)]) (rest := []) (t_X7_tuningOf l hZ A g μ H.size (Or.inl sB_0) (nI q)) k_X9_225 (r_recv hW (x := (0, 9)) (in_s sB_0 (by decide)) rfl rfl) (hl.1) rfl rfl (Nat.le_of_ble_eq_true rfl) ⟨Nat.le_of_ble_eq_true rfl, Nat.le_of_ble_eq_true rfl⟩ ⟨Nat.le_of_ble_eq_true rfl, Nat.le_of_ble_eq_true rfl⟩ dX9_tuning_22) hW (fun r22 H locs hp22 hW => ?_)
    have hp22 := hp22.symm
    subst hp22
    refine x_iret S hr hlk (Nat.le_of_ble_eq_true rfl) (Nat.le_of_ble_eq_true rfl) (g, A, μ) hW ?_ dX9_tuning_25
    exact ⟨q, hqq, rfl, by rw [rd_in (n := 4) (k := q) _ (by omega) (by decide)]; exact (hR.2.2.2 q hqq).2.1, ⟨rfl, rfl, (SQ_rfl _)⟩⟩
  · exact x_tf hZ S hnt hl.1 hlk (g, A, μ) hW (n := 1) (t_tf1 l hl0 hZ hZX _ _ _ _) ⟨⟨rfl, rfl, (SQ_rfl _)⟩, ⟨rfl, hp8⟩⟩ (by decide) ⟨(Nat.le_of_ble_eq_true rfl), (Nat.le_of_ble_eq_true rfl)⟩ (Nat.le_of_ble_eq_true rfl) (Nat.le_of_ble_eq_true rfl) (Nat.le_of_ble_eq_true rfl) (Nat.le_of_ble_eq_true rfl) dX9_tuning_11
set_option maxHeartbeats 4000000 in
set_option maxRecDepth 100000 in
theorem t_X9_level (l : Launch) (hl0 : l.stackTraces = false) {Z : ZT} (hZ : zOK Z) (hZX : ZX Z) (A : Nat × Nat → Nat) (g : Nat → Bool) (μ : CM) (sz : Nat) {v : Nat → Int32} (hVG : VG v) (hR : RP (μ 0) v) (x : Int32) : XVi l yX9_level cX9_level 2 (some .int) 7 15 1376 [.ref (A (0, 14)), .int x] Z (ids g) A (cE Z A g μ) sz (fun r u => ∃ q, q < ntV v ∧ x = nI q ∧ r = v (29 + 12 * q + 2) ∧ SM g A μ u) (fun n u => SM g A μ u ∧ ((n = 1 ∧ ¬ IX x (ntV v)))) := by
  refine x_met (E := (cE Z A g μ)) (by decide +kernel) (Nat.le_of_ble_eq_true rfl) ?_
  intro p e s m below meth c ls S hr hlk hnt hsz hW hl
  have hxe := S.1
  have hcd := S.2.1
  subst hsz
  have hl : lv_has ls 2 [(0, .ref (A (0, 14))), (1, .int x)] := hl
  refine lv_aload_n hxe hcd dX9_level_0 rfl (lv_at hl 0 rfl) ?_
  refine gf_X9_10 S hW dX9_level_1 ?_
  refine gf_X9_193 S hW sB_0 dX9_level_4 ?_
  refine lv_iload_n hxe hcd dX9_level_7 rfl (lv_at hl 1 rfl) ?_
  refine r_calli0 (r_runV hZ S hW (As := [.int x]) (rest := []) (t_X7_faultOfTank l hZ A g μ s.heap.size (Or.inl sB_0) (nt := ntV v) (RP_nt hR hVG) hVG.2.1.2 x) k_X9_219 (r_recv hW (x := (0, 9)) (in_s sB_0 (by decide)) rfl rfl) (hl.1) rfl rfl (Nat.le_of_ble_eq_true rfl) ⟨Nat.le_of_ble_eq_true rfl, Nat.le_of_ble_eq_true rfl⟩ ⟨Nat.le_of_ble_eq_true rfl, Nat.le_of_ble_eq_true rfl⟩ dX9_level_8) hW (fun r8 H locs hp8 hW => ?_)
  rcases hp8 with ⟨rfl, hp8⟩ | ⟨rfl, hp8⟩
  · obtain ⟨q, hqq, rfl⟩ := hp8
    have hn8 := hVG.1.2
    have hn4 := hVG.2.1.2
    refine r_callv0 (r_runS hZ S hW (As := [.int (nI 0)]) (rest := []) (t_tf0 l hZ (ids g) A (cE Z A g μ) H.size) k_X9_82 hl.1 rfl rfl (Nat.le_of_ble_eq_true rfl) ⟨(Nat.le_of_ble_eq_true rfl), (Nat.le_of_ble_eq_true rfl)⟩ ⟨(Nat.le_of_ble_eq_true rfl), (Nat.le_of_ble_eq_true rfl)⟩ dX9_level_11) hW (fun H locs hW => ?_)
    refine lv_aload_n hxe hcd dX9_level_14 rfl (lv_at hl 0 rfl) ?_
    refine gf_X9_10 S hW dX9_level_15 ?_
    refine gf_X9_193 S hW sB_0 dX9_level_18 ?_
    refine lv_iload_n hxe hcd dX9_level_21 rfl (lv_at hl 1 rfl) ?_
    refine r_calli0 (r_runV hZ S hW (As := [.int (nI q)]) (rest := []) (t_X7_levelOf l hZ A g μ H.size (Or.inl sB_0) (nI q)) k_X9_228 (r_recv hW (x := (0, 9)) (in_s sB_0 (by decide)) rfl rfl) (hl.1) rfl rfl (Nat.le_of_ble_eq_true rfl) ⟨Nat.le_of_ble_eq_true rfl, Nat.le_of_ble_eq_true rfl⟩ ⟨Nat.le_of_ble_eq_true rfl, Nat.le_of_ble_eq_true rfl⟩ dX9_level_22) hW (fun r22 H locs hp22 hW => ?_)
    have hp22 := hp22.symm
    subst hp22
    refine x_iret S hr hlk (Nat.le_of_ble_eq_true rfl) (Nat.le_of_ble_eq_true rfl) (g, A, μ) hW ?_ dX9_level_25
    exact ⟨q, hqq, rfl, by rw [rd_in (n := 4) (k := q) _ (by omega) (by decide)]; exact (hR.2.2.2 q hqq).2.2.1, ⟨rfl, rfl, (SQ_rfl _)⟩⟩
  · exact x_tf hZ S hnt hl.1 hlk (g, A, μ) hW (n := 1) (t_tf1 l hl0 hZ hZX _ _ _ _) ⟨⟨rfl, rfl, (SQ_rfl _)⟩, ⟨rfl, hp8⟩⟩ (by decide) ⟨(Nat.le_of_ble_eq_true rfl), (Nat.le_of_ble_eq_true rfl)⟩ (Nat.le_of_ble_eq_true rfl) (Nat.le_of_ble_eq_true rfl) (Nat.le_of_ble_eq_true rfl) (Nat.le_of_ble_eq_true rfl) dX9_level_11
set_option maxHeartbeats 4000000 in
set_option maxRecDepth 100000 in
theorem t_X9_frameLoudness (l : Launch) (hl0 : l.stackTraces = false) {Z : ZT} (hZ : zOK Z) (hZX : ZX Z) (A : Nat × Nat → Nat) (g : Nat → Bool) (μ : CM) (sz : Nat) {v : Nat → Int32} (hVG : VG v) (hR : RP (μ 0) v) (x y : Int32) : XVi l yX9_frameLoudness cX9_frameLoudness 3 (some .int) 7 15 1376 [.ref (A (0, 14)), .int x, .int y] Z (ids g) A (cE Z A g μ) sz (fun r u => ∃ q j, q < ntV v ∧ x = nI q ∧ j < lvN v q ∧ y = nI j ∧ r = v (29 + 12 * q + (3 + j)) ∧ SM g A μ u) (fun n u => SM g A μ u ∧ ((n = 1 ∧ ¬ IX x (ntV v)) ∨ (n = 4 ∧ ∃ q, q < ntV v ∧ x = nI q ∧ ¬ IX y (lvN v q)))) := by
  refine x_met (E := (cE Z A g μ)) (by decide +kernel) (Nat.le_of_ble_eq_true rfl) ?_
  intro p e s m below meth c ls S hr hlk hnt hsz hW hl
  have hxe := S.1
  have hcd := S.2.1
  subst hsz
  have hl : lv_has ls 3 [(0, .ref (A (0, 14))), (1, .int x), (2, .int y)] := hl
  refine lv_aload_n hxe hcd dX9_frameLoudness_0 rfl (lv_at hl 0 rfl) ?_
  refine gf_X9_10 S hW dX9_frameLoudness_1 ?_
  refine gf_X9_193 S hW sB_0 dX9_frameLoudness_4 ?_
  refine lv_iload_n hxe hcd dX9_frameLoudness_7 rfl (lv_at hl 1 rfl) ?_
  refine lv_iload_n hxe hcd dX9_frameLoudness_8 rfl (lv_at hl 2 rfl) ?_
  refine r_calli0 (r_runV hZ S hW (As := [.int x, .int y]) (rest := []) (t_X7_faultOfFrame l hZ A g μ s.heap.size (Or.inl sB_0) (nt := ntV v) (RP_nt hR hVG) hVG.2.1.2 (lvN v) (RP_alv hR hVG) x y) k_X9_231 (r_recv hW (x := (0, 9)) (in_s sB_0 (by decide)) rfl rfl) (hl.1) rfl rfl (Nat.le_of_ble_eq_true rfl) ⟨Nat.le_of_ble_eq_true rfl, Nat.le_of_ble_eq_true rfl⟩ ⟨Nat.le_of_ble_eq_true rfl, Nat.le_of_ble_eq_true rfl⟩ dX9_frameLoudness_9) hW (fun r9 H locs hp9 hW => ?_)
  rcases hp9 with ⟨rfl, q, hq, hx, hy⟩ | ⟨rfl, hx⟩ | ⟨rfl, q, hq, hx, hy⟩
  · subst hx
    obtain ⟨j, hj, rfl⟩ := hy
    have hn4 := hVG.2.1.2
    have hl9 := (RP_alv hR hVG q hq).2
    refine r_callv0 (r_runS hZ S hW (As := [.int (nI 0)]) (rest := []) (t_tf0 l hZ (ids g) A (cE Z A g μ) H.size) k_X9_82 hl.1 rfl rfl (Nat.le_of_ble_eq_true rfl) ⟨(Nat.le_of_ble_eq_true rfl), (Nat.le_of_ble_eq_true rfl)⟩ ⟨(Nat.le_of_ble_eq_true rfl), (Nat.le_of_ble_eq_true rfl)⟩ dX9_frameLoudness_12) hW (fun H locs hW => ?_)
    refine lv_aload_n hxe hcd dX9_frameLoudness_15 rfl (lv_at hl 0 rfl) ?_
    refine gf_X9_10 S hW dX9_frameLoudness_16 ?_
    refine gf_X9_193 S hW sB_0 dX9_frameLoudness_19 ?_
    refine lv_iload_n hxe hcd dX9_frameLoudness_22 rfl (lv_at hl 1 rfl) ?_
    refine lv_iload_n hxe hcd dX9_frameLoudness_23 rfl (lv_at hl 2 rfl) ?_
    refine r_calli0 (r_runV hZ S hW (As := [.int (nI q), .int (nI j)]) (rest := []) (t_X7_frameAt l hZ A g μ H.size (Or.inl sB_0) (q := q) (i := j) (by omega) (by omega)) k_X9_234 (r_recv hW (x := (0, 9)) (in_s sB_0 (by decide)) rfl rfl) (hl.1) rfl rfl (Nat.le_of_ble_eq_true rfl) ⟨Nat.le_of_ble_eq_true rfl, Nat.le_of_ble_eq_true rfl⟩ ⟨Nat.le_of_ble_eq_true rfl, Nat.le_of_ble_eq_true rfl⟩ dX9_frameLoudness_24) hW (fun r24 H locs hp24 hW => ?_)
    have hp24 := hp24.symm
    subst hp24
    refine x_iret S hr hlk (Nat.le_of_ble_eq_true rfl) (Nat.le_of_ble_eq_true rfl) (g, A, μ) hW ?_ dX9_frameLoudness_27
    exact ⟨q, j, hq, rfl, hj, rfl, (hR.2.2.2 q hq).2.2.2 j hj, ⟨rfl, rfl, (SQ_rfl _)⟩⟩
  · exact x_tf hZ S hnt hl.1 hlk (g, A, μ) hW (n := 1) (t_tf1 l hl0 hZ hZX _ _ _ _) ⟨⟨rfl, rfl, (SQ_rfl _)⟩, Or.inl ⟨rfl, hx⟩⟩ (by decide) ⟨(Nat.le_of_ble_eq_true rfl), (Nat.le_of_ble_eq_true rfl)⟩ (Nat.le_of_ble_eq_true rfl) (Nat.le_of_ble_eq_true rfl) (Nat.le_of_ble_eq_true rfl) (Nat.le_of_ble_eq_true rfl) dX9_frameLoudness_12
  · exact x_tf hZ S hnt hl.1 hlk (g, A, μ) hW (n := 4) (t_tf4 l hl0 hZ hZX _ _ _ _) ⟨⟨rfl, rfl, (SQ_rfl _)⟩, Or.inr ⟨rfl, q, hq, hx, hy⟩⟩ (by decide) ⟨(Nat.le_of_ble_eq_true rfl), (Nat.le_of_ble_eq_true rfl)⟩ (Nat.le_of_ble_eq_true rfl) (Nat.le_of_ble_eq_true rfl) (Nat.le_of_ble_eq_true rfl) (Nat.le_of_ble_eq_true rfl) dX9_frameLoudness_12
set_option maxHeartbeats 4000000 in
set_option maxRecDepth 100000 in
theorem t_X9_append (l : Launch) (hl0 : l.stackTraces = false) {Z : ZT} (hZ : zOK Z) (hZX : ZX Z) (A : Nat × Nat → Nat) (g : Nat → Bool) (μ : CM) (sz : Nat) {tn : Nat} (htn : μ 0 22 1 = nI tn) (htn60 : tn ≤ 60) (x : Int32) : XVi l yX9_append cX9_append 2 (some .int) 7 15 1376 [.ref (A (0, 14)), .int x] Z (ids g) A (cE Z A g μ) sz (fun r u => (nI 32 ≤ x ∧ x ≤ nI 126) ∧ tn < 60 ∧ r = nI (tn + 1) ∧ u = (g, A, up2 (up2 μ 0 23 (upd (μ 0 23) tn x)) 0 22 (upd (μ 0 22) 1 (nI (tn + 1))))) (fun n u => SM g A μ u ∧ ((n = 2 ∧ ¬ (nI 32 ≤ x ∧ x ≤ nI 126)) ∨ (n = 3 ∧ (nI 32 ≤ x ∧ x ≤ nI 126) ∧ ¬ tn < 60))) := by
  refine x_met (E := (cE Z A g μ)) (by decide +kernel) (Nat.le_of_ble_eq_true rfl) ?_
  intro p e s m below meth c ls S hr hlk hnt hsz hW hl
  have hxe := S.1
  have hcd := S.2.1
  subst hsz
  have hl : lv_has ls 2 [(0, .ref (A (0, 14))), (1, .int x)] := hl
  refine lv_aload_n hxe hcd dX9_append_0 rfl (lv_at hl 0 rfl) ?_
  refine gf_X9_50 S hW dX9_append_1 ?_
  refine lv_iload_n hxe hcd dX9_append_4 rfl (lv_at hl 1 rfl) ?_
  refine r_calli0 (r_runV hZ S hW (As := [.int x]) (rest := []) (t_X1_faultOfCharacter l hZ A g μ s.heap.size htn htn60 x) k_X9_260 (r_recv hW (x := (0, 22)) (in_r (by decide) (by decide)) rfl rfl) (hl.1) rfl rfl (Nat.le_of_ble_eq_true rfl) ⟨Nat.le_of_ble_eq_true rfl, Nat.le_of_ble_eq_true rfl⟩ ⟨Nat.le_of_ble_eq_true rfl, Nat.le_of_ble_eq_true rfl⟩ dX9_append_5) hW (fun r5 H locs hp5 hW => ?_)
  rcases hp5 with ⟨hx, rfl⟩ | ⟨hx, h6, rfl⟩ | ⟨hx, h6, rfl⟩
  · exact x_tf hZ S hnt hl.1 hlk (g, A, μ) hW (n := 2) (t_tf2 l hl0 hZ hZX _ _ _ _) ⟨⟨rfl, rfl, (SQ_rfl _)⟩, Or.inl ⟨rfl, hx⟩⟩ (by decide) ⟨(Nat.le_of_ble_eq_true rfl), (Nat.le_of_ble_eq_true rfl)⟩ (Nat.le_of_ble_eq_true rfl) (Nat.le_of_ble_eq_true rfl) (Nat.le_of_ble_eq_true rfl) (Nat.le_of_ble_eq_true rfl) dX9_append_8
  · refine r_callv0 (r_runS hZ S hW (As := [.int (nI 0)]) (rest := []) (t_tf0 l hZ (ids g) A (cE Z A g μ) H.size) k_X9_82 hl.1 rfl rfl (Nat.le_of_ble_eq_true rfl) ⟨(Nat.le_of_ble_eq_true rfl), (Nat.le_of_ble_eq_true rfl)⟩ ⟨(Nat.le_of_ble_eq_true rfl), (Nat.le_of_ble_eq_true rfl)⟩ dX9_append_8) hW (fun H locs hW => ?_)
    refine lv_aload_n hxe hcd dX9_append_11 rfl (lv_at hl 0 rfl) ?_
    refine gf_X9_50 S hW dX9_append_12 ?_
    refine lv_iload_n hxe hcd dX9_append_15 rfl (lv_at hl 1 rfl) ?_
    refine r_calli (F := (cE Z A g)) (r_runV hZ S hW (As := [.int x]) (rest := []) (t_X1_putCharacter l hZ A g μ H.size htn h6 x) k_X9_264 (r_recv hW (x := (0, 22)) (in_r (by decide) (by decide)) rfl rfl) (hl.1) rfl rfl (Nat.le_of_ble_eq_true rfl) ⟨Nat.le_of_ble_eq_true rfl, Nat.le_of_ble_eq_true rfl⟩ ⟨Nat.le_of_ble_eq_true rfl, Nat.le_of_ble_eq_true rfl⟩ dX9_append_16) hW (fun r16 u16 H locs hp16 hW => ?_)
    obtain ⟨hp16, hp16m⟩ := hp16
    have hp16 := hp16.symm
    subst hp16
    have hp16m := hp16m.symm
    subst hp16m
    refine x_iret S hr hlk (Nat.le_of_ble_eq_true rfl) (Nat.le_of_ble_eq_true rfl) (g, A, up2 (up2 μ 0 23 (upd (μ 0 23) tn x)) 0 22 (upd (μ 0 22) 1 (nI (tn + 1)))) hW ?_ dX9_append_19
    exact ⟨hx, h6, rfl, rfl⟩
  · exact x_tf hZ S hnt hl.1 hlk (g, A, μ) hW (n := 3) (t_tf3 l hl0 hZ hZX _ _ _ _) ⟨⟨rfl, rfl, (SQ_rfl _)⟩, Or.inr ⟨rfl, hx, h6⟩⟩ (by decide) ⟨(Nat.le_of_ble_eq_true rfl), (Nat.le_of_ble_eq_true rfl)⟩ (Nat.le_of_ble_eq_true rfl) (Nat.le_of_ble_eq_true rfl) (Nat.le_of_ble_eq_true rfl) (Nat.le_of_ble_eq_true rfl) dX9_append_8
