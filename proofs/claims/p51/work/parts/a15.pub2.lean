theorem NV_P {y am le : Int32} (h : NV y am le) : ∃ P, 2 ≤ P ∧ P ≤ 20 ∧ y = nI P := (I_rng2 (by decide) (by decide)).mp h.1
theorem MIX {v : Nat → Int32} (hVG : VG v) {q1 q2 : Nat} (h1 : q1 < 4) (h2 : q2 < 4) {z : Int32} (h : IX z (lnV v q1) ∨ IX z (lnV v q2)) : ∃ i, z = nI i ∧ (i < lnV v q1 ∨ i < lnV v q2) ∧ flz v q1 z + flz v q2 z = (if i < lnV v q1 then flV v q1 (nfV v) i else 0) + (if i < lnV v q2 then flV v q2 (nfV v) i else 0) := by
  have k1 := VG_ln hVG h1
  have k2 := VG_ln hVG h2
  have key : ∀ {q i : Nat}, q < 4 → i < 160 → flz v q (nI i) = if i < lnV v q then flV v q (nfV v) i else 0 := fun {q i} hq hi => by
    have k := VG_ln hVG hq
    by_cases e : i < lnV v q
    · rw [if_pos e, flz_in e k]
    · rw [if_neg e, flz_out (fun z => e ((IX_nI (by omega) (by omega)).mp z))]
      rfl
  rcases h with ⟨i, hi, hz⟩ | ⟨i, hi, hz⟩
  · exact ⟨i, hz, Or.inl hi, by rw [hz, key h1 (by omega), key h2 (by omega)]⟩
  · exact ⟨i, hz, Or.inr hi, by rw [hz, key h1 (by omega), key h2 (by omega)]⟩
set_option maxHeartbeats 4000000 in
set_option maxRecDepth 100000 in
theorem t_X9_addNote (l : Launch) (hl0 : l.stackTraces = false) {Z : ZT} (hZ : zOK Z) (hZX : ZX Z) (A : Nat × Nat → Nat) (g : Nat → Bool) (μ : CM) (sz : Nat) {v : Nat → Int32} (hVG : VG v) (hR : RP (μ 0) v) {kr cn : Nat} (hkr : kr < 8) (hk15 : μ 0 15 1 = nI kr) (hcn : μ 0 15 2 = nI cn) (hc8 : cn ≤ 8) (x y am le : Int32) : XVi l yX9_addNote cX9_addNote 5 (some .int) 7 15 1376 [.ref (A (0, 14)), .int x, .int y, .int am, .int le] Z (ids g) A (cE Z A g μ) sz (fun r u => ∃ q k P, q < 4 ∧ x = nI q ∧ NV y am le ∧ 1 ≤ k ∧ k ≤ 40 ∧ le = nI k ∧ 2 ≤ P ∧ P ≤ 20 ∧ y = nI P ∧ lnV v q + k ≤ 160 ∧ r = nI (lnV v q + k) ∧ CHG g A μ kr cn v (noteV v q (lnV v q) (nnV v q) P am k) u) (fun n u => SM g A μ u ∧ ((n = 1 ∧ ¬ IX x 4) ∨ (n = 2 ∧ IX x 4 ∧ ¬ NV y am le) ∨ (n = 3 ∧ ∃ q k, q < 4 ∧ x = nI q ∧ NV y am le ∧ 1 ≤ k ∧ k ≤ 40 ∧ le = nI k ∧ ¬ lnV v q + k ≤ 160))) := by
  refine x_met (E := (cE Z A g μ)) (by decide +kernel) (Nat.le_of_ble_eq_true rfl) ?_
  intro p e s m below meth c ls S hr hlk hnt hsz hW hl
  have hxe := S.1
  have hcd := S.2.1
  subst hsz
  have hl : lv_has ls 5 [(0, .ref (A (0, 14))), (1, .int x), (2, .int y), (3, .int am), (4, .int le)] := hl
  refine lv_aload_n hxe hcd dX9_addNote_0 rfl (lv_at hl 0 rfl) ?_
  refine gf_X9_10 S hW dX9_addNote_1 ?_
  refine gf_X9_122 S hW sB_0 dX9_addNote_4 ?_
  refine lv_iload_n hxe hcd dX9_addNote_7 rfl (lv_at hl 1 rfl) ?_
  refine lv_iload_n hxe hcd dX9_addNote_8 rfl (lv_at hl 2 rfl) ?_
  refine lv_iload_n hxe hcd dX9_addNote_9 rfl (lv_at hl 3 rfl) ?_
  refine lv_iload hxe hcd dX9_addNote_10 (lv_at hl 4 rfl) ?_
  refine r_calli0 (r_runV hZ S hW (As := [.int x, .int y, .int am, .int le]) (rest := []) (t_X5_faultOfNewNote l hZ A g μ s.heap.size sB_0 (lnV v) (RP_aln hR hVG) x y am le) k_X9_126 (r_recv hW (x := (0, 4)) (in_s sB_0 (by decide)) rfl rfl) (hl.1) rfl rfl (Nat.le_of_ble_eq_true rfl) ⟨Nat.le_of_ble_eq_true rfl, Nat.le_of_ble_eq_true rfl⟩ ⟨Nat.le_of_ble_eq_true rfl, Nat.le_of_ble_eq_true rfl⟩ dX9_addNote_12) hW (fun r12 H locs hp12 hW => ?_)
  rcases hp12 with ⟨rfl, q, hq, hx, nv, k, hk1, hk2, hk, hfit⟩ | ⟨rfl, hx⟩ | ⟨rfl, hx, nv⟩ | ⟨rfl, q, hq, hx, nv, k, hk1, hk2, hk, hfit⟩
  · subst hx
    subst hk
    obtain ⟨P, hP1, hP2, rfl⟩ := NV_P nv
    have hnn := hVG.2.2.2.1 q hq
    have hn160 := VG_ln hVG hq
    refine r_callv0 (r_runS hZ S hW (As := [.int (nI 0)]) (rest := []) (t_tf0 l hZ (ids g) A (cE Z A g μ) H.size) k_X9_82 hl.1 rfl rfl (Nat.le_of_ble_eq_true rfl) ⟨(Nat.le_of_ble_eq_true rfl), (Nat.le_of_ble_eq_true rfl)⟩ ⟨(Nat.le_of_ble_eq_true rfl), (Nat.le_of_ble_eq_true rfl)⟩ dX9_addNote_15) hW (fun H locs hW => ?_)
    refine lv_aload_n hxe hcd dX9_addNote_18 rfl (lv_at hl 0 rfl) ?_
    refine gf_X9_25 S hW dX9_addNote_19 ?_
    refine lv_aload_n hxe hcd dX9_addNote_22 rfl (lv_at hl 0 rfl) ?_
    refine gf_X9_10 S hW dX9_addNote_23 ?_
    refine r_callvG (r_runV hZ S hW (As := [.ref (A (0, 0))]) (rest := []) (t_X2_push l hZ A g μ H.size hkr hk15 hcn hc8) k_X9_86 (r_recv hW (x := (0, 15)) (in_r (by decide) (by decide)) rfl rfl) hl.1 rfl rfl (Nat.le_of_ble_eq_true rfl) ⟨(Nat.le_of_ble_eq_true rfl), (Nat.le_of_ble_eq_true rfl)⟩ ⟨(Nat.le_of_ble_eq_true rfl), (Nat.le_of_ble_eq_true rfl)⟩ dX9_addNote_26) hW (fun u H locs hp hW => ?_)
    obtain ⟨g, A, μ⟩ := u
    obtain ⟨hg1, hA1, hm1, hk1n, hcnn, hRB⟩ := hp
    simp only at hg1 hA1 hm1 hk1n hcnn hRB
    have hW : wX Z (ids g) A (cE Z A g μ) _ s H locs := hW
    have hRB := hRB v hVG hR
    have hR : RP (μ 0) v := RP_k hR (fun o ho => hm1 0 o (by omega) (by omega))
    have hl : lv_has ls 5 [(0, .ref (A (0, 14))), (1, .int (nI q)), (2, .int (nI P)), (3, .int am), (4, .int (nI k))] := by
      rw [hA1 _ (in_r (by decide) (by decide))]
      exact hl
    refine lv_aload_n hxe hcd dX9_addNote_29 rfl (lv_at hl 0 rfl) ?_
    refine gf_X9_10 S hW dX9_addNote_30 ?_
    refine gf_X9_122 S hW sB_0 dX9_addNote_33 ?_
    refine lv_iload_n hxe hcd dX9_addNote_36 rfl (lv_at hl 1 rfl) ?_
    refine lv_iload_n hxe hcd dX9_addNote_37 rfl (lv_at hl 2 rfl) ?_
    refine lv_iload_n hxe hcd dX9_addNote_38 rfl (lv_at hl 3 rfl) ?_
    refine lv_iload hxe hcd dX9_addNote_39 (lv_at hl 4 rfl) ?_
    refine r_calli (F := (cE Z A g)) (r_runV hZ S hW (As := [.int (nI q), .int (nI P), .int am, .int (nI k)]) (rest := []) (t_X5_putNote l hZ A g μ H.size sB_0 (q := q) (n := lnV v q) (k := k) (j := nnV v q) (P := P) am (by omega) (RP_l7 hR hVG (by omega)) (by omega) (RP_l8 hR hVG (by omega)) (by omega) (by omega) (by omega)) k_X9_132 (r_recv hW (x := (0, 4)) (in_s sB_0 (by decide)) rfl rfl) (hl.1) rfl rfl (Nat.le_of_ble_eq_true rfl) ⟨Nat.le_of_ble_eq_true rfl, Nat.le_of_ble_eq_true rfl⟩ ⟨Nat.le_of_ble_eq_true rfl, Nat.le_of_ble_eq_true rfl⟩ dX9_addNote_41) hW (fun r41 u41 H locs hp41 hW => ?_)
    obtain ⟨hp41, hp41m⟩ := hp41
    have hp41 := hp41.symm
    subst hp41
    have hp41m := hp41m.symm
    subst hp41m
    refine x_iret S hr hlk (Nat.le_of_ble_eq_true rfl) (Nat.le_of_ble_eq_true rfl) (g, A, up2 (up2 (up2 (up2 μ 0 5 (ntR (μ 0 5) (q * 160 + lnV v q) P am k)) 0 6 (upd (μ 0 6) (q * 160 + nnV v q) (nI k))) 0 8 (upd (μ 0 8) q (nI (nnV v q + 1)))) 0 7 (upd (μ 0 7) q (nI (lnV v q + k)))) hW ?_ dX9_addNote_44
    exact ⟨q, k, P, hq, rfl, nv, hk1, hk2, rfl, hP1, hP2, rfl, hfit, rfl, CHG_of hkr hg1 hA1 hm1 hk1n hcnn hRB (RP_note hR hVG hq (by omega) hfit nv.2.1 (by simp [chM, up2_rb, upd_rd]) (by simp [chM, up2_rb, upd_rd]) (by simp [chM, up2_rb, upd_rd]) (by simp [chM, up2_rb, upd_rd]) (fun o ho => by simp only [chM, up2_rb]; rw [if_neg (by omega), if_neg (by omega), if_neg (by omega), if_neg (by omega)])) (by repeat (first | exact SQb_rfl _ _ | refine SQb_up ?_ (by decide) _ | exact SQb_SQ (SQ_18 _ _ _)))⟩
  · exact x_tf hZ S hnt hl.1 hlk (g, A, μ) hW (n := 1) (t_tf1 l hl0 hZ hZX _ _ _ _) ⟨⟨rfl, rfl, (SQ_rfl _)⟩, Or.inl ⟨rfl, hx⟩⟩ (by decide) ⟨(Nat.le_of_ble_eq_true rfl), (Nat.le_of_ble_eq_true rfl)⟩ (Nat.le_of_ble_eq_true rfl) (Nat.le_of_ble_eq_true rfl) (Nat.le_of_ble_eq_true rfl) (Nat.le_of_ble_eq_true rfl) dX9_addNote_15
  · exact x_tf hZ S hnt hl.1 hlk (g, A, μ) hW (n := 2) (t_tf2 l hl0 hZ hZX _ _ _ _) ⟨⟨rfl, rfl, (SQ_rfl _)⟩, Or.inr (Or.inl ⟨rfl, hx, nv⟩)⟩ (by decide) ⟨(Nat.le_of_ble_eq_true rfl), (Nat.le_of_ble_eq_true rfl)⟩ (Nat.le_of_ble_eq_true rfl) (Nat.le_of_ble_eq_true rfl) (Nat.le_of_ble_eq_true rfl) (Nat.le_of_ble_eq_true rfl) dX9_addNote_15
  · exact x_tf hZ S hnt hl.1 hlk (g, A, μ) hW (n := 3) (t_tf3 l hl0 hZ hZX _ _ _ _) ⟨⟨rfl, rfl, (SQ_rfl _)⟩, Or.inr (Or.inr ⟨rfl, q, k, hq, hx, nv, hk1, hk2, hk, hfit⟩)⟩ (by decide) ⟨(Nat.le_of_ble_eq_true rfl), (Nat.le_of_ble_eq_true rfl)⟩ (Nat.le_of_ble_eq_true rfl) (Nat.le_of_ble_eq_true rfl) (Nat.le_of_ble_eq_true rfl) (Nat.le_of_ble_eq_true rfl) dX9_addNote_15
set_option maxHeartbeats 4000000 in
set_option maxRecDepth 100000 in
theorem t_X9_removeNote (l : Launch) (hl0 : l.stackTraces = false) {Z : ZT} (hZ : zOK Z) (hZX : ZX Z) (A : Nat × Nat → Nat) (g : Nat → Bool) (μ : CM) (sz : Nat) {v : Nat → Int32} (hVG : VG v) (hR : RP (μ 0) v) {kr cn : Nat} (hkr : kr < 8) (hk15 : μ 0 15 1 = nI kr) (hcn : μ 0 15 2 = nI cn) (hc8 : cn ≤ 8) (x : Int32) : XVi l yX9_removeNote cX9_removeNote 2 (some .int) 7 15 1376 [.ref (A (0, 14)), .int x] Z (ids g) A (cE Z A g μ) sz (fun r u => ∃ q, q < 4 ∧ x = nI q ∧ 0 < nnV v q ∧ r = nI (lnV v q - nlV v q (nnV v q - 1)) ∧ CHG g A μ kr cn v (untV v q (nnV v q) (lnV v q) (nlV v q (nnV v q - 1))) u) (fun n u => SM g A μ u ∧ ((n = 1 ∧ ¬ IX x 4) ∨ (n = 4 ∧ ∃ q, q < 4 ∧ x = nI q ∧ nnV v q = 0))) := by
  refine x_met (E := (cE Z A g μ)) (by decide +kernel) (Nat.le_of_ble_eq_true rfl) ?_
  intro p e s m below meth c ls S hr hlk hnt hsz hW hl
  have hxe := S.1
  have hcd := S.2.1
  subst hsz
  have hl : lv_has ls 2 [(0, .ref (A (0, 14))), (1, .int x)] := hl
  refine lv_aload_n hxe hcd dX9_removeNote_0 rfl (lv_at hl 0 rfl) ?_
  refine gf_X9_10 S hW dX9_removeNote_1 ?_
  refine gf_X9_122 S hW sB_0 dX9_removeNote_4 ?_
  refine lv_iload_n hxe hcd dX9_removeNote_7 rfl (lv_at hl 1 rfl) ?_
  refine r_calli0 (r_runV hZ S hW (As := [.int x]) (rest := []) (t_X5_faultOfPlaying l hZ A g μ s.heap.size sB_0 (nnV v) (RP_ann hR hVG) x) k_X9_135 (r_recv hW (x := (0, 4)) (in_s sB_0 (by decide)) rfl rfl) (hl.1) rfl rfl (Nat.le_of_ble_eq_true rfl) ⟨Nat.le_of_ble_eq_true rfl, Nat.le_of_ble_eq_true rfl⟩ ⟨Nat.le_of_ble_eq_true rfl, Nat.le_of_ble_eq_true rfl⟩ dX9_removeNote_8) hW (fun r8 H locs hp8 hW => ?_)
  rcases hp8 with ⟨rfl, q, hq, hx, h0⟩ | ⟨rfl, hx⟩ | ⟨rfl, q, hq, hx, h0⟩
  · subst hx
    have hnn := hVG.2.2.2.1 q hq
    have hn160 := VG_ln hVG hq
    refine r_callv0 (r_runS hZ S hW (As := [.int (nI 0)]) (rest := []) (t_tf0 l hZ (ids g) A (cE Z A g μ) H.size) k_X9_82 hl.1 rfl rfl (Nat.le_of_ble_eq_true rfl) ⟨(Nat.le_of_ble_eq_true rfl), (Nat.le_of_ble_eq_true rfl)⟩ ⟨(Nat.le_of_ble_eq_true rfl), (Nat.le_of_ble_eq_true rfl)⟩ dX9_removeNote_11) hW (fun H locs hW => ?_)
    refine lv_aload_n hxe hcd dX9_removeNote_14 rfl (lv_at hl 0 rfl) ?_
    refine gf_X9_25 S hW dX9_removeNote_15 ?_
    refine lv_aload_n hxe hcd dX9_removeNote_18 rfl (lv_at hl 0 rfl) ?_
    refine gf_X9_10 S hW dX9_removeNote_19 ?_
    refine r_callvG (r_runV hZ S hW (As := [.ref (A (0, 0))]) (rest := []) (t_X2_push l hZ A g μ H.size hkr hk15 hcn hc8) k_X9_86 (r_recv hW (x := (0, 15)) (in_r (by decide) (by decide)) rfl rfl) hl.1 rfl rfl (Nat.le_of_ble_eq_true rfl) ⟨(Nat.le_of_ble_eq_true rfl), (Nat.le_of_ble_eq_true rfl)⟩ ⟨(Nat.le_of_ble_eq_true rfl), (Nat.le_of_ble_eq_true rfl)⟩ dX9_removeNote_22) hW (fun u H locs hp hW => ?_)
    obtain ⟨g, A, μ⟩ := u
    obtain ⟨hg1, hA1, hm1, hk1n, hcnn, hRB⟩ := hp
    simp only at hg1 hA1 hm1 hk1n hcnn hRB
    have hW : wX Z (ids g) A (cE Z A g μ) _ s H locs := hW
    have hRB := hRB v hVG hR
    have hR : RP (μ 0) v := RP_k hR (fun o ho => hm1 0 o (by omega) (by omega))
    have hl : lv_has ls 2 [(0, .ref (A (0, 14))), (1, .int (nI q))] := by
      rw [hA1 _ (in_r (by decide) (by decide))]
      exact hl
    refine lv_aload_n hxe hcd dX9_removeNote_25 rfl (lv_at hl 0 rfl) ?_
    refine gf_X9_10 S hW dX9_removeNote_26 ?_
    refine gf_X9_122 S hW sB_0 dX9_removeNote_29 ?_
    refine lv_iload_n hxe hcd dX9_removeNote_32 rfl (lv_at hl 1 rfl) ?_
    refine r_calli (F := (cE Z A g)) (r_runV hZ S hW (As := [.int (nI q)]) (rest := []) (t_X5_takeNote l hZ A g μ H.size sB_0 (q := q) (n := lnV v q) (k := nnV v q) (j := nlV v q (nnV v q - 1)) (by omega) (RP_l7 hR hVG (by omega)) (VG_ln hVG (by omega)) (RP_l8 hR hVG (by omega)) (by omega) (by omega) (RP_anl hR hVG (by omega) (by omega)).1 (RP_anl hR hVG (by omega) (by omega)).2) k_X9_138 (r_recv hW (x := (0, 4)) (in_s sB_0 (by decide)) rfl rfl) (hl.1) rfl rfl (Nat.le_of_ble_eq_true rfl) ⟨Nat.le_of_ble_eq_true rfl, Nat.le_of_ble_eq_true rfl⟩ ⟨Nat.le_of_ble_eq_true rfl, Nat.le_of_ble_eq_true rfl⟩ dX9_removeNote_33) hW (fun r33 u33 H locs hp33 hW => ?_)
    obtain ⟨hp33, hp33m⟩ := hp33
    have hp33 := hp33.symm
    subst hp33
    have hp33m := hp33m.symm
    subst hp33m
    refine x_iret S hr hlk (Nat.le_of_ble_eq_true rfl) (Nat.le_of_ble_eq_true rfl) (g, A, up2 (up2 μ 0 8 (upd (μ 0 8) q (nI (nnV v q - 1)))) 0 7 (upd (μ 0 7) q (nI (lnV v q - nlV v q (nnV v q - 1))))) hW ?_ dX9_removeNote_36
    exact ⟨q, hq, rfl, h0, rfl, CHG_of hkr hg1 hA1 hm1 hk1n hcnn hRB (RP_unt hR hVG hq h0 (by simp [chM, up2_rb, upd_rd]) (by simp [chM, up2_rb, upd_rd]) (fun o ho => by simp only [chM, up2_rb]; rw [if_neg (by omega), if_neg (by omega)])) (by repeat (first | exact SQb_rfl _ _ | refine SQb_up ?_ (by decide) _ | exact SQb_SQ (SQ_18 _ _ _)))⟩
  · exact x_tf hZ S hnt hl.1 hlk (g, A, μ) hW (n := 1) (t_tf1 l hl0 hZ hZX _ _ _ _) ⟨⟨rfl, rfl, (SQ_rfl _)⟩, Or.inl ⟨rfl, hx⟩⟩ (by decide) ⟨(Nat.le_of_ble_eq_true rfl), (Nat.le_of_ble_eq_true rfl)⟩ (Nat.le_of_ble_eq_true rfl) (Nat.le_of_ble_eq_true rfl) (Nat.le_of_ble_eq_true rfl) (Nat.le_of_ble_eq_true rfl) dX9_removeNote_11
  · exact x_tf hZ S hnt hl.1 hlk (g, A, μ) hW (n := 4) (t_tf4 l hl0 hZ hZX _ _ _ _) ⟨⟨rfl, rfl, (SQ_rfl _)⟩, Or.inr ⟨rfl, q, hq, hx, h0⟩⟩ (by decide) ⟨(Nat.le_of_ble_eq_true rfl), (Nat.le_of_ble_eq_true rfl)⟩ (Nat.le_of_ble_eq_true rfl) (Nat.le_of_ble_eq_true rfl) (Nat.le_of_ble_eq_true rfl) (Nat.le_of_ble_eq_true rfl) dX9_removeNote_11
set_option maxHeartbeats 4000000 in
set_option maxRecDepth 100000 in
theorem t_X9_noteCount (l : Launch) (hl0 : l.stackTraces = false) {Z : ZT} (hZ : zOK Z) (hZX : ZX Z) (A : Nat × Nat → Nat) (g : Nat → Bool) (μ : CM) (sz : Nat) {v : Nat → Int32} (hVG : VG v) (hR : RP (μ 0) v) (x : Int32) : XVi l yX9_noteCount cX9_noteCount 2 (some .int) 7 15 1376 [.ref (A (0, 14)), .int x] Z (ids g) A (cE Z A g μ) sz (fun r u => ∃ q, q < 4 ∧ x = nI q ∧ r = v (21 + q) ∧ SM g A μ u) (fun n u => SM g A μ u ∧ ((n = 1 ∧ ¬ IX x 4))) := by
  refine x_met (E := (cE Z A g μ)) (by decide +kernel) (Nat.le_of_ble_eq_true rfl) ?_
  intro p e s m below meth c ls S hr hlk hnt hsz hW hl
  have hxe := S.1
  have hcd := S.2.1
  subst hsz
  have hl : lv_has ls 2 [(0, .ref (A (0, 14))), (1, .int x)] := hl
  refine lv_iload_n hxe hcd dX9_noteCount_0 rfl (lv_at hl 1 rfl) ?_
  refine r_calli0 (r_runS hZ S hW (As := [.int x]) (rest := []) (t_X5_faultOfSong l hZ (ids g) A (cE Z A g μ) s.heap.size x) k_X9_141 (hl.1) rfl rfl (Nat.le_of_ble_eq_true rfl) ⟨Nat.le_of_ble_eq_true rfl, Nat.le_of_ble_eq_true rfl⟩ ⟨Nat.le_of_ble_eq_true rfl, Nat.le_of_ble_eq_true rfl⟩ dX9_noteCount_1) hW (fun r1 H locs hp1 hW => ?_)
  rcases hp1 with ⟨rfl, hp1⟩ | ⟨rfl, hp1⟩
  · obtain ⟨q, hqq, rfl⟩ := hp1
    have hn8 := hVG.1.2
    have hn4 := hVG.2.1.2
    refine r_callv0 (r_runS hZ S hW (As := [.int (nI 0)]) (rest := []) (t_tf0 l hZ (ids g) A (cE Z A g μ) H.size) k_X9_82 hl.1 rfl rfl (Nat.le_of_ble_eq_true rfl) ⟨(Nat.le_of_ble_eq_true rfl), (Nat.le_of_ble_eq_true rfl)⟩ ⟨(Nat.le_of_ble_eq_true rfl), (Nat.le_of_ble_eq_true rfl)⟩ dX9_noteCount_4) hW (fun H locs hW => ?_)
    refine lv_aload_n hxe hcd dX9_noteCount_7 rfl (lv_at hl 0 rfl) ?_
    refine gf_X9_10 S hW dX9_noteCount_8 ?_
    refine gf_X9_122 S hW sB_0 dX9_noteCount_11 ?_
    refine lv_iload_n hxe hcd dX9_noteCount_14 rfl (lv_at hl 1 rfl) ?_
    refine r_calli0 (r_runV hZ S hW (As := [.int (nI q)]) (rest := []) (t_X5_notesOf l hZ A g μ H.size sB_0 (nI q)) k_X9_144 (r_recv hW (x := (0, 4)) (in_s sB_0 (by decide)) rfl rfl) (hl.1) rfl rfl (Nat.le_of_ble_eq_true rfl) ⟨Nat.le_of_ble_eq_true rfl, Nat.le_of_ble_eq_true rfl⟩ ⟨Nat.le_of_ble_eq_true rfl, Nat.le_of_ble_eq_true rfl⟩ dX9_noteCount_15) hW (fun r15 H locs hp15 hW => ?_)
    have hp15 := hp15.symm
    subst hp15
    refine x_iret S hr hlk (Nat.le_of_ble_eq_true rfl) (Nat.le_of_ble_eq_true rfl) (g, A, μ) hW ?_ dX9_noteCount_18
    exact ⟨q, hqq, rfl, by rw [rd_in (n := 4) (k := q) _ hqq (by decide)]; exact (hR.2.1 q hqq).2.1, ⟨rfl, rfl, (SQ_rfl _)⟩⟩
  · exact x_tf hZ S hnt hl.1 hlk (g, A, μ) hW (n := 1) (t_tf1 l hl0 hZ hZX _ _ _ _) ⟨⟨rfl, rfl, (SQ_rfl _)⟩, ⟨rfl, hp1⟩⟩ (by decide) ⟨(Nat.le_of_ble_eq_true rfl), (Nat.le_of_ble_eq_true rfl)⟩ (Nat.le_of_ble_eq_true rfl) (Nat.le_of_ble_eq_true rfl) (Nat.le_of_ble_eq_true rfl) (Nat.le_of_ble_eq_true rfl) dX9_noteCount_4
set_option maxHeartbeats 4000000 in
set_option maxRecDepth 100000 in
theorem t_X9_songLength (l : Launch) (hl0 : l.stackTraces = false) {Z : ZT} (hZ : zOK Z) (hZX : ZX Z) (A : Nat × Nat → Nat) (g : Nat → Bool) (μ : CM) (sz : Nat) {v : Nat → Int32} (hVG : VG v) (hR : RP (μ 0) v) (x : Int32) : XVi l yX9_songLength cX9_songLength 2 (some .int) 7 15 1376 [.ref (A (0, 14)), .int x] Z (ids g) A (cE Z A g μ) sz (fun r u => ∃ q, q < 4 ∧ x = nI q ∧ r = v (25 + q) ∧ SM g A μ u) (fun n u => SM g A μ u ∧ ((n = 1 ∧ ¬ IX x 4))) := by
  refine x_met (E := (cE Z A g μ)) (by decide +kernel) (Nat.le_of_ble_eq_true rfl) ?_
  intro p e s m below meth c ls S hr hlk hnt hsz hW hl
  have hxe := S.1
  have hcd := S.2.1
  subst hsz
  have hl : lv_has ls 2 [(0, .ref (A (0, 14))), (1, .int x)] := hl
  refine lv_iload_n hxe hcd dX9_songLength_0 rfl (lv_at hl 1 rfl) ?_
  refine r_calli0 (r_runS hZ S hW (As := [.int x]) (rest := []) (t_X5_faultOfSong l hZ (ids g) A (cE Z A g μ) s.heap.size x) k_X9_141 (hl.1) rfl rfl (Nat.le_of_ble_eq_true rfl) ⟨Nat.le_of_ble_eq_true rfl, Nat.le_of_ble_eq_true rfl⟩ ⟨Nat.le_of_ble_eq_true rfl, Nat.le_of_ble_eq_true rfl⟩ dX9_songLength_1) hW (fun r1 H locs hp1 hW => ?_)
  rcases hp1 with ⟨rfl, hp1⟩ | ⟨rfl, hp1⟩
  · obtain ⟨q, hqq, rfl⟩ := hp1
    have hn8 := hVG.1.2
    have hn4 := hVG.2.1.2
    refine r_callv0 (r_runS hZ S hW (As := [.int (nI 0)]) (rest := []) (t_tf0 l hZ (ids g) A (cE Z A g μ) H.size) k_X9_82 hl.1 rfl rfl (Nat.le_of_ble_eq_true rfl) ⟨(Nat.le_of_ble_eq_true rfl), (Nat.le_of_ble_eq_true rfl)⟩ ⟨(Nat.le_of_ble_eq_true rfl), (Nat.le_of_ble_eq_true rfl)⟩ dX9_songLength_4) hW (fun H locs hW => ?_)
    refine lv_aload_n hxe hcd dX9_songLength_7 rfl (lv_at hl 0 rfl) ?_
    refine gf_X9_10 S hW dX9_songLength_8 ?_
    refine gf_X9_122 S hW sB_0 dX9_songLength_11 ?_
    refine lv_iload_n hxe hcd dX9_songLength_14 rfl (lv_at hl 1 rfl) ?_
    refine r_calli0 (r_runV hZ S hW (As := [.int (nI q)]) (rest := []) (t_X5_samplesOf l hZ A g μ H.size sB_0 (nI q)) k_X9_147 (r_recv hW (x := (0, 4)) (in_s sB_0 (by decide)) rfl rfl) (hl.1) rfl rfl (Nat.le_of_ble_eq_true rfl) ⟨Nat.le_of_ble_eq_true rfl, Nat.le_of_ble_eq_true rfl⟩ ⟨Nat.le_of_ble_eq_true rfl, Nat.le_of_ble_eq_true rfl⟩ dX9_songLength_15) hW (fun r15 H locs hp15 hW => ?_)
    have hp15 := hp15.symm
    subst hp15
    refine x_iret S hr hlk (Nat.le_of_ble_eq_true rfl) (Nat.le_of_ble_eq_true rfl) (g, A, μ) hW ?_ dX9_songLength_18
    exact ⟨q, hqq, rfl, by rw [rd_in (n := 4) (k := q) _ hqq (by decide)]; exact (hR.2.1 q hqq).1, ⟨rfl, rfl, (SQ_rfl _)⟩⟩
  · exact x_tf hZ S hnt hl.1 hlk (g, A, μ) hW (n := 1) (t_tf1 l hl0 hZ hZX _ _ _ _) ⟨⟨rfl, rfl, (SQ_rfl _)⟩, ⟨rfl, hp1⟩⟩ (by decide) ⟨(Nat.le_of_ble_eq_true rfl), (Nat.le_of_ble_eq_true rfl)⟩ (Nat.le_of_ble_eq_true rfl) (Nat.le_of_ble_eq_true rfl) (Nat.le_of_ble_eq_true rfl) (Nat.le_of_ble_eq_true rfl) dX9_songLength_4
set_option maxHeartbeats 4000000 in
set_option maxRecDepth 100000 in
theorem t_X9_frameCount (l : Launch) (hl0 : l.stackTraces = false) {Z : ZT} (hZ : zOK Z) (hZX : ZX Z) (A : Nat × Nat → Nat) (g : Nat → Bool) (μ : CM) (sz : Nat) {v : Nat → Int32} (hVG : VG v) (hR : RP (μ 0) v) (x : Int32) : XVi l yX9_frameCount cX9_frameCount 2 (some .int) 7 15 1376 [.ref (A (0, 14)), .int x] Z (ids g) A (cE Z A g μ) sz (fun r u => ∃ q, q < 4 ∧ x = nI q ∧ r = nI ((lnV v q + 7) / 8) ∧ SM g A μ u) (fun n u => SM g A μ u ∧ ((n = 1 ∧ ¬ IX x 4))) := by
  refine x_met (E := (cE Z A g μ)) (by decide +kernel) (Nat.le_of_ble_eq_true rfl) ?_
  intro p e s m below meth c ls S hr hlk hnt hsz hW hl
  have hxe := S.1
  have hcd := S.2.1
  subst hsz
  have hl : lv_has ls 2 [(0, .ref (A (0, 14))), (1, .int x)] := hl
  refine lv_iload_n hxe hcd dX9_frameCount_0 rfl (lv_at hl 1 rfl) ?_
  refine r_calli0 (r_runS hZ S hW (As := [.int x]) (rest := []) (t_X5_faultOfSong l hZ (ids g) A (cE Z A g μ) s.heap.size x) k_X9_141 (hl.1) rfl rfl (Nat.le_of_ble_eq_true rfl) ⟨Nat.le_of_ble_eq_true rfl, Nat.le_of_ble_eq_true rfl⟩ ⟨Nat.le_of_ble_eq_true rfl, Nat.le_of_ble_eq_true rfl⟩ dX9_frameCount_1) hW (fun r1 H locs hp1 hW => ?_)
  rcases hp1 with ⟨rfl, hp1⟩ | ⟨rfl, hp1⟩
  · obtain ⟨q, hqq, rfl⟩ := hp1
    have hn8 := hVG.1.2
    have hn4 := hVG.2.1.2
    refine r_callv0 (r_runS hZ S hW (As := [.int (nI 0)]) (rest := []) (t_tf0 l hZ (ids g) A (cE Z A g μ) H.size) k_X9_82 hl.1 rfl rfl (Nat.le_of_ble_eq_true rfl) ⟨(Nat.le_of_ble_eq_true rfl), (Nat.le_of_ble_eq_true rfl)⟩ ⟨(Nat.le_of_ble_eq_true rfl), (Nat.le_of_ble_eq_true rfl)⟩ dX9_frameCount_4) hW (fun H locs hW => ?_)
    refine lv_aload_n hxe hcd dX9_frameCount_7 rfl (lv_at hl 0 rfl) ?_
    refine gf_X9_10 S hW dX9_frameCount_8 ?_
    refine gf_X9_122 S hW sB_0 dX9_frameCount_11 ?_
    refine lv_iload_n hxe hcd dX9_frameCount_14 rfl (lv_at hl 1 rfl) ?_
    refine r_calli0 (r_runV hZ S hW (As := [.int (nI q)]) (rest := []) (t_X5_framesOf l hZ A g μ H.size sB_0 (q := q) (n := lnV v q) (by omega) (RP_l7 hR hVG (by omega)) (VG_ln hVG (by omega))) k_X9_237 (r_recv hW (x := (0, 4)) (in_s sB_0 (by decide)) rfl rfl) (hl.1) rfl rfl (Nat.le_of_ble_eq_true rfl) ⟨Nat.le_of_ble_eq_true rfl, Nat.le_of_ble_eq_true rfl⟩ ⟨Nat.le_of_ble_eq_true rfl, Nat.le_of_ble_eq_true rfl⟩ dX9_frameCount_15) hW (fun r15 H locs hp15 hW => ?_)
    have hp15 := hp15.symm
    subst hp15
    refine x_iret S hr hlk (Nat.le_of_ble_eq_true rfl) (Nat.le_of_ble_eq_true rfl) (g, A, μ) hW ?_ dX9_frameCount_18
    exact ⟨q, hqq, rfl, by rw [show lnV v q + 8 - 1 = lnV v q + 7 by omega], ⟨rfl, rfl, (SQ_rfl _)⟩⟩
  · exact x_tf hZ S hnt hl.1 hlk (g, A, μ) hW (n := 1) (t_tf1 l hl0 hZ hZX _ _ _ _) ⟨⟨rfl, rfl, (SQ_rfl _)⟩, ⟨rfl, hp1⟩⟩ (by decide) ⟨(Nat.le_of_ble_eq_true rfl), (Nat.le_of_ble_eq_true rfl)⟩ (Nat.le_of_ble_eq_true rfl) (Nat.le_of_ble_eq_true rfl) (Nat.le_of_ble_eq_true rfl) (Nat.le_of_ble_eq_true rfl) dX9_frameCount_4
set_option maxHeartbeats 4000000 in
set_option maxRecDepth 100000 in
theorem t_X9_energy (l : Launch) (hl0 : l.stackTraces = false) {Z : ZT} (hZ : zOK Z) (hZX : ZX Z) (A : Nat × Nat → Nat) (g : Nat → Bool) (μ : CM) (sz : Nat) {v : Nat → Int32} (hVG : VG v) (hR : RP (μ 0) v) (x : Int32) : XVl l yX9_energy cX9_energy 2 (some .long) 7 15 1376 [.ref (A (0, 14)), .int x] Z (ids g) A (cE Z A g μ) sz (fun r u => ∃ q, q < 4 ∧ x = nI q ∧ r = sqS (flV v q (nfV v)) (lnV v q) ∧ SM g A μ u) (fun n u => SM g A μ u ∧ ((n = 1 ∧ ¬ IX x 4))) := by
  refine x_met (E := (cE Z A g μ)) (by decide +kernel) (Nat.le_of_ble_eq_true rfl) ?_
  intro p e s m below meth c ls S hr hlk hnt hsz hW hl
  have hxe := S.1
  have hcd := S.2.1
  subst hsz
  have hl : lv_has ls 2 [(0, .ref (A (0, 14))), (1, .int x)] := hl
  refine lv_iload_n hxe hcd dX9_energy_0 rfl (lv_at hl 1 rfl) ?_
  refine r_calli0 (r_runS hZ S hW (As := [.int x]) (rest := []) (t_X5_faultOfSong l hZ (ids g) A (cE Z A g μ) s.heap.size x) k_X9_141 (hl.1) rfl rfl (Nat.le_of_ble_eq_true rfl) ⟨Nat.le_of_ble_eq_true rfl, Nat.le_of_ble_eq_true rfl⟩ ⟨Nat.le_of_ble_eq_true rfl, Nat.le_of_ble_eq_true rfl⟩ dX9_energy_1) hW (fun r1 H locs hp1 hW => ?_)
  rcases hp1 with ⟨rfl, hp1⟩ | ⟨rfl, hp1⟩
  · obtain ⟨q, hqq, rfl⟩ := hp1
    have hn8 := hVG.1.2
    have hn4 := hVG.2.1.2
    refine r_callv0 (r_runS hZ S hW (As := [.int (nI 0)]) (rest := []) (t_tf0 l hZ (ids g) A (cE Z A g μ) H.size) k_X9_82 hl.1 rfl rfl (Nat.le_of_ble_eq_true rfl) ⟨(Nat.le_of_ble_eq_true rfl), (Nat.le_of_ble_eq_true rfl)⟩ ⟨(Nat.le_of_ble_eq_true rfl), (Nat.le_of_ble_eq_true rfl)⟩ dX9_energy_4) hW (fun H locs hW => ?_)
    refine lv_aload_n hxe hcd dX9_energy_7 rfl (lv_at hl 0 rfl) ?_
    refine lv_iload_n hxe hcd dX9_energy_8 rfl (lv_at hl 1 rfl) ?_
    refine r_calll (F := (cE Z A g)) (r_runV hZ S hW (As := [.int (nI q)]) (rest := []) (t_X9_sumOfSquares l hZ A g μ H.size (q := q) (n := lnV v q) (nf := nfV v) (by omega) (RP_l7 hR hVG (by omega)) (VG_ln hVG (by omega)) (RP_c hR hVG) hVG.1.2 (psV v) (RP_ps hR hVG)) k_X9_186 (r_recv hW (x := (0, 14)) (in_r (by decide) (by decide)) rfl rfl) (hl.1) rfl rfl (Nat.le_of_ble_eq_true rfl) ⟨Nat.le_of_ble_eq_true rfl, Nat.le_of_ble_eq_true rfl⟩ ⟨Nat.le_of_ble_eq_true rfl, Nat.le_of_ble_eq_true rfl⟩ dX9_energy_9) hW (fun r9 u9 H locs hp9 hW => ?_)
    obtain ⟨hr9, M9, R9, hm9⟩ := hp9
    subst hm9
    rw [sqS_congr (g := flV v q (nfV v)) (fun j hj => RP_fl hR (by omega) (Nat.le_refl _) j hj)] at hr9
    subst hr9
    refine x_lret S hr hlk (Nat.le_of_ble_eq_true rfl) (Nat.le_of_ble_eq_true rfl) (g, A, up2 (up2 μ 0 18 M9) 0 19 R9) hW ?_ dX9_energy_12
    exact ⟨q, hqq, rfl, rfl, ⟨rfl, rfl, (by repeat (first | exact SQ_rfl _ | exact SQ_18 _ _ _ | exact SQ_20 _ _ _ _ | exact hsq | (refine SQ_up ?_ (by first | exact Or.inl rfl | exact Or.inr ⟨rfl, by decide, by decide⟩) _)))⟩⟩
  · exact x_tf hZ S hnt hl.1 hlk (g, A, μ) hW (n := 1) (t_tf1 l hl0 hZ hZX _ _ _ _) ⟨⟨rfl, rfl, (SQ_rfl _)⟩, ⟨rfl, hp1⟩⟩ (by decide) ⟨(Nat.le_of_ble_eq_true rfl), (Nat.le_of_ble_eq_true rfl)⟩ (Nat.le_of_ble_eq_true rfl) (Nat.le_of_ble_eq_true rfl) (Nat.le_of_ble_eq_true rfl) (Nat.le_of_ble_eq_true rfl) dX9_energy_4
set_option maxHeartbeats 4000000 in
set_option maxRecDepth 100000 in
theorem t_X9_dropsFor (l : Launch) (hl0 : l.stackTraces = false) {Z : ZT} (hZ : zOK Z) (hZX : ZX Z) (A : Nat × Nat → Nat) (g : Nat → Bool) (μ : CM) (sz : Nat) {v : Nat → Int32} (hVG : VG v) (hR : RP (μ 0) v) (x : Int32) : XVi l yX9_dropsFor cX9_dropsFor 2 (some .int) 7 15 1376 [.ref (A (0, 14)), .int x] Z (ids g) A (cE Z A g μ) sz (fun r u => ∃ q, q < 4 ∧ x = nI q ∧ r = nI (((lnV v q + 7) / 8) - pourC v (ntV v) (ldV (flV v q (nfV v)) (lnV v q)) ((lnV v q + 7) / 8)) ∧ SM g A μ u) (fun n u => SM g A μ u ∧ ((n = 1 ∧ ¬ IX x 4))) := by
  refine x_met (E := (cE Z A g μ)) (by decide +kernel) (Nat.le_of_ble_eq_true rfl) ?_
  intro p e s m below meth c ls S hr hlk hnt hsz hW hl
  have hxe := S.1
  have hcd := S.2.1
  subst hsz
  have hl : lv_has ls 2 [(0, .ref (A (0, 14))), (1, .int x)] := hl
  refine lv_iload_n hxe hcd dX9_dropsFor_0 rfl (lv_at hl 1 rfl) ?_
  refine r_calli0 (r_runS hZ S hW (As := [.int x]) (rest := []) (t_X5_faultOfSong l hZ (ids g) A (cE Z A g μ) s.heap.size x) k_X9_141 (hl.1) rfl rfl (Nat.le_of_ble_eq_true rfl) ⟨Nat.le_of_ble_eq_true rfl, Nat.le_of_ble_eq_true rfl⟩ ⟨Nat.le_of_ble_eq_true rfl, Nat.le_of_ble_eq_true rfl⟩ dX9_dropsFor_1) hW (fun r1 H locs hp1 hW => ?_)
  rcases hp1 with ⟨rfl, hp1⟩ | ⟨rfl, hp1⟩
  · obtain ⟨q, hqq, rfl⟩ := hp1
    have hn8 := hVG.1.2
    have hn4 := hVG.2.1.2
    refine r_callv0 (r_runS hZ S hW (As := [.int (nI 0)]) (rest := []) (t_tf0 l hZ (ids g) A (cE Z A g μ) H.size) k_X9_82 hl.1 rfl rfl (Nat.le_of_ble_eq_true rfl) ⟨(Nat.le_of_ble_eq_true rfl), (Nat.le_of_ble_eq_true rfl)⟩ ⟨(Nat.le_of_ble_eq_true rfl), (Nat.le_of_ble_eq_true rfl)⟩ dX9_dropsFor_4) hW (fun H locs hW => ?_)
    refine lv_aload_n hxe hcd dX9_dropsFor_7 rfl (lv_at hl 0 rfl) ?_
    refine lv_iload_n hxe hcd dX9_dropsFor_8 rfl (lv_at hl 1 rfl) ?_
    refine r_calli (F := (cE Z A g)) (r_runV hZ S hW (As := [.int (nI q)]) (rest := []) (t_X9_dropsOnCopy l hZ A g μ H.size v hVG hR (q := q) (by omega)) k_X9_240 (r_recv hW (x := (0, 14)) (in_r (by decide) (by decide)) rfl rfl) (hl.1) rfl rfl (Nat.le_of_ble_eq_true rfl) ⟨Nat.le_of_ble_eq_true rfl, Nat.le_of_ble_eq_true rfl⟩ ⟨Nat.le_of_ble_eq_true rfl, Nat.le_of_ble_eq_true rfl⟩ dX9_dropsFor_9) hW (fun r9 u9 H locs hp9 hW => ?_)
    obtain ⟨hr9, hs90⟩ := hp9
    have hs9 : SQ μ u9 := SQ_tr (SQ_rfl _) hs90
    subst hr9
    refine x_iret S hr hlk (Nat.le_of_ble_eq_true rfl) (Nat.le_of_ble_eq_true rfl) (g, A, u9) hW ?_ dX9_dropsFor_12
    exact ⟨q, hqq, rfl, rfl, ⟨rfl, rfl, (by repeat (first | exact SQ_rfl _ | exact SQ_18 _ _ _ | exact SQ_20 _ _ _ _ | exact hsq | exact hs9 | (refine SQ_up ?_ (by first | exact Or.inl rfl | exact Or.inr ⟨rfl, by decide, by decide⟩) _)))⟩⟩
  · exact x_tf hZ S hnt hl.1 hlk (g, A, μ) hW (n := 1) (t_tf1 l hl0 hZ hZX _ _ _ _) ⟨⟨rfl, rfl, (SQ_rfl _)⟩, ⟨rfl, hp1⟩⟩ (by decide) ⟨(Nat.le_of_ble_eq_true rfl), (Nat.le_of_ble_eq_true rfl)⟩ (Nat.le_of_ble_eq_true rfl) (Nat.le_of_ble_eq_true rfl) (Nat.le_of_ble_eq_true rfl) (Nat.le_of_ble_eq_true rfl) dX9_dropsFor_4
set_option maxHeartbeats 4000000 in
set_option maxRecDepth 100000 in
theorem t_X9_dropsByLevels (l : Launch) (hl0 : l.stackTraces = false) {Z : ZT} (hZ : zOK Z) (hZX : ZX Z) (A : Nat × Nat → Nat) (g : Nat → Bool) (μ : CM) (sz : Nat) {v : Nat → Int32} (hVG : VG v) (hR : RP (μ 0) v) (x : Int32) : XVi l yX9_dropsByLevels cX9_dropsByLevels 2 (some .int) 7 15 1376 [.ref (A (0, 14)), .int x] Z (ids g) A (cE Z A g μ) sz (fun r u => ∃ q, q < 4 ∧ x = nI q ∧ r = nI (((lnV v q + 7) / 8) - pourC v (ntV v) (ldV (flV v q (nfV v)) (lnV v q)) ((lnV v q + 7) / 8)) ∧ SM g A μ u) (fun n u => SM g A μ u ∧ ((n = 1 ∧ ¬ IX x 4))) := by
  refine x_met (E := (cE Z A g μ)) (by decide +kernel) (Nat.le_of_ble_eq_true rfl) ?_
  intro p e s m below meth c ls S hr hlk hnt hsz hW hl
  have hxe := S.1
  have hcd := S.2.1
  subst hsz
  have hl : lv_has ls 2 [(0, .ref (A (0, 14))), (1, .int x)] := hl
  refine lv_iload_n hxe hcd dX9_dropsByLevels_0 rfl (lv_at hl 1 rfl) ?_
  refine r_calli0 (r_runS hZ S hW (As := [.int x]) (rest := []) (t_X5_faultOfSong l hZ (ids g) A (cE Z A g μ) s.heap.size x) k_X9_141 (hl.1) rfl rfl (Nat.le_of_ble_eq_true rfl) ⟨Nat.le_of_ble_eq_true rfl, Nat.le_of_ble_eq_true rfl⟩ ⟨Nat.le_of_ble_eq_true rfl, Nat.le_of_ble_eq_true rfl⟩ dX9_dropsByLevels_1) hW (fun r1 H locs hp1 hW => ?_)
  rcases hp1 with ⟨rfl, hp1⟩ | ⟨rfl, hp1⟩
  · obtain ⟨q, hqq, rfl⟩ := hp1
    have hn8 := hVG.1.2
    have hn4 := hVG.2.1.2
    refine r_callv0 (r_runS hZ S hW (As := [.int (nI 0)]) (rest := []) (t_tf0 l hZ (ids g) A (cE Z A g μ) H.size) k_X9_82 hl.1 rfl rfl (Nat.le_of_ble_eq_true rfl) ⟨(Nat.le_of_ble_eq_true rfl), (Nat.le_of_ble_eq_true rfl)⟩ ⟨(Nat.le_of_ble_eq_true rfl), (Nat.le_of_ble_eq_true rfl)⟩ dX9_dropsByLevels_4) hW (fun H locs hW => ?_)
    refine lv_aload_n hxe hcd dX9_dropsByLevels_7 rfl (lv_at hl 0 rfl) ?_
    refine lv_iload_n hxe hcd dX9_dropsByLevels_8 rfl (lv_at hl 1 rfl) ?_
    refine r_calli (F := (cE Z A g)) (r_runV hZ S hW (As := [.int (nI q)]) (rest := []) (t_X9_dropsFromLevels l hZ A g μ H.size v hVG hR (q := q) (by omega)) k_X9_243 (r_recv hW (x := (0, 14)) (in_r (by decide) (by decide)) rfl rfl) (hl.1) rfl rfl (Nat.le_of_ble_eq_true rfl) ⟨Nat.le_of_ble_eq_true rfl, Nat.le_of_ble_eq_true rfl⟩ ⟨Nat.le_of_ble_eq_true rfl, Nat.le_of_ble_eq_true rfl⟩ dX9_dropsByLevels_9) hW (fun r9 u9 H locs hp9 hW => ?_)
    obtain ⟨hr9, hs90⟩ := hp9
    have hs9 : SQ μ u9 := SQ_tr (SQ_rfl _) hs90
    subst hr9
    refine x_iret S hr hlk (Nat.le_of_ble_eq_true rfl) (Nat.le_of_ble_eq_true rfl) (g, A, u9) hW ?_ dX9_dropsByLevels_12
    exact ⟨q, hqq, rfl, rfl, ⟨rfl, rfl, (by repeat (first | exact SQ_rfl _ | exact SQ_18 _ _ _ | exact SQ_20 _ _ _ _ | exact hsq | exact hs9 | (refine SQ_up ?_ (by first | exact Or.inl rfl | exact Or.inr ⟨rfl, by decide, by decide⟩) _)))⟩⟩
  · exact x_tf hZ S hnt hl.1 hlk (g, A, μ) hW (n := 1) (t_tf1 l hl0 hZ hZX _ _ _ _) ⟨⟨rfl, rfl, (SQ_rfl _)⟩, ⟨rfl, hp1⟩⟩ (by decide) ⟨(Nat.le_of_ble_eq_true rfl), (Nat.le_of_ble_eq_true rfl)⟩ (Nat.le_of_ble_eq_true rfl) (Nat.le_of_ble_eq_true rfl) (Nat.le_of_ble_eq_true rfl) (Nat.le_of_ble_eq_true rfl) dX9_dropsByLevels_4
set_option maxHeartbeats 4000000 in
set_option maxRecDepth 100000 in
theorem t_X9_rawSample (l : Launch) (hl0 : l.stackTraces = false) {Z : ZT} (hZ : zOK Z) (hZX : ZX Z) (A : Nat × Nat → Nat) (g : Nat → Bool) (μ : CM) (sz : Nat) {v : Nat → Int32} (hVG : VG v) (hR : RP (μ 0) v) (x y : Int32) : XVi l yX9_rawSample cX9_rawSample 3 (some .int) 7 15 1376 [.ref (A (0, 14)), .int x, .int y] Z (ids g) A (cE Z A g μ) sz (fun r u => ∃ q i, q < 4 ∧ x = nI q ∧ i < lnV v q ∧ y = nI i ∧ r = v (77 + 160 * q + i) ∧ SM g A μ u) (fun n u => SM g A μ u ∧ ((n = 1 ∧ ¬ IX x 4) ∨ (n = 4 ∧ ∃ q, q < 4 ∧ x = nI q ∧ ¬ IX y (lnV v q)))) := by
  refine x_met (E := (cE Z A g μ)) (by decide +kernel) (Nat.le_of_ble_eq_true rfl) ?_
  intro p e s m below meth c ls S hr hlk hnt hsz hW hl
  have hxe := S.1
  have hcd := S.2.1
  subst hsz
  have hl : lv_has ls 3 [(0, .ref (A (0, 14))), (1, .int x), (2, .int y)] := hl
  refine lv_aload_n hxe hcd dX9_rawSample_0 rfl (lv_at hl 0 rfl) ?_
  refine gf_X9_10 S hW dX9_rawSample_1 ?_
  refine gf_X9_122 S hW sB_0 dX9_rawSample_4 ?_
  refine lv_iload_n hxe hcd dX9_rawSample_7 rfl (lv_at hl 1 rfl) ?_
  refine lv_iload_n hxe hcd dX9_rawSample_8 rfl (lv_at hl 2 rfl) ?_
  refine r_calli0 (r_runV hZ S hW (As := [.int x, .int y]) (rest := []) (t_X5_faultOfSample l hZ A g μ s.heap.size sB_0 (lnV v) (RP_aln hR hVG) x y) k_X9_150 (r_recv hW (x := (0, 4)) (in_s sB_0 (by decide)) rfl rfl) (hl.1) rfl rfl (Nat.le_of_ble_eq_true rfl) ⟨Nat.le_of_ble_eq_true rfl, Nat.le_of_ble_eq_true rfl⟩ ⟨Nat.le_of_ble_eq_true rfl, Nat.le_of_ble_eq_true rfl⟩ dX9_rawSample_9) hW (fun r9 H locs hp9 hW => ?_)
  rcases hp9 with ⟨rfl, q, hq, hx, hy⟩ | ⟨rfl, hx⟩ | ⟨rfl, q, hq, hx, hy⟩
  · subst hx
    obtain ⟨i, hi, rfl⟩ := hy
    have hn160 := VG_ln hVG hq
    refine r_callv0 (r_runS hZ S hW (As := [.int (nI 0)]) (rest := []) (t_tf0 l hZ (ids g) A (cE Z A g μ) H.size) k_X9_82 hl.1 rfl rfl (Nat.le_of_ble_eq_true rfl) ⟨(Nat.le_of_ble_eq_true rfl), (Nat.le_of_ble_eq_true rfl)⟩ ⟨(Nat.le_of_ble_eq_true rfl), (Nat.le_of_ble_eq_true rfl)⟩ dX9_rawSample_12) hW (fun H locs hW => ?_)
    refine lv_aload_n hxe hcd dX9_rawSample_15 rfl (lv_at hl 0 rfl) ?_
    refine gf_X9_10 S hW dX9_rawSample_16 ?_
    refine gf_X9_122 S hW sB_0 dX9_rawSample_19 ?_
    refine lv_iload_n hxe hcd dX9_rawSample_22 rfl (lv_at hl 1 rfl) ?_
    refine lv_iload_n hxe hcd dX9_rawSample_23 rfl (lv_at hl 2 rfl) ?_
    refine r_calli0 (r_runV hZ S hW (As := [.int (nI q), .int (nI i)]) (rest := []) (t_X5_rawAt l hZ A g μ H.size sB_0 (q := q) (i := i) (by omega) (by omega)) k_X9_153 (r_recv hW (x := (0, 4)) (in_s sB_0 (by decide)) rfl rfl) (hl.1) rfl rfl (Nat.le_of_ble_eq_true rfl) ⟨Nat.le_of_ble_eq_true rfl, Nat.le_of_ble_eq_true rfl⟩ ⟨Nat.le_of_ble_eq_true rfl, Nat.le_of_ble_eq_true rfl⟩ dX9_rawSample_24) hW (fun r24 H locs hp24 hW => ?_)
    have hp24 := hp24.symm
    subst hp24
    refine x_iret S hr hlk (Nat.le_of_ble_eq_true rfl) (Nat.le_of_ble_eq_true rfl) (g, A, μ) hW ?_ dX9_rawSample_27
    exact ⟨q, i, hq, rfl, hi, rfl, (hR.2.1 q hq).2.2.1 i hi, ⟨rfl, rfl, (SQ_rfl _)⟩⟩
  · exact x_tf hZ S hnt hl.1 hlk (g, A, μ) hW (n := 1) (t_tf1 l hl0 hZ hZX _ _ _ _) ⟨⟨rfl, rfl, (SQ_rfl _)⟩, Or.inl ⟨rfl, hx⟩⟩ (by decide) ⟨(Nat.le_of_ble_eq_true rfl), (Nat.le_of_ble_eq_true rfl)⟩ (Nat.le_of_ble_eq_true rfl) (Nat.le_of_ble_eq_true rfl) (Nat.le_of_ble_eq_true rfl) (Nat.le_of_ble_eq_true rfl) dX9_rawSample_12
  · exact x_tf hZ S hnt hl.1 hlk (g, A, μ) hW (n := 4) (t_tf4 l hl0 hZ hZX _ _ _ _) ⟨⟨rfl, rfl, (SQ_rfl _)⟩, Or.inr ⟨rfl, q, hq, hx, hy⟩⟩ (by decide) ⟨(Nat.le_of_ble_eq_true rfl), (Nat.le_of_ble_eq_true rfl)⟩ (Nat.le_of_ble_eq_true rfl) (Nat.le_of_ble_eq_true rfl) (Nat.le_of_ble_eq_true rfl) (Nat.le_of_ble_eq_true rfl) dX9_rawSample_12
set_option maxHeartbeats 4000000 in
set_option maxRecDepth 100000 in
theorem t_X9_sample (l : Launch) (hl0 : l.stackTraces = false) {Z : ZT} (hZ : zOK Z) (hZX : ZX Z) (A : Nat × Nat → Nat) (g : Nat → Bool) (μ : CM) (sz : Nat) {v : Nat → Int32} (hVG : VG v) (hR : RP (μ 0) v) (x y : Int32) : XVi l yX9_sample cX9_sample 3 (some .int) 7 15 1376 [.ref (A (0, 14)), .int x, .int y] Z (ids g) A (cE Z A g μ) sz (fun r u => ∃ q i, q < 4 ∧ x = nI q ∧ i < lnV v q ∧ y = nI i ∧ r = flV v q (nfV v) i ∧ SM g A μ u) (fun n u => SM g A μ u ∧ ((n = 1 ∧ ¬ IX x 4) ∨ (n = 4 ∧ ∃ q, q < 4 ∧ x = nI q ∧ ¬ IX y (lnV v q)))) := by
  refine x_met (E := (cE Z A g μ)) (by decide +kernel) (Nat.le_of_ble_eq_true rfl) ?_
  intro p e s m below meth c ls S hr hlk hnt hsz hW hl
  have hxe := S.1
  have hcd := S.2.1
  subst hsz
  have hl : lv_has ls 3 [(0, .ref (A (0, 14))), (1, .int x), (2, .int y)] := hl
  refine lv_aload_n hxe hcd dX9_sample_0 rfl (lv_at hl 0 rfl) ?_
  refine gf_X9_10 S hW dX9_sample_1 ?_
  refine gf_X9_122 S hW sB_0 dX9_sample_4 ?_
  refine lv_iload_n hxe hcd dX9_sample_7 rfl (lv_at hl 1 rfl) ?_
  refine lv_iload_n hxe hcd dX9_sample_8 rfl (lv_at hl 2 rfl) ?_
  refine r_calli0 (r_runV hZ S hW (As := [.int x, .int y]) (rest := []) (t_X5_faultOfSample l hZ A g μ s.heap.size sB_0 (lnV v) (RP_aln hR hVG) x y) k_X9_150 (r_recv hW (x := (0, 4)) (in_s sB_0 (by decide)) rfl rfl) (hl.1) rfl rfl (Nat.le_of_ble_eq_true rfl) ⟨Nat.le_of_ble_eq_true rfl, Nat.le_of_ble_eq_true rfl⟩ ⟨Nat.le_of_ble_eq_true rfl, Nat.le_of_ble_eq_true rfl⟩ dX9_sample_9) hW (fun r9 H locs hp9 hW => ?_)
  rcases hp9 with ⟨rfl, q, hq, hx, hy⟩ | ⟨rfl, hx⟩ | ⟨rfl, q, hq, hx, hy⟩
  · subst hx
    obtain ⟨i, hi, rfl⟩ := hy
    have hn160 := VG_ln hVG hq
    refine r_callv0 (r_runS hZ S hW (As := [.int (nI 0)]) (rest := []) (t_tf0 l hZ (ids g) A (cE Z A g μ) H.size) k_X9_82 hl.1 rfl rfl (Nat.le_of_ble_eq_true rfl) ⟨(Nat.le_of_ble_eq_true rfl), (Nat.le_of_ble_eq_true rfl)⟩ ⟨(Nat.le_of_ble_eq_true rfl), (Nat.le_of_ble_eq_true rfl)⟩ dX9_sample_12) hW (fun H locs hW => ?_)
    refine lv_aload_n hxe hcd dX9_sample_15 rfl (lv_at hl 0 rfl) ?_
    refine lv_iload_n hxe hcd dX9_sample_16 rfl (lv_at hl 1 rfl) ?_
    refine lv_iload_n hxe hcd dX9_sample_17 rfl (lv_at hl 2 rfl) ?_
    refine r_calli (F := (cE Z A g)) (r_runV hZ S hW (As := [.int (nI q), .int (nI i)]) (rest := []) (t_X9_filteredOrZero l hZ A g μ H.size (q := q) (n := lnV v q) (nf := nfV v) (by omega) (RP_l7 hR hVG (by omega)) (VG_ln hVG (by omega)) (RP_c hR hVG) hVG.1.2 (psV v) (RP_ps hR hVG) (nI i)) k_X9_156 (r_recv hW (x := (0, 14)) (in_r (by decide) (by decide)) rfl rfl) (hl.1) rfl rfl (Nat.le_of_ble_eq_true rfl) ⟨Nat.le_of_ble_eq_true rfl, Nat.le_of_ble_eq_true rfl⟩ ⟨Nat.le_of_ble_eq_true rfl, Nat.le_of_ble_eq_true rfl⟩ dX9_sample_18) hW (fun r18 u18 H locs hp18 hW => ?_)
    obtain ⟨hr18, hs180⟩ := foz_of hR hVG (q := q) (by omega) hp18
    have hs18 : SQ μ u18 := SQ_tr (SQ_rfl _) hs180
    subst hr18
    refine x_iret S hr hlk (Nat.le_of_ble_eq_true rfl) (Nat.le_of_ble_eq_true rfl) (g, A, u18) hW ?_ dX9_sample_21
    exact ⟨q, i, hq, rfl, hi, rfl, flz_in hi hn160, ⟨rfl, rfl, (by repeat (first | exact SQ_rfl _ | exact SQ_18 _ _ _ | exact SQ_20 _ _ _ _ | exact hsq | exact hs18 | (refine SQ_up ?_ (by first | exact Or.inl rfl | exact Or.inr ⟨rfl, by decide, by decide⟩) _)))⟩⟩
  · exact x_tf hZ S hnt hl.1 hlk (g, A, μ) hW (n := 1) (t_tf1 l hl0 hZ hZX _ _ _ _) ⟨⟨rfl, rfl, (SQ_rfl _)⟩, Or.inl ⟨rfl, hx⟩⟩ (by decide) ⟨(Nat.le_of_ble_eq_true rfl), (Nat.le_of_ble_eq_true rfl)⟩ (Nat.le_of_ble_eq_true rfl) (Nat.le_of_ble_eq_true rfl) (Nat.le_of_ble_eq_true rfl) (Nat.le_of_ble_eq_true rfl) dX9_sample_12
  · exact x_tf hZ S hnt hl.1 hlk (g, A, μ) hW (n := 4) (t_tf4 l hl0 hZ hZX _ _ _ _) ⟨⟨rfl, rfl, (SQ_rfl _)⟩, Or.inr ⟨rfl, q, hq, hx, hy⟩⟩ (by decide) ⟨(Nat.le_of_ble_eq_true rfl), (Nat.le_of_ble_eq_true rfl)⟩ (Nat.le_of_ble_eq_true rfl) (Nat.le_of_ble_eq_true rfl) (Nat.le_of_ble_eq_true rfl) (Nat.le_of_ble_eq_true rfl) dX9_sample_12
set_option maxHeartbeats 4000000 in
set_option maxRecDepth 100000 in
theorem t_X9_sampleByFilter (l : Launch) (hl0 : l.stackTraces = false) {Z : ZT} (hZ : zOK Z) (hZX : ZX Z) (A : Nat × Nat → Nat) (g : Nat → Bool) (μ : CM) (sz : Nat) {v : Nat → Int32} (hVG : VG v) (hR : RP (μ 0) v) (x y : Int32) : XVi l yX9_sampleByFilter cX9_sampleByFilter 3 (some .int) 7 15 1376 [.ref (A (0, 14)), .int x, .int y] Z (ids g) A (cE Z A g μ) sz (fun r u => ∃ q i, q < 4 ∧ x = nI q ∧ i < lnV v q ∧ y = nI i ∧ r = flV v q (nfV v) i ∧ SM g A μ u) (fun n u => SM g A μ u ∧ ((n = 1 ∧ ¬ IX x 4) ∨ (n = 4 ∧ ∃ q, q < 4 ∧ x = nI q ∧ ¬ IX y (lnV v q)))) := by
  refine x_met (E := (cE Z A g μ)) (by decide +kernel) (Nat.le_of_ble_eq_true rfl) ?_
  intro p e s m below meth c ls S hr hlk hnt hsz hW hl
  have hxe := S.1
  have hcd := S.2.1
  subst hsz
  have hl : lv_has ls 3 [(0, .ref (A (0, 14))), (1, .int x), (2, .int y)] := hl
  refine lv_aload_n hxe hcd dX9_sampleByFilter_0 rfl (lv_at hl 0 rfl) ?_
  refine gf_X9_10 S hW dX9_sampleByFilter_1 ?_
  refine gf_X9_122 S hW sB_0 dX9_sampleByFilter_4 ?_
  refine lv_iload_n hxe hcd dX9_sampleByFilter_7 rfl (lv_at hl 1 rfl) ?_
  refine lv_iload_n hxe hcd dX9_sampleByFilter_8 rfl (lv_at hl 2 rfl) ?_
  refine r_calli0 (r_runV hZ S hW (As := [.int x, .int y]) (rest := []) (t_X5_faultOfSample l hZ A g μ s.heap.size sB_0 (lnV v) (RP_aln hR hVG) x y) k_X9_150 (r_recv hW (x := (0, 4)) (in_s sB_0 (by decide)) rfl rfl) (hl.1) rfl rfl (Nat.le_of_ble_eq_true rfl) ⟨Nat.le_of_ble_eq_true rfl, Nat.le_of_ble_eq_true rfl⟩ ⟨Nat.le_of_ble_eq_true rfl, Nat.le_of_ble_eq_true rfl⟩ dX9_sampleByFilter_9) hW (fun r9 H locs hp9 hW => ?_)
  rcases hp9 with ⟨rfl, q, hq, hx, hy⟩ | ⟨rfl, hx⟩ | ⟨rfl, q, hq, hx, hy⟩
  · subst hx
    obtain ⟨i, hi, rfl⟩ := hy
    have hn160 := VG_ln hVG hq
    refine r_callv0 (r_runS hZ S hW (As := [.int (nI 0)]) (rest := []) (t_tf0 l hZ (ids g) A (cE Z A g μ) H.size) k_X9_82 hl.1 rfl rfl (Nat.le_of_ble_eq_true rfl) ⟨(Nat.le_of_ble_eq_true rfl), (Nat.le_of_ble_eq_true rfl)⟩ ⟨(Nat.le_of_ble_eq_true rfl), (Nat.le_of_ble_eq_true rfl)⟩ dX9_sampleByFilter_12) hW (fun H locs hW => ?_)
    refine lv_aload_n hxe hcd dX9_sampleByFilter_15 rfl (lv_at hl 0 rfl) ?_
    refine gf_X9_32 S hW dX9_sampleByFilter_16 ?_
    refine lv_aload_n hxe hcd dX9_sampleByFilter_19 rfl (lv_at hl 0 rfl) ?_
    refine gf_X9_10 S hW dX9_sampleByFilter_20 ?_
    refine lv_iload_n hxe hcd dX9_sampleByFilter_23 rfl (lv_at hl 1 rfl) ?_
    refine r_callv (F := (cE Z A g)) (r_runV hZ S hW (As := [.ref (A (0, 0)), .int (nI q)]) (rest := []) (t_X4_sendByFilter l hZ A g μ H.size sB_0 (q := q) (n := lnV v q) (nf := nfV v) (by omega) (RP_l7 hR hVG (by omega)) (VG_ln hVG (by omega)) (RP_c hR hVG) hVG.1.2 (psV v) (RP_ps hR hVG)) k_X9_159 (r_recv hW (x := (0, 17)) (in_r (by decide) (by decide)) rfl rfl) (hl.1) rfl rfl (Nat.le_of_ble_eq_true rfl) ⟨Nat.le_of_ble_eq_true rfl, Nat.le_of_ble_eq_true rfl⟩ ⟨Nat.le_of_ble_eq_true rfl, Nat.le_of_ble_eq_true rfl⟩ dX9_sampleByFilter_24) hW (fun u24 H locs hp24 hW => ?_)
    obtain ⟨R24, hm24, hO24⟩ := hp24
    subst hm24
    have hO24 : ∀ j, j < lnV v q → R24 j = flV v q (nfV v) j := fun j hj => (hO24 j hj).trans (RP_fl hR (by omega) (Nat.le_refl _) j hj)
    refine lv_aload_n hxe hcd dX9_sampleByFilter_27 rfl (lv_at hl 0 rfl) ?_
    refine gf_X9_32 S hW dX9_sampleByFilter_28 ?_
    refine lv_iload_n hxe hcd dX9_sampleByFilter_31 rfl (lv_at hl 2 rfl) ?_
    refine r_calli0 (r_runV hZ S hW (As := [.int (nI i)]) (rest := []) (t_X4_givenByFilter l hZ A g (up2 μ 0 20 R24) H.size (nI i)) k_X9_163 (r_recv hW (x := (0, 17)) (in_r (by decide) (by decide)) rfl rfl) (hl.1) rfl rfl (Nat.le_of_ble_eq_true rfl) ⟨Nat.le_of_ble_eq_true rfl, Nat.le_of_ble_eq_true rfl⟩ ⟨Nat.le_of_ble_eq_true rfl, Nat.le_of_ble_eq_true rfl⟩ dX9_sampleByFilter_32) hW (fun r32 H locs hp32 hW => ?_)
    have hp32 := hp32.symm
    subst hp32
    refine x_iret S hr hlk (Nat.le_of_ble_eq_true rfl) (Nat.le_of_ble_eq_true rfl) (g, A, up2 μ 0 20 R24) hW ?_ dX9_sampleByFilter_35
    exact ⟨q, i, hq, rfl, hi, rfl, by rw [up2_s, rd_in (n := 160) (k := i) _ (by omega) (by decide)]; exact hO24 i hi, ⟨rfl, rfl, (by repeat (first | exact SQ_rfl _ | exact SQ_18 _ _ _ | exact SQ_20 _ _ _ _ | exact hsq | (refine SQ_up ?_ (by first | exact Or.inl rfl | exact Or.inr ⟨rfl, by decide, by decide⟩) _)))⟩⟩
  · exact x_tf hZ S hnt hl.1 hlk (g, A, μ) hW (n := 1) (t_tf1 l hl0 hZ hZX _ _ _ _) ⟨⟨rfl, rfl, (SQ_rfl _)⟩, Or.inl ⟨rfl, hx⟩⟩ (by decide) ⟨(Nat.le_of_ble_eq_true rfl), (Nat.le_of_ble_eq_true rfl)⟩ (Nat.le_of_ble_eq_true rfl) (Nat.le_of_ble_eq_true rfl) (Nat.le_of_ble_eq_true rfl) (Nat.le_of_ble_eq_true rfl) dX9_sampleByFilter_12
  · exact x_tf hZ S hnt hl.1 hlk (g, A, μ) hW (n := 4) (t_tf4 l hl0 hZ hZX _ _ _ _) ⟨⟨rfl, rfl, (SQ_rfl _)⟩, Or.inr ⟨rfl, q, hq, hx, hy⟩⟩ (by decide) ⟨(Nat.le_of_ble_eq_true rfl), (Nat.le_of_ble_eq_true rfl)⟩ (Nat.le_of_ble_eq_true rfl) (Nat.le_of_ble_eq_true rfl) (Nat.le_of_ble_eq_true rfl) (Nat.le_of_ble_eq_true rfl) dX9_sampleByFilter_12
set_option maxHeartbeats 4000000 in
set_option maxRecDepth 100000 in
theorem t_X9_mixedSample (l : Launch) (hl0 : l.stackTraces = false) {Z : ZT} (hZ : zOK Z) (hZX : ZX Z) (A : Nat × Nat → Nat) (g : Nat → Bool) (μ : CM) (sz : Nat) {v : Nat → Int32} (hVG : VG v) (hR : RP (μ 0) v) (x y z : Int32) : XVi l yX9_mixedSample cX9_mixedSample 4 (some .int) 7 15 1376 [.ref (A (0, 14)), .int x, .int y, .int z] Z (ids g) A (cE Z A g μ) sz (fun r u => ∃ q1 q2 i, q1 < 4 ∧ q2 < 4 ∧ x = nI q1 ∧ y = nI q2 ∧ z = nI i ∧ (i < lnV v q1 ∨ i < lnV v q2) ∧ r = ((if i < lnV v q1 then flV v q1 (nfV v) i else 0) + (if i < lnV v q2 then flV v q2 (nfV v) i else 0)) / nI 2 ∧ SM g A μ u) (fun n u => SM g A μ u ∧ ((n = 1 ∧ ¬ (IX x 4 ∧ IX y 4)) ∨ (n = 4 ∧ ∃ q1 q2, q1 < 4 ∧ q2 < 4 ∧ x = nI q1 ∧ y = nI q2 ∧ ¬ IX z (lnV v q1) ∧ ¬ IX z (lnV v q2)))) := by
  refine x_met (E := (cE Z A g μ)) (by decide +kernel) (Nat.le_of_ble_eq_true rfl) ?_
  intro p e s m below meth c ls S hr hlk hnt hsz hW hl
  have hxe := S.1
  have hcd := S.2.1
  subst hsz
  have hl : lv_has ls 4 [(0, .ref (A (0, 14))), (1, .int x), (2, .int y), (3, .int z)] := hl
  refine lv_iload_n hxe hcd dX9_mixedSample_0 rfl (lv_at hl 1 rfl) ?_
  refine r_calli0 (r_runS hZ S hW (As := [.int x]) (rest := []) (t_X5_faultOfSong l hZ (ids g) A (cE Z A g μ) s.heap.size x) k_X9_141 (hl.1) rfl rfl (Nat.le_of_ble_eq_true rfl) ⟨Nat.le_of_ble_eq_true rfl, Nat.le_of_ble_eq_true rfl⟩ ⟨Nat.le_of_ble_eq_true rfl, Nat.le_of_ble_eq_true rfl⟩ dX9_mixedSample_1) hW (fun r1 H locs hp1 hW => ?_)
  rcases hp1 with ⟨rfl, hp1⟩ | ⟨rfl, hp1⟩
  · obtain ⟨q1, hqq1, rfl⟩ := hp1
    refine r_callv0 (r_runS hZ S hW (As := [.int (nI 0)]) (rest := []) (t_tf0 l hZ (ids g) A (cE Z A g μ) H.size) k_X9_82 hl.1 rfl rfl (Nat.le_of_ble_eq_true rfl) ⟨(Nat.le_of_ble_eq_true rfl), (Nat.le_of_ble_eq_true rfl)⟩ ⟨(Nat.le_of_ble_eq_true rfl), (Nat.le_of_ble_eq_true rfl)⟩ dX9_mixedSample_4) hW (fun H locs hW => ?_)
    refine lv_iload_n hxe hcd dX9_mixedSample_7 rfl (lv_at hl 2 rfl) ?_
    refine r_calli0 (r_runS hZ S hW (As := [.int y]) (rest := []) (t_X5_faultOfSong l hZ (ids g) A (cE Z A g μ) H.size y) k_X9_141 (hl.1) rfl rfl (Nat.le_of_ble_eq_true rfl) ⟨Nat.le_of_ble_eq_true rfl, Nat.le_of_ble_eq_true rfl⟩ ⟨Nat.le_of_ble_eq_true rfl, Nat.le_of_ble_eq_true rfl⟩ dX9_mixedSample_8) hW (fun r8 H locs hp8 hW => ?_)
    rcases hp8 with ⟨rfl, hp8⟩ | ⟨rfl, hp8⟩
    · obtain ⟨q2, hqq2, rfl⟩ := hp8
      refine r_callv0 (r_runS hZ S hW (As := [.int (nI 0)]) (rest := []) (t_tf0 l hZ (ids g) A (cE Z A g μ) H.size) k_X9_82 hl.1 rfl rfl (Nat.le_of_ble_eq_true rfl) ⟨(Nat.le_of_ble_eq_true rfl), (Nat.le_of_ble_eq_true rfl)⟩ ⟨(Nat.le_of_ble_eq_true rfl), (Nat.le_of_ble_eq_true rfl)⟩ dX9_mixedSample_11) hW (fun H locs hW => ?_)
      refine lv_aload_n hxe hcd dX9_mixedSample_14 rfl (lv_at hl 0 rfl) ?_
      refine gf_X9_10 S hW dX9_mixedSample_15 ?_
      refine gf_X9_122 S hW sB_0 dX9_mixedSample_18 ?_
      refine lv_iload_n hxe hcd dX9_mixedSample_21 rfl (lv_at hl 1 rfl) ?_
      refine lv_iload_n hxe hcd dX9_mixedSample_22 rfl (lv_at hl 3 rfl) ?_
      refine r_calli0 (r_runV hZ S hW (As := [.int (nI q1), .int z]) (rest := []) (t_X5_hasSample l hZ A g μ H.size sB_0 (q := q1) (n := lnV v q1) (by omega) (RP_l7 hR hVG (by omega)) (VG_ln hVG (by omega)) z) k_X9_166 (r_recv hW (x := (0, 4)) (in_s sB_0 (by decide)) rfl rfl) (hl.1) rfl rfl (Nat.le_of_ble_eq_true rfl) ⟨Nat.le_of_ble_eq_true rfl, Nat.le_of_ble_eq_true rfl⟩ ⟨Nat.le_of_ble_eq_true rfl, Nat.le_of_ble_eq_true rfl⟩ dX9_mixedSample_23) hW (fun r23 H locs hp23 hW => ?_)
      rcases hp23 with ⟨hp230, hp23⟩ | ⟨hp230, hp23⟩
      · subst hp230
        refine lv_if_ne (tgt := 54) hxe hcd dX9_mixedSample_26 (by decide) (fun _ => ?_) (fun h => absurd h (by decide))
        have hmix := MIX hVG hqq1 hqq2 (z := z) (by first | exact Or.inl hp23 | exact Or.inr hp38)
        refine lv_aload_n hxe hcd dX9_mixedSample_54 rfl (lv_at hl 0 rfl) ?_
        refine lv_iload_n hxe hcd dX9_mixedSample_55 rfl (lv_at hl 1 rfl) ?_
        refine lv_iload_n hxe hcd dX9_mixedSample_56 rfl (lv_at hl 3 rfl) ?_
        refine r_calli (F := (cE Z A g)) (r_runV hZ S hW (As := [.int (nI q1), .int z]) (rest := []) (t_X9_filteredOrZero l hZ A g μ H.size (q := q1) (n := lnV v q1) (nf := nfV v) (by omega) (RP_l7 hR hVG (by omega)) (VG_ln hVG (by omega)) (RP_c hR hVG) hVG.1.2 (psV v) (RP_ps hR hVG) z) k_X9_156 (r_recv hW (x := (0, 14)) (in_r (by decide) (by decide)) rfl rfl) (hl.1) rfl rfl (Nat.le_of_ble_eq_true rfl) ⟨Nat.le_of_ble_eq_true rfl, Nat.le_of_ble_eq_true rfl⟩ ⟨Nat.le_of_ble_eq_true rfl, Nat.le_of_ble_eq_true rfl⟩ dX9_mixedSample_57) hW (fun r57 u57 H locs hp57 hW => ?_)
        obtain ⟨hr57, hs570⟩ := foz_of hR hVG (q := q1) (by omega) hp57
        have hs57 : SQ μ u57 := SQ_tr (SQ_rfl _) hs570
        subst hr57
        refine lv_aload_n hxe hcd dX9_mixedSample_60 rfl (lv_at hl 0 rfl) ?_
        refine lv_iload_n hxe hcd dX9_mixedSample_61 rfl (lv_at hl 2 rfl) ?_
        refine lv_iload_n hxe hcd dX9_mixedSample_62 rfl (lv_at hl 3 rfl) ?_
        refine r_calli (F := (cE Z A g)) (r_runV hZ S hW (As := [.int (nI q2), .int z]) (rest := [.int (flz v q1 z)]) (t_X9_filteredOrZero l hZ A g u57 H.size (q := q2) (n := lnV v q2) (nf := nfV v) (by omega) (RP_l7 (SQ_RP (μ := μ) (u := u57) (by repeat (first | exact SQ_rfl _ | exact SQ_18 _ _ _ | exact SQ_20 _ _ _ _ | exact hsq | exact hs57 | (refine SQ_up ?_ (by first | exact Or.inl rfl | exact Or.inr ⟨rfl, by decide, by decide⟩) _))) (by decide) hR) hVG (by omega)) (VG_ln hVG (by omega)) (RP_c (SQ_RP (μ := μ) (u := u57) (by repeat (first | exact SQ_rfl _ | exact SQ_18 _ _ _ | exact SQ_20 _ _ _ _ | exact hsq | exact hs57 | (refine SQ_up ?_ (by first | exact Or.inl rfl | exact Or.inr ⟨rfl, by decide, by decide⟩) _))) (by decide) hR) hVG) hVG.1.2 (psV v) (RP_ps (SQ_RP (μ := μ) (u := u57) (by repeat (first | exact SQ_rfl _ | exact SQ_18 _ _ _ | exact SQ_20 _ _ _ _ | exact hsq | exact hs57 | (refine SQ_up ?_ (by first | exact Or.inl rfl | exact Or.inr ⟨rfl, by decide, by decide⟩) _))) (by decide) hR) hVG) z) k_X9_156 (r_recv hW (x := (0, 14)) (in_r (by decide) (by decide)) rfl rfl) (hl.1) rfl rfl (Nat.le_of_ble_eq_true rfl) ⟨Nat.le_of_ble_eq_true rfl, Nat.le_of_ble_eq_true rfl⟩ ⟨Nat.le_of_ble_eq_true rfl, Nat.le_of_ble_eq_true rfl⟩ dX9_mixedSample_63) hW (fun r63 u63 H locs hp63 hW => ?_)
        obtain ⟨hr63, hs630⟩ := foz_of (SQ_RP (μ := μ) (u := u57) (by repeat (first | exact SQ_rfl _ | exact SQ_18 _ _ _ | exact SQ_20 _ _ _ _ | exact hsq | exact hs57 | exact hs63 | (refine SQ_up ?_ (by first | exact Or.inl rfl | exact Or.inr ⟨rfl, by decide, by decide⟩) _))) (by decide) hR) hVG (q := q2) (by omega) hp63
        have hs63 : SQ μ u63 := SQ_tr (by repeat (first | exact SQ_rfl _ | exact SQ_18 _ _ _ | exact SQ_20 _ _ _ _ | exact hsq | exact hs57 | exact hs63 | (refine SQ_up ?_ (by first | exact Or.inl rfl | exact Or.inr ⟨rfl, by decide, by decide⟩) _))) hs630
        subst hr63
        refine lv_iadd hxe hcd dX9_mixedSample_66 ?_
        refine lv_iconst (v := (nI 2)) hxe hcd dX9_mixedSample_67 (by decide) ?_
        refine lv_idiv hxe hcd dX9_mixedSample_68 (by decide) ?_
        refine x_iret S hr hlk (Nat.le_of_ble_eq_true rfl) (Nat.le_of_ble_eq_true rfl) (g, A, u63) hW ?_ dX9_mixedSample_69
        obtain ⟨i, rfl, hi, hm⟩ := hmix
        exact ⟨q1, q2, i, hqq1, hqq2, rfl, rfl, rfl, hi, by rw [hm], ⟨rfl, rfl, (by repeat (first | exact SQ_rfl _ | exact SQ_18 _ _ _ | exact SQ_20 _ _ _ _ | exact hsq | exact hs57 | exact hs63 | (refine SQ_up ?_ (by first | exact Or.inl rfl | exact Or.inr ⟨rfl, by decide, by decide⟩) _)))⟩⟩
      · subst hp230
        refine lv_if_ne (tgt := 54) hxe hcd dX9_mixedSample_26 (by decide) (fun h => absurd h (by decide)) (fun _ => ?_)
        refine lv_aload_n hxe hcd dX9_mixedSample_29 rfl (lv_at hl 0 rfl) ?_
        refine gf_X9_10 S hW dX9_mixedSample_30 ?_
        refine gf_X9_122 S hW sB_0 dX9_mixedSample_33 ?_
        refine lv_iload_n hxe hcd dX9_mixedSample_36 rfl (lv_at hl 2 rfl) ?_
        refine lv_iload_n hxe hcd dX9_mixedSample_37 rfl (lv_at hl 3 rfl) ?_
        refine r_calli0 (r_runV hZ S hW (As := [.int (nI q2), .int z]) (rest := []) (t_X5_hasSample l hZ A g μ H.size sB_0 (q := q2) (n := lnV v q2) (by omega) (RP_l7 hR hVG (by omega)) (VG_ln hVG (by omega)) z) k_X9_166 (r_recv hW (x := (0, 4)) (in_s sB_0 (by decide)) rfl rfl) (hl.1) rfl rfl (Nat.le_of_ble_eq_true rfl) ⟨Nat.le_of_ble_eq_true rfl, Nat.le_of_ble_eq_true rfl⟩ ⟨Nat.le_of_ble_eq_true rfl, Nat.le_of_ble_eq_true rfl⟩ dX9_mixedSample_38) hW (fun r38 H locs hp38 hW => ?_)
        rcases hp38 with ⟨hp380, hp38⟩ | ⟨hp380, hp38⟩
        · subst hp380
          refine lv_if_ne (tgt := 54) hxe hcd dX9_mixedSample_41 (by decide) (fun _ => ?_) (fun h => absurd h (by decide))
          have hmix := MIX hVG hqq1 hqq2 (z := z) (by first | exact Or.inl hp23 | exact Or.inr hp38)
          refine lv_aload_n hxe hcd dX9_mixedSample_54 rfl (lv_at hl 0 rfl) ?_
          refine lv_iload_n hxe hcd dX9_mixedSample_55 rfl (lv_at hl 1 rfl) ?_
          refine lv_iload_n hxe hcd dX9_mixedSample_56 rfl (lv_at hl 3 rfl) ?_
          refine r_calli (F := (cE Z A g)) (r_runV hZ S hW (As := [.int (nI q1), .int z]) (rest := []) (t_X9_filteredOrZero l hZ A g μ H.size (q := q1) (n := lnV v q1) (nf := nfV v) (by omega) (RP_l7 hR hVG (by omega)) (VG_ln hVG (by omega)) (RP_c hR hVG) hVG.1.2 (psV v) (RP_ps hR hVG) z) k_X9_156 (r_recv hW (x := (0, 14)) (in_r (by decide) (by decide)) rfl rfl) (hl.1) rfl rfl (Nat.le_of_ble_eq_true rfl) ⟨Nat.le_of_ble_eq_true rfl, Nat.le_of_ble_eq_true rfl⟩ ⟨Nat.le_of_ble_eq_true rfl, Nat.le_of_ble_eq_true rfl⟩ dX9_mixedSample_57) hW (fun r57 u57 H locs hp57 hW => ?_)
          obtain ⟨hr57, hs570⟩ := foz_of hR hVG (q := q1) (by omega) hp57
          have hs57 : SQ μ u57 := SQ_tr (SQ_rfl _) hs570
          subst hr57
          refine lv_aload_n hxe hcd dX9_mixedSample_60 rfl (lv_at hl 0 rfl) ?_
          refine lv_iload_n hxe hcd dX9_mixedSample_61 rfl (lv_at hl 2 rfl) ?_
          refine lv_iload_n hxe hcd dX9_mixedSample_62 rfl (lv_at hl 3 rfl) ?_
          refine r_calli (F := (cE Z A g)) (r_runV hZ S hW (As := [.int (nI q2), .int z]) (rest := [.int (flz v q1 z)]) (t_X9_filteredOrZero l hZ A g u57 H.size (q := q2) (n := lnV v q2) (nf := nfV v) (by omega) (RP_l7 (SQ_RP (μ := μ) (u := u57) (by repeat (first | exact SQ_rfl _ | exact SQ_18 _ _ _ | exact SQ_20 _ _ _ _ | exact hsq | exact hs57 | (refine SQ_up ?_ (by first | exact Or.inl rfl | exact Or.inr ⟨rfl, by decide, by decide⟩) _))) (by decide) hR) hVG (by omega)) (VG_ln hVG (by omega)) (RP_c (SQ_RP (μ := μ) (u := u57) (by repeat (first | exact SQ_rfl _ | exact SQ_18 _ _ _ | exact SQ_20 _ _ _ _ | exact hsq | exact hs57 | (refine SQ_up ?_ (by first | exact Or.inl rfl | exact Or.inr ⟨rfl, by decide, by decide⟩) _))) (by decide) hR) hVG) hVG.1.2 (psV v) (RP_ps (SQ_RP (μ := μ) (u := u57) (by repeat (first | exact SQ_rfl _ | exact SQ_18 _ _ _ | exact SQ_20 _ _ _ _ | exact hsq | exact hs57 | (refine SQ_up ?_ (by first | exact Or.inl rfl | exact Or.inr ⟨rfl, by decide, by decide⟩) _))) (by decide) hR) hVG) z) k_X9_156 (r_recv hW (x := (0, 14)) (in_r (by decide) (by decide)) rfl rfl) (hl.1) rfl rfl (Nat.le_of_ble_eq_true rfl) ⟨Nat.le_of_ble_eq_true rfl, Nat.le_of_ble_eq_true rfl⟩ ⟨Nat.le_of_ble_eq_true rfl, Nat.le_of_ble_eq_true rfl⟩ dX9_mixedSample_63) hW (fun r63 u63 H locs hp63 hW => ?_)
          obtain ⟨hr63, hs630⟩ := foz_of (SQ_RP (μ := μ) (u := u57) (by repeat (first | exact SQ_rfl _ | exact SQ_18 _ _ _ | exact SQ_20 _ _ _ _ | exact hsq | exact hs57 | exact hs63 | (refine SQ_up ?_ (by first | exact Or.inl rfl | exact Or.inr ⟨rfl, by decide, by decide⟩) _))) (by decide) hR) hVG (q := q2) (by omega) hp63
          have hs63 : SQ μ u63 := SQ_tr (by repeat (first | exact SQ_rfl _ | exact SQ_18 _ _ _ | exact SQ_20 _ _ _ _ | exact hsq | exact hs57 | exact hs63 | (refine SQ_up ?_ (by first | exact Or.inl rfl | exact Or.inr ⟨rfl, by decide, by decide⟩) _))) hs630
          subst hr63
          refine lv_iadd hxe hcd dX9_mixedSample_66 ?_
          refine lv_iconst (v := (nI 2)) hxe hcd dX9_mixedSample_67 (by decide) ?_
          refine lv_idiv hxe hcd dX9_mixedSample_68 (by decide) ?_
          refine x_iret S hr hlk (Nat.le_of_ble_eq_true rfl) (Nat.le_of_ble_eq_true rfl) (g, A, u63) hW ?_ dX9_mixedSample_69
          obtain ⟨i, rfl, hi, hm⟩ := hmix
          exact ⟨q1, q2, i, hqq1, hqq2, rfl, rfl, rfl, hi, by rw [hm], ⟨rfl, rfl, (by repeat (first | exact SQ_rfl _ | exact SQ_18 _ _ _ | exact SQ_20 _ _ _ _ | exact hsq | exact hs57 | exact hs63 | (refine SQ_up ?_ (by first | exact Or.inl rfl | exact Or.inr ⟨rfl, by decide, by decide⟩) _)))⟩⟩
        · subst hp380
          refine lv_if_ne (tgt := 54) hxe hcd dX9_mixedSample_41 (by decide) (fun h => absurd h (by decide)) (fun _ => ?_)
          exact x_throwN S hZ hl0 hZX hnt hl.1 hlk hW (is := 172) (text := "neither song has such a sample") (by decide) dX9_mixedSample_44 dX9_mixedSample_47 dX9_mixedSample_48 dX9_mixedSample_50 dX9_mixedSample_53 (Nat.le_of_ble_eq_true rfl) (Nat.le_of_ble_eq_true rfl) (Nat.le_of_ble_eq_true rfl) (Nat.le_of_ble_eq_true rfl) (Nat.le_of_ble_eq_true rfl) (Nat.le_of_ble_eq_true rfl) (fun tz z1 z2 => ⟨(4, (g, A, μ)), ⟨⟨rfl, rfl, (SQ_rfl _)⟩, Or.inr ⟨rfl, q1, q2, hqq1, hqq2, rfl, rfl, hp23, hp38⟩⟩, ⟨rfl, z1⟩, z2⟩)
    · exact x_tf hZ S hnt hl.1 hlk (g, A, μ) hW (n := 1) (t_tf1 l hl0 hZ hZX _ _ _ _) ⟨⟨rfl, rfl, (SQ_rfl _)⟩, Or.inl ⟨rfl, fun z => hp8 z.2⟩⟩ (by decide) ⟨(Nat.le_of_ble_eq_true rfl), (Nat.le_of_ble_eq_true rfl)⟩ (Nat.le_of_ble_eq_true rfl) (Nat.le_of_ble_eq_true rfl) (Nat.le_of_ble_eq_true rfl) (Nat.le_of_ble_eq_true rfl) dX9_mixedSample_11
  · exact x_tf hZ S hnt hl.1 hlk (g, A, μ) hW (n := 1) (t_tf1 l hl0 hZ hZX _ _ _ _) ⟨⟨rfl, rfl, (SQ_rfl _)⟩, Or.inl ⟨rfl, fun z => hp1 z.1⟩⟩ (by decide) ⟨(Nat.le_of_ble_eq_true rfl), (Nat.le_of_ble_eq_true rfl)⟩ (Nat.le_of_ble_eq_true rfl) (Nat.le_of_ble_eq_true rfl) (Nat.le_of_ble_eq_true rfl) (Nat.le_of_ble_eq_true rfl) dX9_mixedSample_4
