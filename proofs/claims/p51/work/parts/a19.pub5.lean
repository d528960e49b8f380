theorem TK18 (μ : CM) (M R M2 R2 : Nat → Int32) : up2 (up2 (up2 (up2 μ 0 18 M) 0 19 R) 0 18 M2) 0 19 R2 = up2 (up2 μ 0 18 M2) 0 19 R2 := by
  rw [up2_c (μ := up2 μ 0 18 M) (o := 19) (o2 := 18) (by decide), up2_2, up2_2]
set_option maxHeartbeats 4000000 in
set_option maxRecDepth 100000 in
theorem t_X9_peak (l : Launch) (hl0 : l.stackTraces = false) {Z : ZT} (hZ : zOK Z) (hZX : ZX Z) (A : Nat × Nat → Nat) (g : Nat → Bool) (μ : CM) (sz : Nat) {v : Nat → Int32} (hVG : VG v) (hR : RP (μ 0) v) (x : Int32) : XVi l yX9_peak cX9_peak 5 (some .int) 7 15 1376 [.ref (A (0, 14)), .int x] Z (ids g) A (cE Z A g μ) sz (fun r u => ∃ q, q < 4 ∧ x = nI q ∧ 0 < nnV v q ∧ r = maxR (fun k => iabs ((flV v q (nfV v)) k)) (lnV v q) ∧ SM g A μ u) (fun n u => SM g A μ u ∧ ((n = 1 ∧ ¬ IX x 4) ∨ (n = 4 ∧ ∃ q, q < 4 ∧ x = nI q ∧ nnV v q = 0))) := by
  refine x_met (E := (cE Z A g μ)) (by decide +kernel) (Nat.le_of_ble_eq_true rfl) ?_
  intro p e s m below meth c ls S hr hlk hnt hsz hW hl
  have hxe := S.1
  have hcd := S.2.1
  subst hsz
  have hl : lv_has ls 5 [(0, .ref (A (0, 14))), (1, .int x)] := hl
  refine lv_aload_n hxe hcd dX9_peak_0 rfl (lv_at hl 0 rfl) ?_
  refine gf_X9_10 S hW dX9_peak_1 ?_
  refine gf_X9_122 S hW sB_0 dX9_peak_4 ?_
  refine lv_iload_n hxe hcd dX9_peak_7 rfl (lv_at hl 1 rfl) ?_
  refine r_calli0 (r_runV hZ S hW (As := [.int x]) (rest := []) (t_X5_faultOfPlaying l hZ A g μ s.heap.size sB_0 (nnV v) (RP_ann hR hVG) x) k_X9_135 (r_recv hW (x := (0, 4)) (in_s sB_0 (by decide)) rfl rfl) (hl.1) rfl rfl (Nat.le_of_ble_eq_true rfl) ⟨Nat.le_of_ble_eq_true rfl, Nat.le_of_ble_eq_true rfl⟩ ⟨Nat.le_of_ble_eq_true rfl, Nat.le_of_ble_eq_true rfl⟩ dX9_peak_8) hW (fun r8 H locs hp8 hW => ?_)
  rcases hp8 with ⟨rfl, q, hq, hx, h0⟩ | ⟨rfl, hx⟩ | ⟨rfl, q, hq, hx, h0⟩
  · subst hx
    have hn160 := VG_ln hVG hq
    refine r_callv0 (r_runS hZ S hW (As := [.int (nI 0)]) (rest := []) (t_tf0 l hZ (ids g) A (cE Z A g μ) H.size) k_X9_82 hl.1 rfl rfl (Nat.le_of_ble_eq_true rfl) ⟨(Nat.le_of_ble_eq_true rfl), (Nat.le_of_ble_eq_true rfl)⟩ ⟨(Nat.le_of_ble_eq_true rfl), (Nat.le_of_ble_eq_true rfl)⟩ dX9_peak_11) hW (fun H locs hW => ?_)
    refine lv_aload_n hxe hcd dX9_peak_14 rfl (lv_at hl 0 rfl) ?_
    refine lv_iload_n hxe hcd dX9_peak_15 rfl (lv_at hl 1 rfl) ?_
    refine r_calli (F := (cE Z A g)) (r_runV hZ S hW (As := [.int (nI q)]) (rest := []) (t_X9_sendSong l hZ A g μ H.size (q := q) (n := lnV v q) (nf := nfV v) (by omega) (RP_l7 hR hVG (by omega)) (VG_ln hVG (by omega)) (RP_c hR hVG) hVG.1.2 (psV v) (RP_ps hR hVG)) k_X9_177 (r_recv hW (x := (0, 14)) (in_r (by decide) (by decide)) rfl rfl) (hl.1) rfl rfl (Nat.le_of_ble_eq_true rfl) ⟨Nat.le_of_ble_eq_true rfl, Nat.le_of_ble_eq_true rfl⟩ ⟨Nat.le_of_ble_eq_true rfl, Nat.le_of_ble_eq_true rfl⟩ dX9_peak_16) hW (fun r16 u16 H locs hp16 hW => ?_)
    obtain ⟨hr16, M16, R16, hm16, hO16⟩ := hp16
    subst hm16
    subst hr16
    have hO16 : ∀ j, j < lnV v q → R16 j = flV v q (nfV v) j := fun j hj => (hO16 j hj).trans (RP_fl hR (by omega) (Nat.le_refl _) j hj)
    refine lv_istore_n (lv' := [(2, .int (nI (lnV v q))), (0, .ref (A (0, 14))), (1, .int (nI q))]) hxe hcd dX9_peak_19 rfl hl (by decide) rfl (fun ls hl => ?_)
    refine lv_iconst (v := (nI 0)) hxe hcd dX9_peak_20 (by decide) ?_
    refine lv_istore_n (lv' := [(3, .int (nI 0)), (2, .int (nI (lnV v q))), (0, .ref (A (0, 14))), (1, .int (nI q))]) hxe hcd dX9_peak_21 rfl hl (by decide) rfl (fun ls hl => ?_)
    refine lv_iconst (v := (nI 0)) hxe hcd dX9_peak_22 (by decide) ?_
    refine lv_istore (lv' := [(4, .int (nI 0)), (3, .int (nI 0)), (2, .int (nI (lnV v q))), (0, .ref (A (0, 14))), (1, .int (nI q))]) hxe hcd dX9_peak_23 hl (by decide) rfl (fun ls hl => ?_)
    have loop25 : ∀ (n_ : Nat) (i : Nat), lnV v q - i < n_ → (i ≤ lnV v q) → ∀ (H : Heap) (locs : List Loc) (ls : Array Slot), wX Z (ids g) A (cE Z A g (up2 (up2 μ 0 18 M16) 0 19 R16)) (fA (ids g) A (cE Z A g μ) s.heap.size) s H locs → lv_has ls 5 [(0, .ref (A (0, 14))), (1, .int (nI q)), (2, .int (nI (lnV v q))), (3, .int (maxR (fun k => iabs ((flV v q (nfV v)) k)) i)), (4, .int (nI i))] → W p l e (rmD 7 15 1376) s m ([.ref (A (0, 14)), .int (nI q)] : List Value).toArray below meth c H locs 0 0 (vx_MQ below (va_Qi (fun r u => ∃ q_z, q_z < 4 ∧ (nI q) = nI q_z ∧ 0 < nnV v q_z ∧ r = maxR (fun k => iabs ((flV v q_z (nfV v)) k)) (lnV v q_z) ∧ SM g A μ u) (fun (u : GM) t => qG Z (fA (ids g) A (cE Z A g μ) s.heap.size) u t) (fA (ids g) A (cE Z A g μ) s.heap.size)) (XCx (fun n u => SM g A μ u ∧ ((n = 1 ∧ ¬ IX (nI q) 4) ∨ (n = 4 ∧ ∃ q_z, q_z < 4 ∧ (nI q) = nI q_z ∧ nnV v q_z = 0))) Z (fA (ids g) A (cE Z A g μ) s.heap.size)) ([.ref (A (0, 14)), .int (nI q)] : List Value).toArray s 15 1376 (fA (ids g) A (cE Z A g μ) s.heap.size)) (F0 m 25 ls []) := by
      intro n_
      induction n_ with
      | zero => intro i hm; exact absurd hm (Nat.not_lt_zero _)
      | succ n_ ih25 =>
        intro i hm hi H locs ls hW hl
        refine lv_iload hxe hcd dX9_peak_25 (lv_at hl 4 rfl) ?_
        refine lv_iload_n hxe hcd dX9_peak_27 rfl (lv_at hl 2 rfl) ?_
        refine n_ge S (a := i) (b := (lnV v q)) (by omega) (by omega) dX9_peak_28 (tgt := 54) (by decide) (fun c28 => ?_) (fun c28 => ?_)
        · refine lv_iload_n hxe hcd dX9_peak_54 rfl (lv_at hl 3 rfl) ?_
          refine x_iret S hr hlk (Nat.le_of_ble_eq_true rfl) (Nat.le_of_ble_eq_true rfl) (g, A, up2 (up2 μ 0 18 M16) 0 19 R16) hW ?_ dX9_peak_55
          rw [show i = lnV v q by omega]
          exact ⟨q, hq, rfl, h0, rfl, ⟨rfl, rfl, (by repeat (first | exact SQ_rfl _ | exact SQ_18 _ _ _ | exact SQ_20 _ _ _ _ | exact hsq | (refine SQ_up ?_ (by first | exact Or.inl rfl | exact Or.inr ⟨rfl, by decide, by decide⟩) _)))⟩⟩
        · refine lv_iload_n hxe hcd dX9_peak_31 rfl (lv_at hl 3 rfl) ?_
          refine lv_aload_n hxe hcd dX9_peak_32 rfl (lv_at hl 0 rfl) ?_
          refine gf_X9_32 S hW dX9_peak_33 ?_
          refine lv_iload hxe hcd dX9_peak_36 (lv_at hl 4 rfl) ?_
          refine r_calli0 (r_runV hZ S hW (As := [.int (nI i)]) (rest := [.int (maxR (fun k => iabs ((flV v q (nfV v)) k)) i)]) (t_X4_given l hZ A g (up2 (up2 μ 0 18 M16) 0 19 R16) H.size (nI i)) k_X9_180 (r_recv hW (x := (0, 17)) (in_r (by decide) (by decide)) rfl rfl) (hl.1) rfl rfl (Nat.le_of_ble_eq_true rfl) ⟨Nat.le_of_ble_eq_true rfl, Nat.le_of_ble_eq_true rfl⟩ ⟨Nat.le_of_ble_eq_true rfl, Nat.le_of_ble_eq_true rfl⟩ dX9_peak_38) hW (fun r38 H locs hp38 hW => ?_)
          have hp38 := hp38.symm
          subst hp38
          refine r_as (y := (flV v q (nfV v) i)) (by rw [up2_s, rd_in (n := 160) (k := i) _ (by omega) (by decide)]; exact hO16 i (by omega)) ?_
          refine r_abs S hl.1 g_754 g_416 (Nat.le_of_ble_eq_true rfl) (Nat.le_of_ble_eq_true rfl) (Nat.le_of_ble_eq_true rfl) (Nat.le_of_ble_eq_true rfl) dX9_peak_41 ?_
          refine r_max S hl.1 g_755 g_333 (Nat.le_of_ble_eq_true rfl) (Nat.le_of_ble_eq_true rfl) (Nat.le_of_ble_eq_true rfl) (Nat.le_of_ble_eq_true rfl) dX9_peak_44 ?_
          refine lv_istore_n (lv' := [(3, .int (imax (maxR (fun k => iabs ((flV v q (nfV v)) k)) i) (iabs (flV v q (nfV v) i)))), (0, .ref (A (0, 14))), (1, .int (nI q)), (2, .int (nI (lnV v q))), (4, .int (nI i))]) hxe hcd dX9_peak_47 rfl hl (by decide) rfl (fun ls hl => ?_)
          refine lv_iinc (v := (nI (i + 1))) (lv' := [(4, .int (nI (i + 1))), (3, .int (imax (maxR (fun k => iabs ((flV v q (nfV v)) k)) i) (iabs (flV v q (nfV v) i)))), (0, .ref (A (0, 14))), (1, .int (nI q)), (2, .int (nI (lnV v q)))]) hxe hcd dX9_peak_48 hl (k := 4) rfl (nI_add i 1) (by decide) rfl (fun ls hl => ?_)
          refine lv_goto (tgt := 25) hxe hcd dX9_peak_51 (by decide) ?_
          have hl : lv_has ls 5 [(4, .int (nI (i + 1))), (3, .int (maxR (fun k => iabs ((flV v q (nfV v)) k)) (i + 1))), (0, .ref (A (0, 14))), (1, .int (nI q)), (2, .int (nI (lnV v q)))] := by
            rw [maxR]
            exact lv_sub hl [0, 1, 2, 3, 4] rfl
          exact ih25 (i + 1) (by omega) (by omega) _ _ _ hW (lv_sub hl [2, 3, 4, 1, 0] rfl)
    exact loop25 ((lnV v q) + 1) 0 (Nat.lt_succ_self _) (Nat.zero_le _) _ _ _ hW (lv_sub hl [3, 4, 2, 1, 0] rfl)
  · exact x_tf hZ S hnt hl.1 hlk (g, A, μ) hW (n := 1) (t_tf1 l hl0 hZ hZX _ _ _ _) ⟨⟨rfl, rfl, (SQ_rfl _)⟩, Or.inl ⟨rfl, hx⟩⟩ (by decide) ⟨(Nat.le_of_ble_eq_true rfl), (Nat.le_of_ble_eq_true rfl)⟩ (Nat.le_of_ble_eq_true rfl) (Nat.le_of_ble_eq_true rfl) (Nat.le_of_ble_eq_true rfl) (Nat.le_of_ble_eq_true rfl) dX9_peak_11
  · exact x_tf hZ S hnt hl.1 hlk (g, A, μ) hW (n := 4) (t_tf4 l hl0 hZ hZX _ _ _ _) ⟨⟨rfl, rfl, (SQ_rfl _)⟩, Or.inr ⟨rfl, q, hq, hx, h0⟩⟩ (by decide) ⟨(Nat.le_of_ble_eq_true rfl), (Nat.le_of_ble_eq_true rfl)⟩ (Nat.le_of_ble_eq_true rfl) (Nat.le_of_ble_eq_true rfl) (Nat.le_of_ble_eq_true rfl) (Nat.le_of_ble_eq_true rfl) dX9_peak_11
set_option maxHeartbeats 4000000 in
set_option maxRecDepth 100000 in
theorem t_X9_signChanges (l : Launch) (hl0 : l.stackTraces = false) {Z : ZT} (hZ : zOK Z) (hZX : ZX Z) (A : Nat × Nat → Nat) (g : Nat → Bool) (μ : CM) (sz : Nat) {v : Nat → Int32} (hVG : VG v) (hR : RP (μ 0) v) (x : Int32) : XVi l yX9_signChanges cX9_signChanges 7 (some .int) 7 15 1376 [.ref (A (0, 14)), .int x] Z (ids g) A (cE Z A g μ) sz (fun r u => ∃ q, q < 4 ∧ x = nI q ∧ r = nI (chgN (flV v q (nfV v)) (lnV v q)) ∧ SM g A μ u) (fun n u => SM g A μ u ∧ ((n = 1 ∧ ¬ IX x 4))) := by
  refine x_met (E := (cE Z A g μ)) (by decide +kernel) (Nat.le_of_ble_eq_true rfl) ?_
  intro p e s m below meth c ls S hr hlk hnt hsz hW hl
  have hxe := S.1
  have hcd := S.2.1
  subst hsz
  have hl : lv_has ls 7 [(0, .ref (A (0, 14))), (1, .int x)] := hl
  refine lv_iload_n hxe hcd dX9_signChanges_0 rfl (lv_at hl 1 rfl) ?_
  refine r_calli0 (r_runS hZ S hW (As := [.int x]) (rest := []) (t_X5_faultOfSong l hZ (ids g) A (cE Z A g μ) s.heap.size x) k_X9_141 (hl.1) rfl rfl (Nat.le_of_ble_eq_true rfl) ⟨Nat.le_of_ble_eq_true rfl, Nat.le_of_ble_eq_true rfl⟩ ⟨Nat.le_of_ble_eq_true rfl, Nat.le_of_ble_eq_true rfl⟩ dX9_signChanges_1) hW (fun r1 H locs hp1 hW => ?_)
  rcases hp1 with ⟨rfl, hp1⟩ | ⟨rfl, hp1⟩
  · obtain ⟨q, hqq, rfl⟩ := hp1
    have hn160 := VG_ln hVG hqq
    refine r_callv0 (r_runS hZ S hW (As := [.int (nI 0)]) (rest := []) (t_tf0 l hZ (ids g) A (cE Z A g μ) H.size) k_X9_82 hl.1 rfl rfl (Nat.le_of_ble_eq_true rfl) ⟨(Nat.le_of_ble_eq_true rfl), (Nat.le_of_ble_eq_true rfl)⟩ ⟨(Nat.le_of_ble_eq_true rfl), (Nat.le_of_ble_eq_true rfl)⟩ dX9_signChanges_4) hW (fun H locs hW => ?_)
    refine lv_aload_n hxe hcd dX9_signChanges_7 rfl (lv_at hl 0 rfl) ?_
    refine lv_iload_n hxe hcd dX9_signChanges_8 rfl (lv_at hl 1 rfl) ?_
    refine r_calli (F := (cE Z A g)) (r_runV hZ S hW (As := [.int (nI q)]) (rest := []) (t_X9_sendSong l hZ A g μ H.size (q := q) (n := lnV v q) (nf := nfV v) (by omega) (RP_l7 hR hVG (by omega)) (VG_ln hVG (by omega)) (RP_c hR hVG) hVG.1.2 (psV v) (RP_ps hR hVG)) k_X9_177 (r_recv hW (x := (0, 14)) (in_r (by decide) (by decide)) rfl rfl) (hl.1) rfl rfl (Nat.le_of_ble_eq_true rfl) ⟨Nat.le_of_ble_eq_true rfl, Nat.le_of_ble_eq_true rfl⟩ ⟨Nat.le_of_ble_eq_true rfl, Nat.le_of_ble_eq_true rfl⟩ dX9_signChanges_9) hW (fun r9 u9 H locs hp9 hW => ?_)
    obtain ⟨hr9, M9, R9, hm9, hO9⟩ := hp9
    subst hm9
    subst hr9
    have hO9 : ∀ j, j < lnV v q → R9 j = flV v q (nfV v) j := fun j hj => (hO9 j hj).trans (RP_fl hR (by omega) (Nat.le_refl _) j hj)
    refine lv_istore_n (lv' := [(2, .int (nI (lnV v q))), (0, .ref (A (0, 14))), (1, .int (nI q))]) hxe hcd dX9_signChanges_12 rfl hl (by decide) rfl (fun ls hl => ?_)
    refine lv_iconst (v := (nI 0)) hxe hcd dX9_signChanges_13 (by decide) ?_
    refine lv_istore_n (lv' := [(3, .int (nI 0)), (2, .int (nI (lnV v q))), (0, .ref (A (0, 14))), (1, .int (nI q))]) hxe hcd dX9_signChanges_14 rfl hl (by decide) rfl (fun ls hl => ?_)
    refine lv_iconst (v := (nI 0)) hxe hcd dX9_signChanges_15 (by decide) ?_
    refine lv_istore (lv' := [(4, .int (nI 0)), (3, .int (nI 0)), (2, .int (nI (lnV v q))), (0, .ref (A (0, 14))), (1, .int (nI q))]) hxe hcd dX9_signChanges_16 hl (by decide) rfl (fun ls hl => ?_)
    refine lv_iconst (v := (nI 0)) hxe hcd dX9_signChanges_18 (by decide) ?_
    refine lv_istore (lv' := [(5, .int (nI 0)), (4, .int (nI 0)), (3, .int (nI 0)), (2, .int (nI (lnV v q))), (0, .ref (A (0, 14))), (1, .int (nI q))]) hxe hcd dX9_signChanges_19 hl (by decide) rfl (fun ls hl => ?_)
    have loop21 : ∀ (n_ : Nat) (i : Nat), lnV v q - i < n_ → (i ≤ lnV v q) → ∀ (H : Heap) (locs : List Loc) (ls : Array Slot), wX Z (ids g) A (cE Z A g (up2 (up2 μ 0 18 M9) 0 19 R9)) (fA (ids g) A (cE Z A g μ) s.heap.size) s H locs → lv_has ls 7 [(0, .ref (A (0, 14))), (1, .int (nI q)), (2, .int (nI (lnV v q))), (3, .int (nI (chgN (flV v q (nfV v)) i))), (4, .int (sg (lastN (flV v q (nfV v)) i))), (5, .int (nI i))] → W p l e (rmD 7 15 1376) s m ([.ref (A (0, 14)), .int (nI q)] : List Value).toArray below meth c H locs 0 0 (vx_MQ below (va_Qi (fun r u => ∃ q_z, q_z < 4 ∧ (nI q) = nI q_z ∧ r = nI (chgN (flV v q_z (nfV v)) (lnV v q_z)) ∧ SM g A μ u) (fun (u : GM) t => qG Z (fA (ids g) A (cE Z A g μ) s.heap.size) u t) (fA (ids g) A (cE Z A g μ) s.heap.size)) (XCx (fun n u => SM g A μ u ∧ ((n = 1 ∧ ¬ IX (nI q) 4))) Z (fA (ids g) A (cE Z A g μ) s.heap.size)) ([.ref (A (0, 14)), .int (nI q)] : List Value).toArray s 15 1376 (fA (ids g) A (cE Z A g μ) s.heap.size)) (F0 m 21 ls []) := by
      intro n_
      induction n_ with
      | zero => intro i hm; exact absurd hm (Nat.not_lt_zero _)
      | succ n_ ih21 =>
        intro i hm hi H locs ls hW hl
        refine lv_iload hxe hcd dX9_signChanges_21 (lv_at hl 5 rfl) ?_
        refine lv_iload_n hxe hcd dX9_signChanges_23 rfl (lv_at hl 2 rfl) ?_
        refine n_ge S (a := i) (b := (lnV v q)) (by omega) (by omega) dX9_signChanges_24 (tgt := 67) (by decide) (fun c24 => ?_) (fun c24 => ?_)
        · refine lv_iload_n hxe hcd dX9_signChanges_67 rfl (lv_at hl 3 rfl) ?_
          refine x_iret S hr hlk (Nat.le_of_ble_eq_true rfl) (Nat.le_of_ble_eq_true rfl) (g, A, up2 (up2 μ 0 18 M9) 0 19 R9) hW ?_ dX9_signChanges_68
          rw [show i = lnV v q by omega]
          exact ⟨q, hqq, rfl, rfl, ⟨rfl, rfl, (by repeat (first | exact SQ_rfl _ | exact SQ_18 _ _ _ | exact SQ_20 _ _ _ _ | exact hsq | (refine SQ_up ?_ (by first | exact Or.inl rfl | exact Or.inr ⟨rfl, by decide, by decide⟩) _)))⟩⟩
        · refine lv_aload_n hxe hcd dX9_signChanges_27 rfl (lv_at hl 0 rfl) ?_
          refine gf_X9_32 S hW dX9_signChanges_28 ?_
          refine lv_iload hxe hcd dX9_signChanges_31 (lv_at hl 5 rfl) ?_
          refine r_calli0 (r_runV hZ S hW (As := [.int (nI i)]) (rest := []) (t_X4_given l hZ A g (up2 (up2 μ 0 18 M9) 0 19 R9) H.size (nI i)) k_X9_180 (r_recv hW (x := (0, 17)) (in_r (by decide) (by decide)) rfl rfl) (hl.1) rfl rfl (Nat.le_of_ble_eq_true rfl) ⟨Nat.le_of_ble_eq_true rfl, Nat.le_of_ble_eq_true rfl⟩ ⟨Nat.le_of_ble_eq_true rfl, Nat.le_of_ble_eq_true rfl⟩ dX9_signChanges_33) hW (fun r33 H locs hp33 hW => ?_)
          have hp33 := hp33.symm
          subst hp33
          refine r_as (y := (flV v q (nfV v) i)) (by rw [up2_s, rd_in (n := 160) (k := i) _ (by omega) (by decide)]; exact hO9 i (by omega)) ?_
          refine r_calli0 (r_runS hZ S hW (As := [.int (flV v q (nfV v) i)]) (rest := []) (t_X9_signOf l hZ (ids g) A (cE Z A g (up2 (up2 μ 0 18 M9) 0 19 R9)) H.size (flV v q (nfV v) i)) k_X9_190 (hl.1) rfl rfl (Nat.le_of_ble_eq_true rfl) ⟨Nat.le_of_ble_eq_true rfl, Nat.le_of_ble_eq_true rfl⟩ ⟨Nat.le_of_ble_eq_true rfl, Nat.le_of_ble_eq_true rfl⟩ dX9_signChanges_36) hW (fun r36 H locs hp36 hW => ?_)
          have hp36 := hp36.symm
          subst hp36
          refine r_as (y := sg (flV v q (nfV v) i)) rfl ?_
          refine lv_istore (lv' := [(6, .int (sg (flV v q (nfV v) i))), (0, .ref (A (0, 14))), (1, .int (nI q)), (2, .int (nI (lnV v q))), (3, .int (nI (chgN (flV v q (nfV v)) i))), (4, .int (sg (lastN (flV v q (nfV v)) i))), (5, .int (nI i))]) hxe hcd dX9_signChanges_39 hl (by decide) rfl (fun ls hl => ?_)
          refine lv_iload hxe hcd dX9_signChanges_41 (lv_at hl 0 rfl) ?_
          refine lv_if_eq (tgt := 61) hxe hcd dX9_signChanges_43 (by decide) (fun c43 => ?_) (fun c43 => ?_)
          · refine lv_iinc (v := (nI (i + 1))) (lv' := [(5, .int (nI (i + 1))), (6, .int (sg (flV v q (nfV v) i))), (0, .ref (A (0, 14))), (1, .int (nI q)), (2, .int (nI (lnV v q))), (3, .int (nI (chgN (flV v q (nfV v)) i))), (4, .int (sg (lastN (flV v q (nfV v)) i)))]) hxe hcd dX9_signChanges_61 hl (k := 6) rfl (nI_add i 1) (by decide) rfl (fun ls hl => ?_)
            refine lv_goto (tgt := 21) hxe hcd dX9_signChanges_64 (by decide) ?_
            have hl : lv_has ls 7 [(5, .int (nI (i + 1))), (4, .int (sg (lastN (flV v q (nfV v)) (i + 1)))), (3, .int (nI (chgN (flV v q (nfV v)) (i + 1)))), (2, .int (nI (lnV v q))), (0, .ref (A (0, 14))), (1, .int (nI q))] := by
              rw [lastN, chgN, if_pos (sg_z.mp c43), if_pos (sg_z.mp c43)]
              exact lv_sub hl [0, 6, 5, 4, 2, 3] rfl
            exact ih21 (i + 1) (by omega) (by omega) _ _ _ hW (lv_sub hl [4, 5, 3, 2, 1, 0] rfl)
          · refine lv_iload hxe hcd dX9_signChanges_46 (lv_at hl 0 rfl) ?_
            refine lv_iload hxe hcd dX9_signChanges_48 (lv_at hl 5 rfl) ?_
            refine lv_ineg hxe hcd dX9_signChanges_50 ?_
            refine lv_icmp_ne (tgt := 57) hxe hcd dX9_signChanges_51 (by decide) (fun c51 => ?_) (fun c51 => ?_)
            · refine lv_iload hxe hcd dX9_signChanges_57 (lv_at hl 0 rfl) ?_
              refine lv_istore (lv' := [(4, .int (sg (flV v q (nfV v) i))), (6, .int (sg (flV v q (nfV v) i))), (0, .ref (A (0, 14))), (1, .int (nI q)), (2, .int (nI (lnV v q))), (3, .int (nI (chgN (flV v q (nfV v)) i))), (5, .int (nI i))]) hxe hcd dX9_signChanges_59 hl (by decide) rfl (fun ls hl => ?_)
              refine lv_iinc (v := (nI (i + 1))) (lv' := [(5, .int (nI (i + 1))), (4, .int (sg (flV v q (nfV v) i))), (6, .int (sg (flV v q (nfV v) i))), (0, .ref (A (0, 14))), (1, .int (nI q)), (2, .int (nI (lnV v q))), (3, .int (nI (chgN (flV v q (nfV v)) i)))]) hxe hcd dX9_signChanges_61 hl (k := 6) rfl (nI_add i 1) (by decide) rfl (fun ls hl => ?_)
              refine lv_goto (tgt := 21) hxe hcd dX9_signChanges_64 (by decide) ?_
              have hl : lv_has ls 7 [(5, .int (nI (i + 1))), (4, .int (sg (lastN (flV v q (nfV v)) (i + 1)))), (3, .int (nI (chgN (flV v q (nfV v)) (i + 1)))), (2, .int (nI (lnV v q))), (0, .ref (A (0, 14))), (1, .int (nI q))] := by
                rw [lastN, chgN, if_neg (fun z => c43 (sg_z.mpr z)), if_neg (fun z => c43 (sg_z.mpr z)), if_neg (fun z => c51 ((sg_op (fun z => c43 (sg_z.mpr z))).mpr z))]
                exact lv_sub hl [0, 1, 6, 5, 3, 4] rfl
              exact ih21 (i + 1) (by omega) (by omega) _ _ _ hW (lv_sub hl [4, 5, 3, 2, 1, 0] rfl)
            · refine lv_iinc (v := (nI ((chgN (flV v q (nfV v)) i) + 1))) (lv' := [(3, .int (nI ((chgN (flV v q (nfV v)) i) + 1))), (6, .int (sg (flV v q (nfV v) i))), (0, .ref (A (0, 14))), (1, .int (nI q)), (2, .int (nI (lnV v q))), (4, .int (sg (lastN (flV v q (nfV v)) i))), (5, .int (nI i))]) hxe hcd dX9_signChanges_54 hl (k := 4) rfl (nI_add (chgN (flV v q (nfV v)) i) 1) (by decide) rfl (fun ls hl => ?_)
              refine lv_iload hxe hcd dX9_signChanges_57 (lv_at hl 1 rfl) ?_
              refine lv_istore (lv' := [(4, .int (sg (flV v q (nfV v) i))), (3, .int (nI ((chgN (flV v q (nfV v)) i) + 1))), (6, .int (sg (flV v q (nfV v) i))), (0, .ref (A (0, 14))), (1, .int (nI q)), (2, .int (nI (lnV v q))), (5, .int (nI i))]) hxe hcd dX9_signChanges_59 hl (by decide) rfl (fun ls hl => ?_)
              refine lv_iinc (v := (nI (i + 1))) (lv' := [(5, .int (nI (i + 1))), (4, .int (sg (flV v q (nfV v) i))), (3, .int (nI ((chgN (flV v q (nfV v)) i) + 1))), (6, .int (sg (flV v q (nfV v) i))), (0, .ref (A (0, 14))), (1, .int (nI q)), (2, .int (nI (lnV v q)))]) hxe hcd dX9_signChanges_61 hl (k := 6) rfl (nI_add i 1) (by decide) rfl (fun ls hl => ?_)
              refine lv_goto (tgt := 21) hxe hcd dX9_signChanges_64 (by decide) ?_
              have hl : lv_has ls 7 [(5, .int (nI (i + 1))), (4, .int (sg (lastN (flV v q (nfV v)) (i + 1)))), (3, .int (nI (chgN (flV v q (nfV v)) (i + 1)))), (2, .int (nI (lnV v q))), (0, .ref (A (0, 14))), (1, .int (nI q))] := by
                rw [lastN, chgN, if_neg (fun z => c43 (sg_z.mpr z)), if_neg (fun z => c43 (sg_z.mpr z)), if_pos ((sg_op (fun z => c43 (sg_z.mpr z))).mp c51)]
                exact lv_sub hl [0, 1, 2, 6, 4, 5] rfl
              exact ih21 (i + 1) (by omega) (by omega) _ _ _ hW (lv_sub hl [4, 5, 3, 2, 1, 0] rfl)
    exact loop21 ((lnV v q) + 1) 0 (Nat.lt_succ_self _) (Nat.zero_le _) _ _ _ hW (lv_sub hl [4, 5, 3, 2, 1, 0] rfl)
  · exact x_tf hZ S hnt hl.1 hlk (g, A, μ) hW (n := 1) (t_tf1 l hl0 hZ hZX _ _ _ _) ⟨⟨rfl, rfl, (SQ_rfl _)⟩, ⟨rfl, hp1⟩⟩ (by decide) ⟨(Nat.le_of_ble_eq_true rfl), (Nat.le_of_ble_eq_true rfl)⟩ (Nat.le_of_ble_eq_true rfl) (Nat.le_of_ble_eq_true rfl) (Nat.le_of_ble_eq_true rfl) (Nat.le_of_ble_eq_true rfl) dX9_signChanges_4
set_option maxHeartbeats 4000000 in
set_option maxRecDepth 100000 in
theorem t_X9_strongestSong (l : Launch) (hl0 : l.stackTraces = false) {Z : ZT} (hZ : zOK Z) (hZX : ZX Z) (A : Nat × Nat → Nat) (g : Nat → Bool) (μ : CM) (sz : Nat) {v : Nat → Int32} (hVG : VG v) (hR : RP (μ 0) v) : XVi l yX9_strongestSong cX9_strongestSong 7 (some .int) 7 15 1376 [.ref (A (0, 14))] Z (ids g) A (cE Z A g μ) sz (fun r u => r = nI (stg (fun k => sqS (flV v k (nfV v)) (lnV v k)) 4) ∧ SM g A μ u) (fun _ _ => False) := by
  refine x_met (E := (cE Z A g μ)) (by decide +kernel) (Nat.le_of_ble_eq_true rfl) ?_
  intro p e s m below meth c ls S hr hlk hnt hsz hW hl
  have hxe := S.1
  have hcd := S.2.1
  subst hsz
  have hl : lv_has ls 7 [(0, .ref (A (0, 14)))] := hl
  refine lv_iconst (v := (nI 0)) hxe hcd dX9_strongestSong_0 (by decide) ?_
  refine lv_istore_n (lv' := [(1, .int (nI 0)), (0, .ref (A (0, 14)))]) hxe hcd dX9_strongestSong_1 rfl hl (by decide) rfl (fun ls hl => ?_)
  refine lv_aload_n hxe hcd dX9_strongestSong_2 rfl (lv_at hl 1 rfl) ?_
  refine lv_iconst (v := (nI 0)) hxe hcd dX9_strongestSong_3 (by decide) ?_
  refine r_calll (F := (cE Z A g)) (r_runV hZ S hW (As := [.int (nI 0)]) (rest := []) (t_X9_sumOfSquares l hZ A g μ s.heap.size (q := 0) (n := lnV v 0) (nf := nfV v) (by omega) (RP_l7 hR hVG (by omega)) (VG_ln hVG (by omega)) (RP_c hR hVG) hVG.1.2 (psV v) (RP_ps hR hVG)) k_X9_186 (r_recv hW (x := (0, 14)) (in_r (by decide) (by decide)) rfl rfl) (hl.1) rfl rfl (Nat.le_of_ble_eq_true rfl) ⟨Nat.le_of_ble_eq_true rfl, Nat.le_of_ble_eq_true rfl⟩ ⟨Nat.le_of_ble_eq_true rfl, Nat.le_of_ble_eq_true rfl⟩ dX9_strongestSong_4) hW (fun r4 u4 H locs hp4 hW => ?_)
  obtain ⟨hr4, M4, R4, hm4⟩ := hp4
  subst hm4
  rw [sqS_congr (g := flV v 0 (nfV v)) (fun j hj => RP_fl hR (by omega) (Nat.le_refl _) j hj)] at hr4
  subst hr4
  refine lv_lstore_n (lv' := [(2, .long (sqS (flV v 0 (nfV v)) (lnV v 0))), (1, .int (nI 0)), (0, .ref (A (0, 14)))]) hxe hcd dX9_strongestSong_7 rfl hl (by decide) rfl (fun ls hl => ?_)
  refine lv_iconst (v := (nI 1)) hxe hcd dX9_strongestSong_8 (by decide) ?_
  refine lv_istore (lv' := [(4, .int (nI 1)), (2, .long (sqS (flV v 0 (nfV v)) (lnV v 0))), (1, .int (nI 0)), (0, .ref (A (0, 14)))]) hxe hcd dX9_strongestSong_9 hl (by decide) rfl (fun ls hl => ?_)
  have hl : lv_has ls 7 [(4, .int (nI 1)), (2, .long ((fun k => sqS (flV v k (nfV v)) (lnV v k)) (stg (fun k => sqS (flV v k (nfV v)) (lnV v k)) 1))), (1, .int (nI (stg (fun k => sqS (flV v k (nfV v)) (lnV v k)) 1))), (0, .ref (A (0, 14)))] := by rw [stg_1]; exact hl
  have loop11 : ∀ (n_ : Nat) (i : Nat) (M R : Nat → Int32), 4 - i < n_ → (1 ≤ i) → (i ≤ 4) → ∀ (H : Heap) (locs : List Loc) (ls : Array Slot), wX Z (ids g) A (cE Z A g (up2 (up2 μ 0 18 M) 0 19 R)) (fA (ids g) A (cE Z A g μ) s.heap.size) s H locs → lv_has ls 7 [(0, .ref (A (0, 14))), (1, .int (nI (stg (fun k => sqS (flV v k (nfV v)) (lnV v k)) i))), (2, .long ((fun k => sqS (flV v k (nfV v)) (lnV v k)) (stg (fun k => sqS (flV v k (nfV v)) (lnV v k)) i))), (4, .int (nI i))] → W p l e (rmD 7 15 1376) s m ([.ref (A (0, 14))] : List Value).toArray below meth c H locs 0 0 (vx_MQ below (va_Qi (fun r u => r = nI (stg (fun k => sqS (flV v k (nfV v)) (lnV v k)) 4) ∧ SM g A μ u) (fun (u : GM) t => qG Z (fA (ids g) A (cE Z A g μ) s.heap.size) u t) (fA (ids g) A (cE Z A g μ) s.heap.size)) (XCx (fun _ _ => False) Z (fA (ids g) A (cE Z A g μ) s.heap.size)) ([.ref (A (0, 14))] : List Value).toArray s 15 1376 (fA (ids g) A (cE Z A g μ) s.heap.size)) (F0 m 11 ls []) := by
    intro n_
    induction n_ with
    | zero => intro i M R hm; exact absurd hm (Nat.not_lt_zero _)
    | succ n_ ih11 =>
      intro i M R hm hi1 hi H locs ls hW hl
      have hbs := stg_lt0 (fun k => sqS (flV v k (nfV v)) (lnV v k)) (show 0 < i by omega)
      have hbs4 : stg (fun k => sqS (flV v k (nfV v)) (lnV v k)) i < 4 := by omega
      refine lv_iload hxe hcd dX9_strongestSong_11 (lv_at hl 3 rfl) ?_
      refine lv_iconst (v := (nI 4)) hxe hcd dX9_strongestSong_13 (by decide) ?_
      refine n_ge S (a := i) (b := 4) (by omega) (by omega) dX9_strongestSong_14 (tgt := 44) (by decide) (fun c14 => ?_) (fun c14 => ?_)
      · refine lv_iload_n hxe hcd dX9_strongestSong_44 rfl (lv_at hl 1 rfl) ?_
        refine x_iret S hr hlk (Nat.le_of_ble_eq_true rfl) (Nat.le_of_ble_eq_true rfl) (g, A, up2 (up2 μ 0 18 M) 0 19 R) hW ?_ dX9_strongestSong_45
        rw [show i = 4 by omega]
        exact ⟨rfl, ⟨rfl, rfl, (by repeat (first | exact SQ_rfl _ | exact SQ_18 _ _ _ | exact SQ_20 _ _ _ _ | exact hsq | (refine SQ_up ?_ (by first | exact Or.inl rfl | exact Or.inr ⟨rfl, by decide, by decide⟩) _)))⟩⟩
      · have hi4 : i < 4 := by omega
        refine lv_aload_n hxe hcd dX9_strongestSong_17 rfl (lv_at hl 0 rfl) ?_
        refine lv_iload hxe hcd dX9_strongestSong_18 (lv_at hl 3 rfl) ?_
        refine r_calll (F := (cE Z A g)) (r_runV hZ S hW (As := [.int (nI i)]) (rest := []) (t_X9_sumOfSquares l hZ A g (up2 (up2 μ 0 18 M) 0 19 R) H.size (q := i) (n := lnV v i) (nf := nfV v) (by omega) (RP_l7 (SQ_RP (μ := μ) (u := up2 (up2 μ 0 18 M) 0 19 R) (by repeat (first | exact SQ_rfl _ | exact SQ_18 _ _ _ | exact SQ_20 _ _ _ _ | exact hsq | (refine SQ_up ?_ (by first | exact Or.inl rfl | exact Or.inr ⟨rfl, by decide, by decide⟩) _))) (by decide) hR) hVG (by omega)) (VG_ln hVG (by omega)) (RP_c (SQ_RP (μ := μ) (u := up2 (up2 μ 0 18 M) 0 19 R) (by repeat (first | exact SQ_rfl _ | exact SQ_18 _ _ _ | exact SQ_20 _ _ _ _ | exact hsq | (refine SQ_up ?_ (by first | exact Or.inl rfl | exact Or.inr ⟨rfl, by decide, by decide⟩) _))) (by decide) hR) hVG) hVG.1.2 (psV v) (RP_ps (SQ_RP (μ := μ) (u := up2 (up2 μ 0 18 M) 0 19 R) (by repeat (first | exact SQ_rfl _ | exact SQ_18 _ _ _ | exact SQ_20 _ _ _ _ | exact hsq | (refine SQ_up ?_ (by first | exact Or.inl rfl | exact Or.inr ⟨rfl, by decide, by decide⟩) _))) (by decide) hR) hVG)) k_X9_186 (r_recv hW (x := (0, 14)) (in_r (by decide) (by decide)) rfl rfl) (hl.1) rfl rfl (Nat.le_of_ble_eq_true rfl) ⟨Nat.le_of_ble_eq_true rfl, Nat.le_of_ble_eq_true rfl⟩ ⟨Nat.le_of_ble_eq_true rfl, Nat.le_of_ble_eq_true rfl⟩ dX9_strongestSong_20) hW (fun r20 u20 H locs hp20 hW => ?_)
        obtain ⟨hr20, M20, R20, hm20⟩ := hp20
        subst hm20
        rw [sqS_congr (g := flV v i (nfV v)) (fun j hj => RP_fl (SQ_RP (μ := μ) (u := up2 (up2 μ 0 18 M) 0 19 R) (by repeat (first | exact SQ_rfl _ | exact SQ_18 _ _ _ | exact SQ_20 _ _ _ _ | exact hsq | (refine SQ_up ?_ (by first | exact Or.inl rfl | exact Or.inr ⟨rfl, by decide, by decide⟩) _))) (by decide) hR) (by omega) (Nat.le_refl _) j hj)] at hr20
        subst hr20
        refine lv_lstore (lv' := [(5, .long (sqS (flV v i (nfV v)) (lnV v i))), (0, .ref (A (0, 14))), (1, .int (nI (stg (fun k => sqS (flV v k (nfV v)) (lnV v k)) i))), (2, .long ((fun k => sqS (flV v k (nfV v)) (lnV v k)) (stg (fun k => sqS (flV v k (nfV v)) (lnV v k)) i))), (4, .int (nI i))]) hxe hcd dX9_strongestSong_23 hl (by decide) rfl (fun ls hl => ?_)
        refine lv_lload hxe hcd dX9_strongestSong_25 (lv_at hl 0 rfl) ?_
        refine lv_lload_n hxe hcd dX9_strongestSong_27 rfl (lv_at hl 3 rfl) ?_
        refine W.lcmp hxe hcd dX9_strongestSong_28 ?_
        refine lv_if_le (tgt := 38) hxe hcd dX9_strongestSong_29 (by decide) (fun c29 => ?_) (fun c29 => ?_)
        · refine lv_iinc (v := (nI (i + 1))) (lv' := [(4, .int (nI (i + 1))), (5, .long (sqS (flV v i (nfV v)) (lnV v i))), (0, .ref (A (0, 14))), (1, .int (nI (stg (fun k => sqS (flV v k (nfV v)) (lnV v k)) i))), (2, .long ((fun k => sqS (flV v k (nfV v)) (lnV v k)) (stg (fun k => sqS (flV v k (nfV v)) (lnV v k)) i)))]) hxe hcd dX9_strongestSong_38 hl (k := 4) rfl (nI_add i 1) (by decide) rfl (fun ls hl => ?_)
          refine lv_goto (tgt := 11) hxe hcd dX9_strongestSong_41 (by decide) ?_
          have hl : lv_has ls 7 [(4, .int (nI (i + 1))), (2, .long ((fun k => sqS (flV v k (nfV v)) (lnV v k)) (stg (fun k => sqS (flV v k (nfV v)) (lnV v k)) (i + 1)))), (1, .int (nI (stg (fun k => sqS (flV v k (nfV v)) (lnV v k)) (i + 1)))), (0, .ref (A (0, 14)))] := by
            rw [show stg (fun k => sqS (flV v k (nfV v)) (lnV v k)) (i + 1) = stg (fun k => sqS (flV v k (nfV v)) (lnV v k)) i from by rw [stg]; exact if_neg (lgc_le.mp c29)]
            exact lv_sub hl [0, 4, 3, 2] rfl
          exact ih11 (i + 1) M20 R20 (by omega) (by omega) (by omega) _ _ _ (by rw [TK18] at hW; exact hW) (lv_sub hl [3, 2, 1, 0] rfl)
        · refine lv_iload hxe hcd dX9_strongestSong_32 (lv_at hl 4 rfl) ?_
          refine lv_istore_n (lv' := [(1, .int (nI i)), (5, .long (sqS (flV v i (nfV v)) (lnV v i))), (0, .ref (A (0, 14))), (2, .long ((fun k => sqS (flV v k (nfV v)) (lnV v k)) (stg (fun k => sqS (flV v k (nfV v)) (lnV v k)) i))), (4, .int (nI i))]) hxe hcd dX9_strongestSong_34 rfl hl (by decide) rfl (fun ls hl => ?_)
          refine lv_lload hxe hcd dX9_strongestSong_35 (lv_at hl 1 rfl) ?_
          refine lv_lstore_n (lv' := [(2, .long (sqS (flV v i (nfV v)) (lnV v i))), (1, .int (nI i)), (5, .long (sqS (flV v i (nfV v)) (lnV v i))), (0, .ref (A (0, 14))), (4, .int (nI i))]) hxe hcd dX9_strongestSong_37 rfl hl (by decide) rfl (fun ls hl => ?_)
          refine lv_iinc (v := (nI (i + 1))) (lv' := [(4, .int (nI (i + 1))), (2, .long (sqS (flV v i (nfV v)) (lnV v i))), (1, .int (nI i)), (5, .long (sqS (flV v i (nfV v)) (lnV v i))), (0, .ref (A (0, 14)))]) hxe hcd dX9_strongestSong_38 hl (k := 4) rfl (nI_add i 1) (by decide) rfl (fun ls hl => ?_)
          refine lv_goto (tgt := 11) hxe hcd dX9_strongestSong_41 (by decide) ?_
          have hl : lv_has ls 7 [(4, .int (nI (i + 1))), (2, .long ((fun k => sqS (flV v k (nfV v)) (lnV v k)) (stg (fun k => sqS (flV v k (nfV v)) (lnV v k)) (i + 1)))), (1, .int (nI (stg (fun k => sqS (flV v k (nfV v)) (lnV v k)) (i + 1)))), (0, .ref (A (0, 14)))] := by
            rw [show stg (fun k => sqS (flV v k (nfV v)) (lnV v k)) (i + 1) = i from by rw [stg]; exact if_pos (lgc_gt c29)]
            exact lv_sub hl [0, 1, 2, 4] rfl
          exact ih11 (i + 1) M20 R20 (by omega) (by omega) (by omega) _ _ _ (by rw [TK18] at hW; exact hW) (lv_sub hl [3, 2, 1, 0] rfl)
  exact loop11 ((4 - 1) + 1) 1 M4 R4 (Nat.lt_succ_self _) (Nat.le_refl _) (by decide) _ _ _ hW (lv_sub hl [3, 2, 1, 0] rfl)
set_option maxHeartbeats 4000000 in
set_option maxRecDepth 100000 in
theorem t_X9_meanLevel (l : Launch) (hl0 : l.stackTraces = false) {Z : ZT} (hZ : zOK Z) (hZX : ZX Z) (A : Nat × Nat → Nat) (g : Nat → Bool) (μ : CM) (sz : Nat) {v : Nat → Int32} (hVG : VG v) (hR : RP (μ 0) v) (x : Int32) : XVd l yX9_meanLevel cX9_meanLevel 6 (some .double) 7 15 1376 [.ref (A (0, 14)), .int x] Z (ids g) A (cE Z A g μ) sz (fun r u => ∃ q, q < 4 ∧ x = nI q ∧ 0 < lnV v q ∧ r = FP.ddiv (FP.i2d (isum (fun k => iabs ((flV v q (nfV v)) k)) (lnV v q))) (FP.i2d (nI (lnV v q))) ∧ SM g A μ u) (fun n u => SM g A μ u ∧ ((n = 1 ∧ ¬ IX x 4) ∨ (n = 5 ∧ ∃ q, q < 4 ∧ x = nI q ∧ lnV v q = 0))) := by
  refine x_met (E := (cE Z A g μ)) (by decide +kernel) (Nat.le_of_ble_eq_true rfl) ?_
  intro p e s m below meth c ls S hr hlk hnt hsz hW hl
  have hxe := S.1
  have hcd := S.2.1
  subst hsz
  have hl : lv_has ls 6 [(0, .ref (A (0, 14))), (1, .int x)] := hl
  refine lv_iload_n hxe hcd dX9_meanLevel_0 rfl (lv_at hl 1 rfl) ?_
  refine r_calli0 (r_runS hZ S hW (As := [.int x]) (rest := []) (t_X5_faultOfSong l hZ (ids g) A (cE Z A g μ) s.heap.size x) k_X9_141 (hl.1) rfl rfl (Nat.le_of_ble_eq_true rfl) ⟨Nat.le_of_ble_eq_true rfl, Nat.le_of_ble_eq_true rfl⟩ ⟨Nat.le_of_ble_eq_true rfl, Nat.le_of_ble_eq_true rfl⟩ dX9_meanLevel_1) hW (fun r1 H locs hp1 hW => ?_)
  rcases hp1 with ⟨rfl, hp1⟩ | ⟨rfl, hp1⟩
  · obtain ⟨q, hqq, rfl⟩ := hp1
    have hn160 := VG_ln hVG hqq
    refine r_callv0 (r_runS hZ S hW (As := [.int (nI 0)]) (rest := []) (t_tf0 l hZ (ids g) A (cE Z A g μ) H.size) k_X9_82 hl.1 rfl rfl (Nat.le_of_ble_eq_true rfl) ⟨(Nat.le_of_ble_eq_true rfl), (Nat.le_of_ble_eq_true rfl)⟩ ⟨(Nat.le_of_ble_eq_true rfl), (Nat.le_of_ble_eq_true rfl)⟩ dX9_meanLevel_4) hW (fun H locs hW => ?_)
    refine lv_aload_n hxe hcd dX9_meanLevel_7 rfl (lv_at hl 0 rfl) ?_
    refine lv_iload_n hxe hcd dX9_meanLevel_8 rfl (lv_at hl 1 rfl) ?_
    refine r_calli (F := (cE Z A g)) (r_runV hZ S hW (As := [.int (nI q)]) (rest := []) (t_X9_sendSong l hZ A g μ H.size (q := q) (n := lnV v q) (nf := nfV v) (by omega) (RP_l7 hR hVG (by omega)) (VG_ln hVG (by omega)) (RP_c hR hVG) hVG.1.2 (psV v) (RP_ps hR hVG)) k_X9_177 (r_recv hW (x := (0, 14)) (in_r (by decide) (by decide)) rfl rfl) (hl.1) rfl rfl (Nat.le_of_ble_eq_true rfl) ⟨Nat.le_of_ble_eq_true rfl, Nat.le_of_ble_eq_true rfl⟩ ⟨Nat.le_of_ble_eq_true rfl, Nat.le_of_ble_eq_true rfl⟩ dX9_meanLevel_9) hW (fun r9 u9 H locs hp9 hW => ?_)
    obtain ⟨hr9, M9, R9, hm9, hO9⟩ := hp9
    subst hm9
    subst hr9
    have hO9 : ∀ j, j < lnV v q → R9 j = flV v q (nfV v) j := fun j hj => (hO9 j hj).trans (RP_fl hR (by omega) (Nat.le_refl _) j hj)
    refine lv_istore_n (lv' := [(2, .int (nI (lnV v q))), (0, .ref (A (0, 14))), (1, .int (nI q))]) hxe hcd dX9_meanLevel_12 rfl hl (by decide) rfl (fun ls hl => ?_)
    refine lv_iload_n hxe hcd dX9_meanLevel_13 rfl (lv_at hl 0 rfl) ?_
    refine n_ifne S (a := (lnV v q)) (by omega) dX9_meanLevel_14 (tgt := 28) (by decide) (fun c14 => ?_) (fun c14 => ?_)
    · refine lv_lconst (v := 0) hxe hcd dX9_meanLevel_28 (by decide) ?_
      refine lv_lstore_n (lv' := [(3, .long (0 : Int64)), (2, .int (nI (lnV v q))), (0, .ref (A (0, 14))), (1, .int (nI q))]) hxe hcd dX9_meanLevel_29 rfl hl (by decide) rfl (fun ls hl => ?_)
      refine lv_iconst (v := (nI 0)) hxe hcd dX9_meanLevel_30 (by decide) ?_
      refine lv_istore (lv' := [(5, .int (nI 0)), (3, .long (0 : Int64)), (2, .int (nI (lnV v q))), (0, .ref (A (0, 14))), (1, .int (nI q))]) hxe hcd dX9_meanLevel_31 hl (by decide) rfl (fun ls hl => ?_)
      have hl : lv_has ls 6 [(5, .int (nI 0)), (3, .long (isum (fun k => iabs ((flV v q (nfV v)) k)) 0).toInt64), (2, .int (nI (lnV v q))), (0, .ref (A (0, 14))), (1, .int (nI q))] := hl
      have loop33 : ∀ (n_ : Nat) (i : Nat), lnV v q - i < n_ → (i ≤ lnV v q) → ∀ (H : Heap) (locs : List Loc) (ls : Array Slot), wX Z (ids g) A (cE Z A g (up2 (up2 μ 0 18 M9) 0 19 R9)) (fA (ids g) A (cE Z A g μ) s.heap.size) s H locs → lv_has ls 6 [(0, .ref (A (0, 14))), (1, .int (nI q)), (2, .int (nI (lnV v q))), (3, .long ((isum (fun k => iabs ((flV v q (nfV v)) k)) i).toInt64)), (5, .int (nI i))] → W p l e (rmD 7 15 1376) s m ([.ref (A (0, 14)), .int (nI q)] : List Value).toArray below meth c H locs 0 0 (vx_MQ below (va_Qd (fun r u => ∃ q_z, q_z < 4 ∧ (nI q) = nI q_z ∧ 0 < lnV v q_z ∧ r = FP.ddiv (FP.i2d (isum (fun k => iabs ((flV v q_z (nfV v)) k)) (lnV v q_z))) (FP.i2d (nI (lnV v q_z))) ∧ SM g A μ u) (fun (u : GM) t => qG Z (fA (ids g) A (cE Z A g μ) s.heap.size) u t) (fA (ids g) A (cE Z A g μ) s.heap.size)) (XCx (fun n u => SM g A μ u ∧ ((n = 1 ∧ ¬ IX (nI q) 4) ∨ (n = 5 ∧ ∃ q_z, q_z < 4 ∧ (nI q) = nI q_z ∧ lnV v q_z = 0))) Z (fA (ids g) A (cE Z A g μ) s.heap.size)) ([.ref (A (0, 14)), .int (nI q)] : List Value).toArray s 15 1376 (fA (ids g) A (cE Z A g μ) s.heap.size)) (F0 m 33 ls []) := by
        intro n_
        induction n_ with
        | zero => intro i hm; exact absurd hm (Nat.not_lt_zero _)
        | succ n_ ih33 =>
          intro i hm hi H locs ls hW hl
          refine lv_iload hxe hcd dX9_meanLevel_33 (lv_at hl 4 rfl) ?_
          refine lv_iload_n hxe hcd dX9_meanLevel_35 rfl (lv_at hl 2 rfl) ?_
          refine n_ge S (a := i) (b := (lnV v q)) (by omega) (by omega) dX9_meanLevel_36 (tgt := 61) (by decide) (fun c36 => ?_) (fun c36 => ?_)
          · refine lv_lload_n hxe hcd dX9_meanLevel_61 rfl (lv_at hl 3 rfl) ?_
            refine lv_l2d hxe hcd dX9_meanLevel_62 ?_
            refine r_st (st' := [.double (FP.i2d (isum (fun k => iabs ((flV v q (nfV v)) k)) i))]) (by rw [l2d_i]) ?_
            refine lv_iload_n hxe hcd dX9_meanLevel_63 rfl (lv_at hl 2 rfl) ?_
            refine lv_i2d hxe hcd dX9_meanLevel_64 ?_
            refine lv_ddiv hxe hcd dX9_meanLevel_65 (ddiv_ok _ (by omega) (by omega)) ?_
            refine x_dret S hr hlk (Nat.le_of_ble_eq_true rfl) (Nat.le_of_ble_eq_true rfl) (g, A, up2 (up2 μ 0 18 M9) 0 19 R9) hW ?_ dX9_meanLevel_66
            rw [show i = lnV v q by omega]
            exact ⟨q, hqq, rfl, by omega, rfl, ⟨rfl, rfl, (by repeat (first | exact SQ_rfl _ | exact SQ_18 _ _ _ | exact SQ_20 _ _ _ _ | exact hsq | (refine SQ_up ?_ (by first | exact Or.inl rfl | exact Or.inr ⟨rfl, by decide, by decide⟩) _)))⟩⟩
          · refine lv_lload_n hxe hcd dX9_meanLevel_39 rfl (lv_at hl 3 rfl) ?_
            refine lv_aload_n hxe hcd dX9_meanLevel_40 rfl (lv_at hl 0 rfl) ?_
            refine gf_X9_32 S hW dX9_meanLevel_41 ?_
            refine lv_iload hxe hcd dX9_meanLevel_44 (lv_at hl 4 rfl) ?_
            refine r_calli0 (r_runV hZ S hW (As := [.int (nI i)]) (rest := [.long ((isum (fun k => iabs ((flV v q (nfV v)) k)) i).toInt64)]) (t_X4_given l hZ A g (up2 (up2 μ 0 18 M9) 0 19 R9) H.size (nI i)) k_X9_180 (r_recv hW (x := (0, 17)) (in_r (by decide) (by decide)) rfl rfl) (hl.1) rfl rfl (Nat.le_of_ble_eq_true rfl) ⟨Nat.le_of_ble_eq_true rfl, Nat.le_of_ble_eq_true rfl⟩ ⟨Nat.le_of_ble_eq_true rfl, Nat.le_of_ble_eq_true rfl⟩ dX9_meanLevel_46) hW (fun r46 H locs hp46 hW => ?_)
            have hp46 := hp46.symm
            subst hp46
            refine r_as (y := (flV v q (nfV v) i)) (by rw [up2_s, rd_in (n := 160) (k := i) _ (by omega) (by decide)]; exact hO9 i (by omega)) ?_
            refine r_abs S hl.1 g_754 g_416 (Nat.le_of_ble_eq_true rfl) (Nat.le_of_ble_eq_true rfl) (Nat.le_of_ble_eq_true rfl) (Nat.le_of_ble_eq_true rfl) dX9_meanLevel_49 ?_
            refine lv_i2l (v := (iabs (flV v q (nfV v) i)).toInt64) hxe hcd dX9_meanLevel_52 rfl ?_
            refine lv_ladd hxe hcd dX9_meanLevel_53 ?_
            refine lv_lstore_n (lv' := [(3, .long (((isum (fun k => iabs ((flV v q (nfV v)) k)) i).toInt64) + ((iabs (flV v q (nfV v) i)).toInt64))), (0, .ref (A (0, 14))), (1, .int (nI q)), (2, .int (nI (lnV v q))), (5, .int (nI i))]) hxe hcd dX9_meanLevel_54 rfl hl (by decide) rfl (fun ls hl => ?_)
            refine lv_iinc (v := (nI (i + 1))) (lv' := [(5, .int (nI (i + 1))), (3, .long (((isum (fun k => iabs ((flV v q (nfV v)) k)) i).toInt64) + ((iabs (flV v q (nfV v) i)).toInt64))), (0, .ref (A (0, 14))), (1, .int (nI q)), (2, .int (nI (lnV v q)))]) hxe hcd dX9_meanLevel_55 hl (k := 4) rfl (nI_add i 1) (by decide) rfl (fun ls hl => ?_)
            refine lv_goto (tgt := 33) hxe hcd dX9_meanLevel_58 (by decide) ?_
            have hl : lv_has ls 6 [(5, .int (nI (i + 1))), (3, .long ((isum (fun k => iabs ((flV v q (nfV v)) k)) (i + 1)).toInt64)), (0, .ref (A (0, 14))), (1, .int (nI q)), (2, .int (nI (lnV v q)))] := by
              rw [← isum_64 (f := (fun k => iabs ((flV v q (nfV v)) k))) (fun k hk => flV_abs hVG hqq (by omega)) (by omega)]
              exact lv_sub hl [0, 1, 2, 3, 4] rfl
            exact ih33 (i + 1) (by omega) (by omega) _ _ _ hW (lv_sub hl [2, 3, 4, 1, 0] rfl)
      exact loop33 ((lnV v q) + 1) 0 (Nat.lt_succ_self _) (Nat.zero_le _) _ _ _ hW (lv_sub hl [3, 4, 2, 1, 0] rfl)
    · exact x_throwSW S hZ hl0 hZX hnt hl.1 hlk hW (ik := 322) (is := 324) (ic := 326) (X := "java/lang/ArithmeticException") (text := "the song has no notes") (by decide +kernel) g_1015 g_53 (by decide) tw_5 ot_5 dX9_meanLevel_17 dX9_meanLevel_20 dX9_meanLevel_21 dX9_meanLevel_24 dX9_meanLevel_27 (Nat.le_of_ble_eq_true rfl) (Nat.le_of_ble_eq_true rfl) (Nat.le_of_ble_eq_true rfl) (Nat.le_of_ble_eq_true rfl) (Nat.le_of_ble_eq_true rfl) (Nat.le_of_ble_eq_true rfl) (fun tz z1 z2 => ⟨(5, (g, A, up2 (up2 μ 0 18 M9) 0 19 R9)), ⟨⟨rfl, rfl, (by repeat (first | exact SQ_rfl _ | exact SQ_18 _ _ _ | exact SQ_20 _ _ _ _ | exact hsq | (refine SQ_up ?_ (by first | exact Or.inl rfl | exact Or.inr ⟨rfl, by decide, by decide⟩) _)))⟩, Or.inr ⟨rfl, q, hqq, rfl, c14⟩⟩, ⟨rfl, z1⟩, z2⟩)
  · exact x_tf hZ S hnt hl.1 hlk (g, A, μ) hW (n := 1) (t_tf1 l hl0 hZ hZX _ _ _ _) ⟨⟨rfl, rfl, (SQ_rfl _)⟩, Or.inl ⟨rfl, hp1⟩⟩ (by decide) ⟨(Nat.le_of_ble_eq_true rfl), (Nat.le_of_ble_eq_true rfl)⟩ (Nat.le_of_ble_eq_true rfl) (Nat.le_of_ble_eq_true rfl) (Nat.le_of_ble_eq_true rfl) (Nat.le_of_ble_eq_true rfl) dX9_meanLevel_4
set_option maxHeartbeats 4000000 in
set_option maxRecDepth 100000 in
theorem t_X9_isConsistent (l : Launch) (hl0 : l.stackTraces = false) {Z : ZT} (hZ : zOK Z) (hZX : ZX Z) (A : Nat × Nat → Nat) (g : Nat → Bool) (μ : CM) (sz : Nat) {v : Nat → Int32} (hVG : VG v) (hR : RP (μ 0) v) : XVi l yX9_isConsistent cX9_isConsistent 2 (some .boolean) 7 15 1376 [.ref (A (0, 14))] Z (ids g) A (cE Z A g μ) sz (fun r u => BP r (v 2 = v 4 + nI (sumN (lvN v) (ntV v))) ∧ SM g A μ u) (fun _ _ => False) := by
  refine x_met (E := (cE Z A g μ)) (by decide +kernel) (Nat.le_of_ble_eq_true rfl) ?_
  intro p e s m below meth c ls S hr hlk hnt hsz hW hl
  have hxe := S.1
  have hcd := S.2.1
  subst hsz
  have hl : lv_has ls 2 [(0, .ref (A (0, 14)))] := hl
  refine lv_iconst (v := (nI 0)) hxe hcd dX9_isConsistent_0 (by decide) ?_
  refine lv_istore_n (lv' := [(1, .int (nI 0)), (0, .ref (A (0, 14)))]) hxe hcd dX9_isConsistent_1 rfl hl (by decide) rfl (fun ls hl => ?_)
  have loop2 : ∀ (n_ : Nat) (i : Nat) (w : CM), 4 - i < n_ → (i ≤ 4) → (SQ μ w) → ∀ (H : Heap) (locs : List Loc) (ls : Array Slot), wX Z (ids g) A (cE Z A g w) (fA (ids g) A (cE Z A g μ) s.heap.size) s H locs → lv_has ls 2 [(0, .ref (A (0, 14))), (1, .int (nI i))] → W p l e (rmD 7 15 1376) s m ([.ref (A (0, 14))] : List Value).toArray below meth c H locs 0 0 (vx_MQ below (va_Qi (fun r u => BP r (v 2 = v 4 + nI (sumN (lvN v) (ntV v))) ∧ SM g A μ u) (fun (u : GM) t => qG Z (fA (ids g) A (cE Z A g μ) s.heap.size) u t) (fA (ids g) A (cE Z A g μ) s.heap.size)) (XCx (fun _ _ => False) Z (fA (ids g) A (cE Z A g μ) s.heap.size)) ([.ref (A (0, 14))] : List Value).toArray s 15 1376 (fA (ids g) A (cE Z A g μ) s.heap.size)) (F0 m 2 ls []) := by
    intro n_
    induction n_ with
    | zero => intro i w hm; exact absurd hm (Nat.not_lt_zero _)
    | succ n_ ih2 =>
      intro i w hm hi hsq H locs ls hW hl
      refine lv_iload_n hxe hcd dX9_isConsistent_2 rfl (lv_at hl 1 rfl) ?_
      refine lv_iconst (v := (nI 4)) hxe hcd dX9_isConsistent_3 (by decide) ?_
      refine n_ge S (a := i) (b := 4) (by omega) (by omega) dX9_isConsistent_4 (tgt := 36) (by decide) (fun c4 => ?_) (fun c4 => ?_)
      · refine lv_aload_n hxe hcd dX9_isConsistent_36 rfl (lv_at hl 0 rfl) ?_
        refine gf_X9_10 S hW dX9_isConsistent_37 ?_
        refine gf_X9_193 S hW sB_0 dX9_isConsistent_40 ?_
        refine gf_X9_251 S hW (Or.inl sB_0) dX9_isConsistent_43 ?_
        refine r_as (y := (v 2)) ((SQ_RP hsq (by decide) hR).2.2.1.2.1) ?_
        refine lv_aload_n hxe hcd dX9_isConsistent_46 rfl (lv_at hl 0 rfl) ?_
        refine gf_X9_10 S hW dX9_isConsistent_47 ?_
        refine gf_X9_193 S hW sB_0 dX9_isConsistent_50 ?_
        refine gf_X9_257 S hW (Or.inl sB_0) dX9_isConsistent_53 ?_
        refine r_as (y := (v 4)) ((SQ_RP hsq (by decide) hR).2.2.1.2.2.2) ?_
        refine lv_aload_n hxe hcd dX9_isConsistent_56 rfl (lv_at hl 0 rfl) ?_
        refine gf_X9_10 S hW dX9_isConsistent_57 ?_
        refine gf_X9_193 S hW sB_0 dX9_isConsistent_60 ?_
        refine r_calli0 (r_runV hZ S hW (As := []) (rest := [.int (v 4), .int (v 2)]) (t_X7_sumOfLevels l hZ A g w H.size (Or.inl sB_0) (nt := ntV v) (RP_nt (SQ_RP (μ := μ) (u := w) (by repeat (first | exact SQ_rfl _ | exact SQ_18 _ _ _ | exact SQ_20 _ _ _ _ | exact hsq | (refine SQ_up ?_ (by first | exact Or.inl rfl | exact Or.inr ⟨rfl, by decide, by decide⟩) _))) (by decide) hR) hVG) hVG.2.1.2) k_X9_333 (r_recv hW (x := (0, 9)) (in_s sB_0 (by decide)) rfl rfl) (hl.1) rfl rfl (Nat.le_of_ble_eq_true rfl) ⟨Nat.le_of_ble_eq_true rfl, Nat.le_of_ble_eq_true rfl⟩ ⟨Nat.le_of_ble_eq_true rfl, Nat.le_of_ble_eq_true rfl⟩ dX9_isConsistent_63) hW (fun r63 H locs hp63 hW => ?_)
        have hp63 := hp63.symm
        subst hp63
        refine r_as (y := (nI (sumN (lvN v) (ntV v)))) (isum_lev (SQ_RP hsq (by decide) hR) hVG) ?_
        refine lv_iadd hxe hcd dX9_isConsistent_66 ?_
        refine lv_icmp_ne (tgt := 74) hxe hcd dX9_isConsistent_67 (by decide) (fun c67 => ?_) (fun c67 => ?_)
        · refine lv_iconst (v := (nI 0)) hxe hcd dX9_isConsistent_74 (by decide) ?_
          refine x_zret S hr hlk (Nat.le_of_ble_eq_true rfl) (Nat.le_of_ble_eq_true rfl) (g, A, w) hW (by decide +kernel) ?_ dX9_isConsistent_75
          exact ⟨BP_f c67, rfl, rfl, hsq⟩
        · refine lv_iconst (v := (nI 1)) hxe hcd dX9_isConsistent_70 (by decide) ?_
          refine lv_goto (tgt := 75) hxe hcd dX9_isConsistent_71 (by decide) ?_
          refine x_zret S hr hlk (Nat.le_of_ble_eq_true rfl) (Nat.le_of_ble_eq_true rfl) (g, A, w) hW (by decide +kernel) ?_ dX9_isConsistent_75
          exact ⟨BP_t c67, rfl, rfl, hsq⟩
      · have hi4 : i < 4 := by omega
        have h160 := VG_ln hVG hi4
        refine lv_aload_n hxe hcd dX9_isConsistent_7 rfl (lv_at hl 0 rfl) ?_
        refine lv_iload_n hxe hcd dX9_isConsistent_8 rfl (lv_at hl 1 rfl) ?_
        refine r_calli (F := (cE Z A g)) (r_runV hZ S hW (As := [.int (nI i)]) (rest := []) (t_X9_bothWaysAgree l hZ A g w H.size (q := i) (n := lnV v i) (nf := nfV v) (by omega) (RP_l7 (SQ_RP (μ := μ) (u := w) (by repeat (first | exact SQ_rfl _ | exact SQ_18 _ _ _ | exact SQ_20 _ _ _ _ | exact hsq | (refine SQ_up ?_ (by first | exact Or.inl rfl | exact Or.inr ⟨rfl, by decide, by decide⟩) _))) (by decide) hR) hVG (by omega)) (VG_ln hVG (by omega)) (RP_c (SQ_RP (μ := μ) (u := w) (by repeat (first | exact SQ_rfl _ | exact SQ_18 _ _ _ | exact SQ_20 _ _ _ _ | exact hsq | (refine SQ_up ?_ (by first | exact Or.inl rfl | exact Or.inr ⟨rfl, by decide, by decide⟩) _))) (by decide) hR) hVG) hVG.1.2 (psV v) (RP_ps (SQ_RP (μ := μ) (u := w) (by repeat (first | exact SQ_rfl _ | exact SQ_18 _ _ _ | exact SQ_20 _ _ _ _ | exact hsq | (refine SQ_up ?_ (by first | exact Or.inl rfl | exact Or.inr ⟨rfl, by decide, by decide⟩) _))) (by decide) hR) hVG)) k_X9_336 (r_recv hW (x := (0, 14)) (in_r (by decide) (by decide)) rfl rfl) (hl.1) rfl rfl (Nat.le_of_ble_eq_true rfl) ⟨Nat.le_of_ble_eq_true rfl, Nat.le_of_ble_eq_true rfl⟩ ⟨Nat.le_of_ble_eq_true rfl, Nat.le_of_ble_eq_true rfl⟩ dX9_isConsistent_9) hW (fun r9 u9 H locs hp9 hW => ?_)
        obtain ⟨hr9, M9, R9, S9, hm9⟩ := hp9
        have hs9 : SQ μ u9 := by rw [hm9]; exact SQ_tr (by repeat (first | exact SQ_rfl _ | exact SQ_18 _ _ _ | exact SQ_20 _ _ _ _ | exact hsq | (refine SQ_up ?_ (by first | exact Or.inl rfl | exact Or.inr ⟨rfl, by decide, by decide⟩) _))) (SQ_20 _ _ _ _)
        subst hr9
        refine lv_if_eq (tgt := 28) hxe hcd dX9_isConsistent_12 (by decide) (fun h => absurd h (by decide)) (fun _ => ?_)
        refine lv_aload_n hxe hcd dX9_isConsistent_15 rfl (lv_at hl 0 rfl) ?_
        refine lv_iload_n hxe hcd dX9_isConsistent_16 rfl (lv_at hl 1 rfl) ?_
        refine r_calli (F := (cE Z A g)) (r_runV hZ S hW (As := [.int (nI i)]) (rest := []) (t_X9_dropsOnCopy l hZ A g u9 H.size v hVG (SQ_RP (μ := μ) (u := u9) (by repeat (first | exact SQ_rfl _ | exact SQ_18 _ _ _ | exact SQ_20 _ _ _ _ | exact hsq | exact hs9 | (refine SQ_up ?_ (by first | exact Or.inl rfl | exact Or.inr ⟨rfl, by decide, by decide⟩) _))) (by decide) hR) (q := i) (by omega)) k_X9_240 (r_recv hW (x := (0, 14)) (in_r (by decide) (by decide)) rfl rfl) (hl.1) rfl rfl (Nat.le_of_ble_eq_true rfl) ⟨Nat.le_of_ble_eq_true rfl, Nat.le_of_ble_eq_true rfl⟩ ⟨Nat.le_of_ble_eq_true rfl, Nat.le_of_ble_eq_true rfl⟩ dX9_isConsistent_17) hW (fun r17 u17 H locs hp17 hW => ?_)
        obtain ⟨hr17, hs170⟩ := hp17
        have hs17 : SQ μ u17 := SQ_tr (by repeat (first | exact SQ_rfl _ | exact SQ_18 _ _ _ | exact SQ_20 _ _ _ _ | exact hsq | exact hs9 | (refine SQ_up ?_ (by first | exact Or.inl rfl | exact Or.inr ⟨rfl, by decide, by decide⟩) _))) hs170
        subst hr17
        refine lv_aload_n hxe hcd dX9_isConsistent_20 rfl (lv_at hl 0 rfl) ?_
        refine lv_iload_n hxe hcd dX9_isConsistent_21 rfl (lv_at hl 1 rfl) ?_
        refine r_calli (F := (cE Z A g)) (r_runV hZ S hW (As := [.int (nI i)]) (rest := [.int (nI (((lnV v i + 7) / 8) - pourC v (ntV v) (ldV (flV v i (nfV v)) (lnV v i)) ((lnV v i + 7) / 8)))]) (t_X9_dropsFromLevels l hZ A g u17 H.size v hVG (SQ_RP (μ := μ) (u := u17) (by repeat (first | exact SQ_rfl _ | exact SQ_18 _ _ _ | exact SQ_20 _ _ _ _ | exact hsq | exact hs9 | exact hs17 | (refine SQ_up ?_ (by first | exact Or.inl rfl | exact Or.inr ⟨rfl, by decide, by decide⟩) _))) (by decide) hR) (q := i) (by omega)) k_X9_243 (r_recv hW (x := (0, 14)) (in_r (by decide) (by decide)) rfl rfl) (hl.1) rfl rfl (Nat.le_of_ble_eq_true rfl) ⟨Nat.le_of_ble_eq_true rfl, Nat.le_of_ble_eq_true rfl⟩ ⟨Nat.le_of_ble_eq_true rfl, Nat.le_of_ble_eq_true rfl⟩ dX9_isConsistent_22) hW (fun r22 u22 H locs hp22 hW => ?_)
        obtain ⟨hr22, hs220⟩ := hp22
        have hs22 : SQ μ u22 := SQ_tr (by repeat (first | exact SQ_rfl _ | exact SQ_18 _ _ _ | exact SQ_20 _ _ _ _ | exact hsq | exact hs9 | exact hs17 | (refine SQ_up ?_ (by first | exact Or.inl rfl | exact Or.inr ⟨rfl, by decide, by decide⟩) _))) hs220
        subst hr22
        refine n_eq S (a := (((lnV v i + 7) / 8) - pourC v (ntV v) (ldV (flV v i (nfV v)) (lnV v i)) ((lnV v i + 7) / 8))) (b := (((lnV v i + 7) / 8) - pourC v (ntV v) (ldV (flV v i (nfV v)) (lnV v i)) ((lnV v i + 7) / 8))) (by omega) (by omega) dX9_isConsistent_25 (tgt := 30) (by decide) (fun c25 => ?_) (fun c25 => absurd rfl c25)
        refine lv_iinc (v := (nI (i + 1))) (lv' := [(1, .int (nI (i + 1))), (0, .ref (A (0, 14)))]) hxe hcd dX9_isConsistent_30 hl (k := 1) rfl (nI_add i 1) (by decide) rfl (fun ls hl => ?_)
        refine lv_goto (tgt := 2) hxe hcd dX9_isConsistent_33 (by decide) ?_
        exact ih2 (i + 1) u22 (by omega) (by omega) hs22 _ _ _ hW (lv_sub hl [1, 0] rfl)
  exact loop2 (4 + 1) 0 μ (Nat.lt_succ_self _) (Nat.zero_le _) (SQ_rfl _) _ _ _ hW (lv_sub hl [1, 0] rfl)
