theorem SAVE_R {μ : CM} {v f : Nat → Int32} (hR : RP (μ 0) v) (hV : VG v) : RP (up2 (cpState μ 2 0) 0 14 f 2) v :=
  RP_k (cpS_b (b := 2) (b2 := 0) (v := v) (μ := μ) (by decide) hR hV) (fun o ho => up2_n (fun z => absurd z.1 (by decide)))
theorem nI_ne_m1 {n : Nat} (h : n < 2 ^ 30) : ¬ nI n = -1 := fun z => by
  have := congrArg Int32.toInt z
  rw [nI_toInt (by omega)] at this
  have e : (-1 : Int32).toInt = -1 := by decide
  omega
theorem IX_no1 {x : Int32} {n : Nat} (hn : n < 2 ^ 30) (h : x < 0) : ¬ IX x n := fun ⟨k, hk, e⟩ => by
  rw [e, Int32.lt_iff_toInt_lt, nI_toInt (by omega)] at h
  have : (0 : Int32).toInt = 0 := rfl
  omega
theorem IX_no2 {x : Int32} {n : Nat} (hn : n < 2 ^ 30) (h : ¬ x < nI n) : ¬ IX x n := fun ⟨k, hk, e⟩ => by
  rw [e, Int32.lt_iff_toInt_lt, nI_toInt (by omega), nI_toInt (by omega)] at h
  omega
theorem IX_mk {x : Int32} {n : Nat} (hn : n < 2 ^ 30) (h1 : ¬ x < 0) (h2 : x < nI n) : IX x n := by
  rw [Int32.lt_iff_toInt_lt] at h1 h2
  rw [nI_toInt (by omega)] at h2
  have e : (0 : Int32).toInt = 0 := rfl
  exact ⟨x.toInt.toNat, by omega, Int32.toInt_inj.mp (by rw [nI_toInt (by omega)]; omega)⟩
set_option maxHeartbeats 4000000 in
set_option maxRecDepth 100000 in
theorem t_X9_tankAtRank (l : Launch) (hl0 : l.stackTraces = false) {Z : ZT} (hZ : zOK Z) (hZX : ZX Z) (A : Nat × Nat → Nat) (g : Nat → Bool) (μ : CM) (sz : Nat) {v : Nat → Int32} (hVG : VG v) (hR : RP (μ 0) v) (x : Int32) : XVi l yX9_tankAtRank cX9_tankAtRank 3 (some .int) 7 15 1376 [.ref (A (0, 14)), .int x] Z (ids g) A (cE Z A g μ) sz (fun r u => ∃ t, t < ntV v ∧ nI (rkN v t (ntV v)) = x ∧ (∀ t2, t2 < t → ¬ nI (rkN v t2 (ntV v)) = x) ∧ r = nI t ∧ SM g A μ u) (fun n u => SM g A μ u ∧ ((n = 4 ∧ ∀ t2, t2 < ntV v → ¬ nI (rkN v t2 (ntV v)) = x))) := by
  refine x_met (E := (cE Z A g μ)) (by decide +kernel) (Nat.le_of_ble_eq_true rfl) ?_
  intro p e s m below meth c ls S hr hlk hnt hsz hW hl
  have hxe := S.1
  have hcd := S.2.1
  subst hsz
  have hl : lv_has ls 3 [(0, .ref (A (0, 14))), (1, .int x)] := hl
  refine lv_aload_n hxe hcd dX9_tankAtRank_0 rfl (lv_at hl 0 rfl) ?_
  refine gf_X9_10 S hW dX9_tankAtRank_1 ?_
  refine gf_X9_193 S hW sB_0 dX9_tankAtRank_4 ?_
  refine lv_iload_n hxe hcd dX9_tankAtRank_7 rfl (lv_at hl 1 rfl) ?_
  have hn4 := hVG.2.1.2
  refine r_calli0 (r_runV hZ S hW (As := [.int x]) (rest := []) (t_X7_tankBehind l hZ A g μ s.heap.size (Or.inl sB_0) (nt := ntV v) (RP_nt hR hVG) hVG.2.1.2 x) k_X9_246 (r_recv hW (x := (0, 9)) (in_s sB_0 (by decide)) rfl rfl) (hl.1) rfl rfl (Nat.le_of_ble_eq_true rfl) ⟨Nat.le_of_ble_eq_true rfl, Nat.le_of_ble_eq_true rfl⟩ ⟨Nat.le_of_ble_eq_true rfl, Nat.le_of_ble_eq_true rfl⟩ dX9_tankAtRank_8) hW (fun r8 H locs hp8 hW => ?_)
  rcases hp8 with ⟨t, ht, rfl, hrk, hno⟩ | ⟨rfl, hno⟩
  · refine lv_istore_n (lv' := [(2, .int (nI t)), (0, .ref (A (0, 14))), (1, .int x)]) hxe hcd dX9_tankAtRank_11 rfl hl (by decide) rfl (fun ls hl => ?_)
    refine lv_iload_n hxe hcd dX9_tankAtRank_12 rfl (lv_at hl 0 rfl) ?_
    refine lv_iconst (v := (-1)) hxe hcd dX9_tankAtRank_13 (by decide) ?_
    refine lv_icmp_ne (tgt := 27) hxe hcd dX9_tankAtRank_14 (by decide) (fun c14 => ?_) (fun c14 => absurd c14 (nI_ne_m1 (by omega)))
    refine lv_iload_n hxe hcd dX9_tankAtRank_27 rfl (lv_at hl 0 rfl) ?_
    refine x_iret S hr hlk (Nat.le_of_ble_eq_true rfl) (Nat.le_of_ble_eq_true rfl) (g, A, μ) hW ?_ dX9_tankAtRank_28
    exact ⟨t, ht, by rw [← rk_R hR ht (ntV v) (Nat.le_refl _)]; exact hrk, fun t2 ht2 => by rw [← rk_R hR (show t2 < ntV v by omega) (ntV v) (Nat.le_refl _)]; exact hno t2 ht2, rfl, rfl, rfl, SQ_rfl _⟩
  · refine lv_istore_n (lv' := [(2, .int (-1)), (0, .ref (A (0, 14))), (1, .int x)]) hxe hcd dX9_tankAtRank_11 rfl hl (by decide) rfl (fun ls hl => ?_)
    refine lv_iload_n hxe hcd dX9_tankAtRank_12 rfl (lv_at hl 0 rfl) ?_
    refine lv_iconst (v := (-1)) hxe hcd dX9_tankAtRank_13 (by decide) ?_
    refine lv_icmp_ne (tgt := 27) hxe hcd dX9_tankAtRank_14 (by decide) (fun h => absurd h (by decide)) (fun _ => ?_)
    exact x_throwN S hZ hl0 hZX hnt hl.1 hlk hW (is := 249) (text := "there is no such rank") (by decide) dX9_tankAtRank_17 dX9_tankAtRank_20 dX9_tankAtRank_21 dX9_tankAtRank_23 dX9_tankAtRank_26 (Nat.le_of_ble_eq_true rfl) (Nat.le_of_ble_eq_true rfl) (Nat.le_of_ble_eq_true rfl) (Nat.le_of_ble_eq_true rfl) (Nat.le_of_ble_eq_true rfl) (Nat.le_of_ble_eq_true rfl) (fun tz z1 z2 => ⟨(4, (g, A, μ)), ⟨⟨rfl, rfl, (SQ_rfl _)⟩, ⟨rfl, fun t2 ht2 => by rw [← rk_R hR ht2 (ntV v) (Nat.le_refl _)]; exact hno t2 ht2⟩⟩, ⟨rfl, z1⟩, z2⟩)
set_option maxHeartbeats 4000000 in
set_option maxRecDepth 100000 in
theorem t_X9_errorPosition (l : Launch) (hl0 : l.stackTraces = false) {Z : ZT} (hZ : zOK Z) (hZX : ZX Z) (A : Nat × Nat → Nat) (g : Nat → Bool) (μ : CM) (sz : Nat)  : XVi l yX9_errorPosition cX9_errorPosition 1 (some .int) 7 15 1376 [.ref (A (0, 14))] Z (ids g) A (cE Z A g μ) sz (fun r u => ¬ μ 0 14 10 = -1 ∧ r = μ 0 14 10 ∧ SM g A μ u) (fun n u => SM g A μ u ∧ ((n = 4 ∧ μ 0 14 10 = -1))) := by
  refine x_met (E := (cE Z A g μ)) (by decide +kernel) (Nat.le_of_ble_eq_true rfl) ?_
  intro p e s m below meth c ls S hr hlk hnt hsz hW hl
  have hxe := S.1
  have hcd := S.2.1
  subst hsz
  have hl : lv_has ls 1 [(0, .ref (A (0, 14)))] := hl
  refine lv_aload_n hxe hcd dX9_errorPosition_0 rfl (lv_at hl 0 rfl) ?_
  refine gf_X9_65 S hW dX9_errorPosition_1 ?_
  refine lv_iconst (v := (-1)) hxe hcd dX9_errorPosition_4 (by decide) ?_
  refine lv_icmp_ne (tgt := 19) hxe hcd dX9_errorPosition_5 (by decide) (fun c5 => ?_) (fun c5 => ?_)
  · refine lv_aload_n hxe hcd dX9_errorPosition_19 rfl (lv_at hl 0 rfl) ?_
    refine gf_X9_65 S hW dX9_errorPosition_20 ?_
    refine x_iret S hr hlk (Nat.le_of_ble_eq_true rfl) (Nat.le_of_ble_eq_true rfl) (g, A, μ) hW ?_ dX9_errorPosition_23
    exact ⟨c5, rfl, rfl, rfl, SQ_rfl _⟩
  · exact x_throwNW S hZ hl0 hZX hnt hl.1 hlk hW (is := 300) (text := "no error position was set") (by decide) dX9_errorPosition_8 dX9_errorPosition_11 dX9_errorPosition_12 dX9_errorPosition_15 dX9_errorPosition_18 (Nat.le_of_ble_eq_true rfl) (Nat.le_of_ble_eq_true rfl) (Nat.le_of_ble_eq_true rfl) (Nat.le_of_ble_eq_true rfl) (Nat.le_of_ble_eq_true rfl) (Nat.le_of_ble_eq_true rfl) (fun tz z1 z2 => ⟨(4, (g, A, μ)), ⟨⟨rfl, rfl, (SQ_rfl _)⟩, ⟨rfl, c5⟩⟩, ⟨rfl, z1⟩, z2⟩)
set_option maxHeartbeats 4000000 in
set_option maxRecDepth 100000 in
theorem t_X9_failedCommand (l : Launch) (hl0 : l.stackTraces = false) {Z : ZT} (hZ : zOK Z) (hZX : ZX Z) (A : Nat × Nat → Nat) (g : Nat → Bool) (μ : CM) (sz : Nat)  : XVi l yX9_failedCommand cX9_failedCommand 1 (some .int) 7 15 1376 [.ref (A (0, 14))] Z (ids g) A (cE Z A g μ) sz (fun r u => ¬ μ 0 14 11 = -1 ∧ r = μ 0 14 11 ∧ SM g A μ u) (fun n u => SM g A μ u ∧ ((n = 4 ∧ μ 0 14 11 = -1))) := by
  refine x_met (E := (cE Z A g μ)) (by decide +kernel) (Nat.le_of_ble_eq_true rfl) ?_
  intro p e s m below meth c ls S hr hlk hnt hsz hW hl
  have hxe := S.1
  have hcd := S.2.1
  subst hsz
  have hl : lv_has ls 1 [(0, .ref (A (0, 14)))] := hl
  refine lv_aload_n hxe hcd dX9_failedCommand_0 rfl (lv_at hl 0 rfl) ?_
  refine gf_X9_69 S hW dX9_failedCommand_1 ?_
  refine lv_iconst (v := (-1)) hxe hcd dX9_failedCommand_4 (by decide) ?_
  refine lv_icmp_ne (tgt := 19) hxe hcd dX9_failedCommand_5 (by decide) (fun c5 => ?_) (fun c5 => ?_)
  · refine lv_aload_n hxe hcd dX9_failedCommand_19 rfl (lv_at hl 0 rfl) ?_
    refine gf_X9_69 S hW dX9_failedCommand_20 ?_
    refine x_iret S hr hlk (Nat.le_of_ble_eq_true rfl) (Nat.le_of_ble_eq_true rfl) (g, A, μ) hW ?_ dX9_failedCommand_23
    exact ⟨c5, rfl, rfl, rfl, SQ_rfl _⟩
  · exact x_throwNW S hZ hl0 hZX hnt hl.1 hlk hW (is := 302) (text := "no command has failed") (by decide) dX9_failedCommand_8 dX9_failedCommand_11 dX9_failedCommand_12 dX9_failedCommand_15 dX9_failedCommand_18 (Nat.le_of_ble_eq_true rfl) (Nat.le_of_ble_eq_true rfl) (Nat.le_of_ble_eq_true rfl) (Nat.le_of_ble_eq_true rfl) (Nat.le_of_ble_eq_true rfl) (Nat.le_of_ble_eq_true rfl) (fun tz z1 z2 => ⟨(4, (g, A, μ)), ⟨⟨rfl, rfl, (SQ_rfl _)⟩, ⟨rfl, c5⟩⟩, ⟨rfl, z1⟩, z2⟩)
set_option maxHeartbeats 4000000 in
set_option maxRecDepth 100000 in
theorem t_X9_lineAt (l : Launch) (hl0 : l.stackTraces = false) {Z : ZT} (hZ : zOK Z) (hZX : ZX Z) (A : Nat × Nat → Nat) (g : Nat → Bool) (μ : CM) (sz : Nat) {lN : Nat} (hlN : μ 0 26 1 = nI lN) (hlN80 : lN ≤ 80) (hlc : ∀ j, j < lN → CH (μ 0 27 j)) (x : Int32) : XVi l yX9_lineAt cX9_lineAt 2 (some .char) 7 15 1376 [.ref (A (0, 14)), .int x] Z (ids g) A (cE Z A g μ) sz (fun r u => ∃ j, j < lN ∧ x = nI j ∧ r = μ 0 27 j ∧ SM g A μ u) (fun n u => SM g A μ u ∧ ((n = 1 ∧ ¬ IX x lN))) := by
  refine x_met (E := (cE Z A g μ)) (by decide +kernel) (Nat.le_of_ble_eq_true rfl) ?_
  intro p e s m below meth c ls S hr hlk hnt hsz hW hl
  have hxe := S.1
  have hcd := S.2.1
  subst hsz
  have hl : lv_has ls 2 [(0, .ref (A (0, 14))), (1, .int x)] := hl
  refine lv_iload_n hxe hcd dX9_lineAt_0 rfl (lv_at hl 1 rfl) ?_
  refine lv_if_lt (tgt := 15) hxe hcd dX9_lineAt_1 (by decide) (fun c1 => ?_) (fun c1 => ?_)
  · exact x_throwSW S hZ hl0 hZX hnt hl.1 hlk hW (ik := 314) (is := 316) (ic := 318) (X := "java/lang/IndexOutOfBoundsException") (text := "there is no such index") (by decide +kernel) g_505 g_51 (by decide) tw_1 ot_1 dX9_lineAt_15 dX9_lineAt_18 dX9_lineAt_19 dX9_lineAt_22 dX9_lineAt_25 (Nat.le_of_ble_eq_true rfl) (Nat.le_of_ble_eq_true rfl) (Nat.le_of_ble_eq_true rfl) (Nat.le_of_ble_eq_true rfl) (Nat.le_of_ble_eq_true rfl) (Nat.le_of_ble_eq_true rfl) (fun tz z1 z2 => ⟨(1, (g, A, μ)), ⟨⟨rfl, rfl, (SQ_rfl _)⟩, ⟨rfl, IX_no1 (by omega) c1⟩⟩, ⟨rfl, z1⟩, z2⟩)
  · refine lv_iload_n hxe hcd dX9_lineAt_4 rfl (lv_at hl 1 rfl) ?_
    refine lv_aload_n hxe hcd dX9_lineAt_5 rfl (lv_at hl 0 rfl) ?_
    refine gf_X9_57 S hW dX9_lineAt_6 ?_
    refine gf_X9_311 S hW dX9_lineAt_9 ?_
    refine r_as (y := (nI lN)) (hlN) ?_
    refine lv_icmp_lt (tgt := 26) hxe hcd dX9_lineAt_12 (by decide) (fun c12 => ?_) (fun c12 => ?_)
    · obtain ⟨j, hj, rfl⟩ := IX_mk (by omega) c1 c12
      refine lv_aload_n hxe hcd dX9_lineAt_26 rfl (lv_at hl 0 rfl) ?_
      refine gf_X9_57 S hW dX9_lineAt_27 ?_
      refine lv_iload_n hxe hcd dX9_lineAt_30 rfl (lv_at hl 1 rfl) ?_
      refine r_calli0 (r_runV hZ S hW (As := [.int (nI j)]) (rest := []) (t_X3_signAt l hZ A g μ s.heap.size (nI j)) k_X9_319 (r_recv hW (x := (0, 26)) (in_r (by decide) (by decide)) rfl rfl) (hl.1) rfl rfl (Nat.le_of_ble_eq_true rfl) ⟨Nat.le_of_ble_eq_true rfl, Nat.le_of_ble_eq_true rfl⟩ ⟨Nat.le_of_ble_eq_true rfl, Nat.le_of_ble_eq_true rfl⟩ dX9_lineAt_31) hW (fun r31 H locs hp31 hW => ?_)
      have hp31 := hp31.symm
      subst hp31
      refine r_as (y := μ 0 27 j) (by rw [rd_in (n := 80) (k := j) _ (by omega) (by decide)]) ?_
      have hch := hlc j hj
      have hi2 := CH_i2c hch
      refine lv_i2c (v := (μ 0 27 j)) hxe hcd dX9_lineAt_34 (by first | rfl | assumption) ?_
      refine x_zret S hr hlk (Nat.le_of_ble_eq_true rfl) (Nat.le_of_ble_eq_true rfl) (g, A, μ) hW (CH_nar hch) ?_ dX9_lineAt_35
      exact ⟨j, hj, rfl, rfl, rfl, rfl, SQ_rfl _⟩
    · exact x_throwSW S hZ hl0 hZX hnt hl.1 hlk hW (ik := 314) (is := 316) (ic := 318) (X := "java/lang/IndexOutOfBoundsException") (text := "there is no such index") (by decide +kernel) g_505 g_51 (by decide) tw_1 ot_1 dX9_lineAt_15 dX9_lineAt_18 dX9_lineAt_19 dX9_lineAt_22 dX9_lineAt_25 (Nat.le_of_ble_eq_true rfl) (Nat.le_of_ble_eq_true rfl) (Nat.le_of_ble_eq_true rfl) (Nat.le_of_ble_eq_true rfl) (Nat.le_of_ble_eq_true rfl) (Nat.le_of_ble_eq_true rfl) (fun tz z1 z2 => ⟨(1, (g, A, μ)), ⟨⟨rfl, rfl, (SQ_rfl _)⟩, ⟨rfl, IX_no2 (by omega) c12⟩⟩, ⟨rfl, z1⟩, z2⟩)
set_option maxHeartbeats 4000000 in
set_option maxRecDepth 100000 in
theorem t_X9_filledShare (l : Launch) (hl0 : l.stackTraces = false) {Z : ZT} (hZ : zOK Z) (hZX : ZX Z) (A : Nat × Nat → Nat) (g : Nat → Bool) (μ : CM) (sz : Nat) {v : Nat → Int32} (hVG : VG v) (hR : RP (μ 0) v) : XVf l yX9_filledShare cX9_filledShare 2 (some .float) 7 15 1376 [.ref (A (0, 14))] Z (ids g) A (cE Z A g μ) sz (fun r u => 0 < ntV v ∧ r = FP.fdiv (FP.i2f (nI (sumN (lvN v) (ntV v)))) (FP.i2f (nI (sumN (cpN v) (ntV v)))) ∧ SM g A μ u) (fun n u => SM g A μ u ∧ ((n = 5 ∧ ntV v = 0))) := by
  refine x_met (E := (cE Z A g μ)) (by decide +kernel) (Nat.le_of_ble_eq_true rfl) ?_
  intro p e s m below meth c ls S hr hlk hnt hsz hW hl
  have hxe := S.1
  have hcd := S.2.1
  subst hsz
  have hl : lv_has ls 2 [(0, .ref (A (0, 14)))] := hl
  refine lv_aload_n hxe hcd dX9_filledShare_0 rfl (lv_at hl 0 rfl) ?_
  refine gf_X9_10 S hW dX9_filledShare_1 ?_
  refine gf_X9_193 S hW sB_0 dX9_filledShare_4 ?_
  have h36 := cap_36 hVG
  refine r_calli0 (r_runV hZ S hW (As := []) (rest := []) (t_X7_sumOfCapacities l hZ A g μ s.heap.size (Or.inl sB_0) (nt := ntV v) (RP_nt hR hVG) hVG.2.1.2) k_X9_327 (r_recv hW (x := (0, 9)) (in_s sB_0 (by decide)) rfl rfl) (hl.1) rfl rfl (Nat.le_of_ble_eq_true rfl) ⟨Nat.le_of_ble_eq_true rfl, Nat.le_of_ble_eq_true rfl⟩ ⟨Nat.le_of_ble_eq_true rfl, Nat.le_of_ble_eq_true rfl⟩ dX9_filledShare_7) hW (fun r7 H locs hp7 hW => ?_)
  have hp7 := hp7.symm
  subst hp7
  refine r_as (y := (nI (sumN (cpN v) (ntV v)))) (isum_cap hR hVG) ?_
  refine lv_istore_n (lv' := [(1, .int (nI (sumN (cpN v) (ntV v)))), (0, .ref (A (0, 14)))]) hxe hcd dX9_filledShare_10 rfl hl (by decide) rfl (fun ls hl => ?_)
  refine lv_iload_n hxe hcd dX9_filledShare_11 rfl (lv_at hl 0 rfl) ?_
  refine n_ifne S (a := (sumN (cpN v) (ntV v))) (by omega) dX9_filledShare_12 (tgt := 26) (by decide) (fun c12 => ?_) (fun c12 => ?_)
  · refine lv_aload_n hxe hcd dX9_filledShare_26 rfl (lv_at hl 1 rfl) ?_
    refine gf_X9_10 S hW dX9_filledShare_27 ?_
    refine gf_X9_193 S hW sB_0 dX9_filledShare_30 ?_
    refine r_calli0 (r_runV hZ S hW (As := []) (rest := []) (t_X7_sumOfLevels l hZ A g μ H.size (Or.inl sB_0) (nt := ntV v) (RP_nt hR hVG) hVG.2.1.2) k_X9_333 (r_recv hW (x := (0, 9)) (in_s sB_0 (by decide)) rfl rfl) (hl.1) rfl rfl (Nat.le_of_ble_eq_true rfl) ⟨Nat.le_of_ble_eq_true rfl, Nat.le_of_ble_eq_true rfl⟩ ⟨Nat.le_of_ble_eq_true rfl, Nat.le_of_ble_eq_true rfl⟩ dX9_filledShare_33) hW (fun r33 H locs hp33 hW => ?_)
    have hp33 := hp33.symm
    subst hp33
    refine r_as (y := (nI (sumN (lvN v) (ntV v)))) (isum_lev hR hVG) ?_
    refine lv_i2f hxe hcd dX9_filledShare_36 ?_
    refine lv_iload_n hxe hcd dX9_filledShare_37 rfl (lv_at hl 0 rfl) ?_
    refine lv_i2f hxe hcd dX9_filledShare_38 ?_
    refine lv_fdiv hxe hcd dX9_filledShare_39 (fdiv_ok h36.2.1 (by omega) h36.1) ?_
    refine x_fret S hr hlk (Nat.le_of_ble_eq_true rfl) (Nat.le_of_ble_eq_true rfl) (g, A, μ) hW ?_ dX9_filledShare_40
    exact ⟨by have := h36.2.2; omega, rfl, rfl, rfl, SQ_rfl _⟩
  · exact x_throwSW S hZ hl0 hZX hnt hl.1 hlk hW (ik := 322) (is := 331) (ic := 326) (X := "java/lang/ArithmeticException") (text := "there are no tanks") (by decide +kernel) g_1015 g_53 (by decide) tw_5 ot_5 dX9_filledShare_15 dX9_filledShare_18 dX9_filledShare_19 dX9_filledShare_22 dX9_filledShare_25 (Nat.le_of_ble_eq_true rfl) (Nat.le_of_ble_eq_true rfl) (Nat.le_of_ble_eq_true rfl) (Nat.le_of_ble_eq_true rfl) (Nat.le_of_ble_eq_true rfl) (Nat.le_of_ble_eq_true rfl) (fun tz z1 z2 => ⟨(5, (g, A, μ)), ⟨⟨rfl, rfl, (SQ_rfl _)⟩, ⟨rfl, (h36.2.2.mp c12)⟩⟩, ⟨rfl, z1⟩, z2⟩)
set_option maxHeartbeats 4000000 in
set_option maxRecDepth 100000 in
theorem t_X9_undo (l : Launch) (hl0 : l.stackTraces = false) {Z : ZT} (hZ : zOK Z) (hZX : ZX Z) (A : Nat × Nat → Nat) (g : Nat → Bool) (μ : CM) (sz : Nat) {kr kp cn : Nat} (hkr : kr < 8) (hkp : (kr + 8 - 1) % 8 = kp) (hk15 : μ 0 15 1 = nI kr) (hcn : μ 0 15 2 = nI cn) (hc8 : cn ≤ 8) {v2 : Nat → Int32} (hpast : 1 ≤ cn → g kp = true ∧ VG v2 ∧ RP (μ (kp + 3)) v2) : XVi l yX9_undo cX9_undo 1 (some .int) 7 15 1376 [.ref (A (0, 14))] Z (ids g) A (cE Z A g μ) sz (fun r u => 1 ≤ cn ∧ r = nI (cn - 1) ∧ u.1 = g ∧ u.2.1 = A ∧ (∀ b o, ¬ (b = 0 ∧ (o < 14 ∨ o = 15)) → u.2.2 b o = μ b o) ∧ RP (u.2.2 0) v2 ∧ u.2.2 0 15 1 = nI kp ∧ u.2.2 0 15 2 = nI (cn - 1)) (fun n u => SM g A μ u ∧ ((n = 3 ∧ cn = 0))) := by
  refine x_met (E := (cE Z A g μ)) (by decide +kernel) (Nat.le_of_ble_eq_true rfl) ?_
  intro p e s m below meth c ls S hr hlk hnt hsz hW hl
  have hxe := S.1
  have hcd := S.2.1
  subst hsz
  have hl : lv_has ls 1 [(0, .ref (A (0, 14)))] := hl
  refine lv_aload_n hxe hcd dX9_undo_0 rfl (lv_at hl 0 rfl) ?_
  refine gf_X9_25 S hW dX9_undo_1 ?_
  refine gf_X9_340 S hW dX9_undo_4 ?_
  refine r_as (y := (nI cn)) (hcn) ?_
  refine n_ifne S (a := cn) (by omega) dX9_undo_7 (tgt := 21) (by decide) (fun c7 => ?_) (fun c7 => ?_)
  · have hc1 : 1 ≤ cn := by omega
    refine lv_aload_n hxe hcd dX9_undo_21 rfl (lv_at hl 0 rfl) ?_
    refine gf_X9_25 S hW dX9_undo_22 ?_
    refine lv_aload_n hxe hcd dX9_undo_25 rfl (lv_at hl 0 rfl) ?_
    refine gf_X9_10 S hW dX9_undo_26 ?_
    refine r_callv (F := (cE Z A g)) (r_runV hZ S hW (As := [.ref (A (0, 0))]) (rest := []) (t_X2_popInto l hZ A g μ s.heap.size hkr hkp hk15 hcn hc1 hc8 (hpast hc1).1) k_X9_343 (r_recv hW (x := (0, 15)) (in_r (by decide) (by decide)) rfl rfl) (hl.1) rfl rfl (Nat.le_of_ble_eq_true rfl) ⟨Nat.le_of_ble_eq_true rfl, Nat.le_of_ble_eq_true rfl⟩ ⟨Nat.le_of_ble_eq_true rfl, Nat.le_of_ble_eq_true rfl⟩ dX9_undo_29) hW (fun u29 H locs hp29 hW => ?_)
    obtain ⟨hpo, hpr, hpk, hpc⟩ := hp29
    refine lv_aload_n hxe hcd dX9_undo_32 rfl (lv_at hl 0 rfl) ?_
    refine gf_X9_25 S hW dX9_undo_33 ?_
    refine gf_X9_340 S hW dX9_undo_36 ?_
    refine r_as (y := (nI (cn - 1))) (hpc) ?_
    refine x_iret S hr hlk (Nat.le_of_ble_eq_true rfl) (Nat.le_of_ble_eq_true rfl) (g, A, u29) hW ?_ dX9_undo_39
    exact ⟨hc1, rfl, rfl, rfl, hpo, hpr v2 (hpast hc1).2.1 (hpast hc1).2.2, hpk, hpc⟩
  · exact x_throwSW S hZ hl0 hZX hnt hl.1 hlk hW (ik := 292) (is := 341) (ic := 296) (X := "java/lang/IllegalStateException") (text := "there is no change to undo") (by decide +kernel) g_592 g_41 (by decide) tw_3 ot_3 dX9_undo_10 dX9_undo_13 dX9_undo_14 dX9_undo_17 dX9_undo_20 (Nat.le_of_ble_eq_true rfl) (Nat.le_of_ble_eq_true rfl) (Nat.le_of_ble_eq_true rfl) (Nat.le_of_ble_eq_true rfl) (Nat.le_of_ble_eq_true rfl) (Nat.le_of_ble_eq_true rfl) (fun tz z1 z2 => ⟨(3, (g, A, μ)), ⟨⟨rfl, rfl, (SQ_rfl _)⟩, ⟨rfl, c7⟩⟩, ⟨rfl, z1⟩, z2⟩)
set_option maxHeartbeats 4000000 in
set_option maxRecDepth 100000 in
theorem t_X9_save (l : Launch) (hl0 : l.stackTraces = false) {Z : ZT} (hZ : zOK Z) (hZX : ZX Z) (A : Nat × Nat → Nat) (g : Nat → Bool) (μ : CM) (sz : Nat) {v : Nat → Int32} (hVG : VG v) (hR : RP (μ 0) v) : XVi l yX9_save cX9_save 1 (some .int) 7 15 1376 [.ref (A (0, 14))] Z (ids g) A (cE Z A g μ) sz (fun r u => r = v 0 ∧ u.1 = g ∧ u.2.1 = A ∧ RP (u.2.2 2) v ∧ (∀ b o, b ≠ 2 → ¬ (b = 0 ∧ o = 14) → u.2.2 b o = μ b o) ∧ u.2.2 0 14 = upd (μ 0 14) 9 (nI 1)) (fun _ _ => False) := by
  refine x_met (E := (cE Z A g μ)) (by decide +kernel) (Nat.le_of_ble_eq_true rfl) ?_
  intro p e s m below meth c ls S hr hlk hnt hsz hW hl
  have hxe := S.1
  have hcd := S.2.1
  subst hsz
  have hl : lv_has ls 1 [(0, .ref (A (0, 14)))] := hl
  refine lv_aload_n hxe hcd dX9_save_0 rfl (lv_at hl 0 rfl) ?_
  refine gf_X9_19 S hW dX9_save_1 ?_
  refine lv_aload_n hxe hcd dX9_save_4 rfl (lv_at hl 0 rfl) ?_
  refine gf_X9_10 S hW dX9_save_5 ?_
  refine r_callv (F := (cE Z A g)) (r_runV hZ S hW (As := [.ref (A (0, 0))]) (rest := []) (t_X6_copyFrom l hZ A g μ s.heap.size sB_2 sB_0 (by decide)) k_X9_282 (r_recv hW (x := (2, 0)) (in_s sB_2 (by decide)) rfl rfl) (hl.1) rfl rfl (Nat.le_of_ble_eq_true rfl) ⟨Nat.le_of_ble_eq_true rfl, Nat.le_of_ble_eq_true rfl⟩ ⟨Nat.le_of_ble_eq_true rfl, Nat.le_of_ble_eq_true rfl⟩ dX9_save_8) hW (fun u8 H locs hp8 hW => ?_)
  have hp8 := hp8.symm
  subst hp8
  refine lv_aload_n hxe hcd dX9_save_11 rfl (lv_at hl 0 rfl) ?_
  refine lv_iconst (v := (nI 1)) hxe hcd dX9_save_12 (by decide) ?_
  refine gp_X9_61 S hW (by decide +kernel) (by decide +kernel) dX9_save_13 (fun H locs hW => ?_)
  refine lv_aload_n hxe hcd dX9_save_16 rfl (lv_at hl 0 rfl) ?_
  refine gf_X9_10 S hW dX9_save_17 ?_
  refine gf_X9_72 S hW sB_0 dX9_save_20 ?_
  refine gf_X9_90 S hW sB_0 dX9_save_23 ?_
  refine x_iret S hr hlk (Nat.le_of_ble_eq_true rfl) (Nat.le_of_ble_eq_true rfl) (g, A, up2 (cpState μ 2 0) 0 14 (upd ((cpState μ 2 0) 0 14) 9 (nI 1))) hW ?_ dX9_save_26
  refine ⟨?_, rfl, rfl, ?_, fun b o h1 h2 => ?_, ?_⟩
  · rw [up2_o (o2 := 1) (o := 14) (by decide), cpS_o (by decide)]; exact hR.1.1
  · exact SAVE_R (f := upd (cpState μ 2 0 0 14) 9 (nI 1)) hR hVG
  · simp only []; rw [up2_n h2, cpS_o h1]
  · simp only []; rw [up2_s, cpS_o (by decide)]
set_option maxHeartbeats 4000000 in
set_option maxRecDepth 100000 in
theorem t_X9_restore (l : Launch) (hl0 : l.stackTraces = false) {Z : ZT} (hZ : zOK Z) (hZX : ZX Z) (A : Nat × Nat → Nat) (g : Nat → Bool) (μ : CM) (sz : Nat) {sv : Nat} (hsv : μ 0 14 9 = nI sv) (hsv1 : sv ≤ 1) {v2 : Nat → Int32} (hsn : sv = 1 → VG v2 ∧ RP (μ 2) v2) : XVi l yX9_restore cX9_restore 1 (some .int) 7 15 1376 [.ref (A (0, 14))] Z (ids g) A (cE Z A g μ) sz (fun r u => sv = 1 ∧ r = v2 0 ∧ u.1 = g ∧ u.2.1 = A ∧ RP (u.2.2 0) v2 ∧ (∀ b o, ¬ (b = 0 ∧ (o < 14 ∨ o = 15)) → u.2.2 b o = μ b o) ∧ u.2.2 0 15 = upd (μ 0 15) 2 (nI 0)) (fun n u => SM g A μ u ∧ ((n = 3 ∧ sv = 0))) := by
  refine x_met (E := (cE Z A g μ)) (by decide +kernel) (Nat.le_of_ble_eq_true rfl) ?_
  intro p e s m below meth c ls S hr hlk hnt hsz hW hl
  have hxe := S.1
  have hcd := S.2.1
  subst hsz
  have hl : lv_has ls 1 [(0, .ref (A (0, 14)))] := hl
  refine lv_aload_n hxe hcd dX9_restore_0 rfl (lv_at hl 0 rfl) ?_
  refine gf_X9_61 S hW dX9_restore_1 ?_
  refine r_as (y := (nI sv)) (hsv) ?_
  refine n_ifne S (a := sv) (by omega) dX9_restore_4 (tgt := 18) (by decide) (fun c4 => ?_) (fun c4 => ?_)
  · have hs1 : sv = 1 := by omega
    refine lv_aload_n hxe hcd dX9_restore_18 rfl (lv_at hl 0 rfl) ?_
    refine gf_X9_10 S hW dX9_restore_19 ?_
    refine lv_aload_n hxe hcd dX9_restore_22 rfl (lv_at hl 0 rfl) ?_
    refine gf_X9_19 S hW dX9_restore_23 ?_
    refine r_callv (F := (cE Z A g)) (r_runV hZ S hW (As := [.ref (A (2, 0))]) (rest := []) (t_X6_copyFrom l hZ A g μ s.heap.size sB_0 sB_2 (by decide)) k_X9_282 (r_recv hW (x := (0, 0)) (in_s sB_0 (by decide)) rfl rfl) (hl.1) rfl rfl (Nat.le_of_ble_eq_true rfl) ⟨Nat.le_of_ble_eq_true rfl, Nat.le_of_ble_eq_true rfl⟩ ⟨Nat.le_of_ble_eq_true rfl, Nat.le_of_ble_eq_true rfl⟩ dX9_restore_26) hW (fun u26 H locs hp26 hW => ?_)
    have hp26 := hp26.symm
    subst hp26
    refine lv_aload_n hxe hcd dX9_restore_29 rfl (lv_at hl 0 rfl) ?_
    refine gf_X9_25 S hW dX9_restore_30 ?_
    refine r_callv (F := (cE Z A g)) (r_runV hZ S hW (As := []) (rest := []) (t_X2_clear l hZ A g (cpState μ 0 2) H.size ) k_X9_348 (r_recv hW (x := (0, 15)) (in_r (by decide) (by decide)) rfl rfl) (hl.1) rfl rfl (Nat.le_of_ble_eq_true rfl) ⟨Nat.le_of_ble_eq_true rfl, Nat.le_of_ble_eq_true rfl⟩ ⟨Nat.le_of_ble_eq_true rfl, Nat.le_of_ble_eq_true rfl⟩ dX9_restore_33) hW (fun u33 H locs hp33 hW => ?_)
    have hp33 := hp33.symm
    subst hp33
    refine lv_aload_n hxe hcd dX9_restore_36 rfl (lv_at hl 0 rfl) ?_
    refine gf_X9_10 S hW dX9_restore_37 ?_
    refine gf_X9_72 S hW sB_0 dX9_restore_40 ?_
    refine gf_X9_90 S hW sB_0 dX9_restore_43 ?_
    refine x_iret S hr hlk (Nat.le_of_ble_eq_true rfl) (Nat.le_of_ble_eq_true rfl) (g, A, up2 (cpState μ 0 2) 0 15 (upd ((cpState μ 0 2) 0 15) 2 (nI 0))) hW ?_ dX9_restore_46
    have hB := cpS_b (b := 0) (b2 := 2) (v := v2) (μ := μ) (by decide) (hsn hs1).2 (hsn hs1).1
    refine ⟨hs1, ?_, rfl, rfl, RP_k hB (fun o ho => up2_o (by omega)), fun b o h => ?_, ?_⟩
    · rw [up2_o (o2 := 1) (o := 15) (by decide)]; exact hB.1.1
    · simp only []; rw [up2_n (fun z => h ⟨z.1, Or.inr z.2⟩), cpS_oo h]
    · simp only []; rw [up2_s, cpS_o15 (by decide)]
  · exact x_throwSW S hZ hl0 hZX hnt hl.1 hlk hW (ik := 292) (is := 346) (ic := 296) (X := "java/lang/IllegalStateException") (text := "there is no snapshot") (by decide +kernel) g_592 g_41 (by decide) tw_3 ot_3 dX9_restore_7 dX9_restore_10 dX9_restore_11 dX9_restore_14 dX9_restore_17 (Nat.le_of_ble_eq_true rfl) (Nat.le_of_ble_eq_true rfl) (Nat.le_of_ble_eq_true rfl) (Nat.le_of_ble_eq_true rfl) (Nat.le_of_ble_eq_true rfl) (Nat.le_of_ble_eq_true rfl) (fun tz z1 z2 => ⟨(3, (g, A, μ)), ⟨⟨rfl, rfl, (SQ_rfl _)⟩, ⟨rfl, c4⟩⟩, ⟨rfl, z1⟩, z2⟩)
