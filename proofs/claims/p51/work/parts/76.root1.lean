set_option maxHeartbeats 4000000 in
set_option maxRecDepth 100000 in
theorem t_X9_sendSong (l : Launch) {Z : ZT} (hZ : zOK Z) (A : Nat × Nat → Nat) (g : Nat → Bool) (μ : CM) (sz : Nat) {q n nf : Nat} (hq : q < 4) (hl7 : μ 0 7 q = nI n) (hn : n ≤ 160) (hc : μ 0 1 2 = nI nf) (h8 : nf ≤ 8) (ps : Nat → Nat) (hps : ∀ f, f < nf → μ 0 3 f = nI (ps f) ∧ ps f ≤ 999 ∧ KP (μ 0 2 f) (nI (ps f))) : XMi l yX9_sendSong cX9_sendSong 3 (some .int) 5 [.ref (A (0, 14)), .int (nI q)] Z (ids g) A (cE Z A g) μ sz (fun r u => r = nI n ∧ ∃ M R : Nat → Int32, u = up2 (up2 μ 0 18 M) 0 19 R ∧ ∀ j, j < n → R j = flR (fun t => μ 0 5 (q * 160 + t)) (μ 0 2) (μ 0 3) nf j) := by
  refine r_met (E := (cE Z A g μ)) (by decide +kernel) (Nat.le_of_ble_eq_true rfl) ?_
  intro p e s m below meth c ls S hr hlk hnm hsz hW hl
  have hxe := S.1
  have hcd := S.2.1
  subst hsz
  have hl : lv_has ls 3 [(0, .ref (A (0, 14))), (1, .int (nI q))] := hl
  refine lv_aload_n hxe hcd dX9_sendSong_0 rfl (lv_at hl 0 rfl) ?_
  refine gf_X9_10 S hW dX9_sendSong_1 ?_
  refine gf_X9_122 S hW sB_0 dX9_sendSong_4 ?_
  refine lv_iload_n hxe hcd dX9_sendSong_7 rfl (lv_at hl 1 rfl) ?_
  refine r_calli0 (r_runV hZ S hW (As := [.int (nI q)]) (rest := []) (t_X5_samplesOf l hZ A g μ s.heap.size sB_0 (nI q)) k_X9_147 (r_recv hW (x := (0, 4)) (in_s sB_0 (by decide)) rfl rfl) (hl.1) rfl rfl (Nat.le_of_ble_eq_true rfl) ⟨Nat.le_of_ble_eq_true rfl, Nat.le_of_ble_eq_true rfl⟩ ⟨Nat.le_of_ble_eq_true rfl, Nat.le_of_ble_eq_true rfl⟩ dX9_sendSong_8) hW (fun r8 H locs hp8 hW => ?_)
  have hp8 := hp8.symm
  subst hp8
  refine r_as (y := (nI n)) (by rw [rd_in (n := 4) (k := q) _ hq (by decide), hl7]) ?_
  refine lv_istore_n (lv' := [(2, .int (nI n)), (0, .ref (A (0, 14))), (1, .int (nI q))]) hxe hcd dX9_sendSong_11 rfl hl (by decide) rfl (fun ls hl => ?_)
  refine lv_aload_n hxe hcd dX9_sendSong_12 rfl (lv_at hl 1 rfl) ?_
  refine gf_X9_32 S hW dX9_sendSong_13 ?_
  refine lv_aload_n hxe hcd dX9_sendSong_16 rfl (lv_at hl 1 rfl) ?_
  refine gf_X9_10 S hW dX9_sendSong_17 ?_
  refine lv_iload_n hxe hcd dX9_sendSong_20 rfl (lv_at hl 2 rfl) ?_
  refine lv_iload_n hxe hcd dX9_sendSong_21 rfl (lv_at hl 0 rfl) ?_
  refine r_callv (F := (cE Z A g)) (r_runV hZ S hW (As := [.ref (A (0, 0)), .int (nI q), .int (nI n)]) (rest := []) (t_X4_send l hZ A g μ H.size sB_0 (q := q) (n := n) hq hn hc h8 ps hps) k_X9_363 (r_recv hW (x := (0, 17)) (in_r (by decide) (by decide)) rfl rfl) (hl.1) rfl rfl (Nat.le_of_ble_eq_true rfl) ⟨Nat.le_of_ble_eq_true rfl, Nat.le_of_ble_eq_true rfl⟩ ⟨Nat.le_of_ble_eq_true rfl, Nat.le_of_ble_eq_true rfl⟩ dX9_sendSong_22) hW (fun u22 H locs hp22 hW => ?_)
  obtain ⟨M22, R22, hm22, hO22⟩ := hp22
  subst hm22
  refine lv_iload_n hxe hcd dX9_sendSong_25 rfl (lv_at hl 0 rfl) ?_
  refine r_iret S hr hlk (F := (cE Z A g)) (u := (up2 (up2 μ 0 18 M22) 0 19 R22)) hW ?_ dX9_sendSong_26
  exact ⟨rfl, M22, R22, rfl, hO22⟩
set_option maxHeartbeats 4000000 in
set_option maxRecDepth 100000 in
theorem t_X9_sumOfSquares (l : Launch) {Z : ZT} (hZ : zOK Z) (A : Nat × Nat → Nat) (g : Nat → Bool) (μ : CM) (sz : Nat) {q n nf : Nat} (hq : q < 4) (hl7 : μ 0 7 q = nI n) (hn : n ≤ 160) (hc : μ 0 1 2 = nI nf) (h8 : nf ≤ 8) (ps : Nat → Nat) (hps : ∀ f, f < nf → μ 0 3 f = nI (ps f) ∧ ps f ≤ 999 ∧ KP (μ 0 2 f) (nI (ps f))) : XMl l yX9_sumOfSquares cX9_sumOfSquares 8 (some .long) 6 [.ref (A (0, 14)), .int (nI q)] Z (ids g) A (cE Z A g) μ sz (fun r u => r = sqS (flR (fun t => μ 0 5 (q * 160 + t)) (μ 0 2) (μ 0 3) nf) n ∧ ∃ M R : Nat → Int32, u = up2 (up2 μ 0 18 M) 0 19 R) := by
  refine r_met (E := (cE Z A g μ)) (by decide +kernel) (Nat.le_of_ble_eq_true rfl) ?_
  intro p e s m below meth c ls S hr hlk hnm hsz hW hl
  have hxe := S.1
  have hcd := S.2.1
  subst hsz
  have hl : lv_has ls 8 [(0, .ref (A (0, 14))), (1, .int (nI q))] := hl
  refine lv_aload_n hxe hcd dX9_sumOfSquares_0 rfl (lv_at hl 0 rfl) ?_
  refine lv_iload_n hxe hcd dX9_sumOfSquares_1 rfl (lv_at hl 1 rfl) ?_
  refine r_calli (F := (cE Z A g)) (r_runV hZ S hW (As := [.int (nI q)]) (rest := []) (t_X9_sendSong l hZ A g μ s.heap.size (q := q) (n := n) (nf := nf) hq hl7 hn hc h8 ps hps) k_X9_177 (r_recv hW (x := (0, 14)) (in_r (by decide) (by decide)) rfl rfl) (hl.1) rfl rfl (Nat.le_of_ble_eq_true rfl) ⟨Nat.le_of_ble_eq_true rfl, Nat.le_of_ble_eq_true rfl⟩ ⟨Nat.le_of_ble_eq_true rfl, Nat.le_of_ble_eq_true rfl⟩ dX9_sumOfSquares_2) hW (fun r2 u2 H locs hp2 hW => ?_)
  obtain ⟨hr2, M2, R2, hm2, hO2⟩ := hp2
  subst hm2
  subst hr2
  refine lv_istore_n (lv' := [(2, .int (nI n)), (0, .ref (A (0, 14))), (1, .int (nI q))]) hxe hcd dX9_sumOfSquares_5 rfl hl (by decide) rfl (fun ls hl => ?_)
  refine lv_lconst (v := 0) hxe hcd dX9_sumOfSquares_6 (by decide) ?_
  refine lv_lstore_n (lv' := [(3, .long (0 : Int64)), (2, .int (nI n)), (0, .ref (A (0, 14))), (1, .int (nI q))]) hxe hcd dX9_sumOfSquares_7 rfl hl (by decide) rfl (fun ls hl => ?_)
  refine lv_iconst (v := (nI 0)) hxe hcd dX9_sumOfSquares_8 (by decide) ?_
  refine lv_istore (lv' := [(5, .int (nI 0)), (3, .long (0 : Int64)), (2, .int (nI n)), (0, .ref (A (0, 14))), (1, .int (nI q))]) hxe hcd dX9_sumOfSquares_9 hl (by decide) rfl (fun ls hl => ?_)
  have loop11 : ∀ (n_ : Nat) (i : Nat), n - i < n_ → (i ≤ n) → ∀ (H : Heap) (locs : List Loc) (ls : Array Slot), wX Z (ids g) A (cE Z A g (up2 (up2 μ 0 18 M2) 0 19 R2)) (fA (ids g) A (cE Z A g μ) s.heap.size) s H locs → lv_has ls 8 [(0, .ref (A (0, 14))), (1, .int (nI q)), (2, .int (nI n)), (3, .long (sqS (flR (fun t => μ 0 5 (q * 160 + t)) (μ 0 2) (μ 0 3) nf) i)), (5, .int (nI i))] → W p l e (rmD 6 0 0) s m ([.ref (A (0, 14)), .int (nI q)] : List Value).toArray below meth c H locs 0 0 (MQ below (va_Ql (fun r u => r = sqS (flR (fun t => μ 0 5 (q * 160 + t)) (μ 0 2) (μ 0 3) nf) n ∧ ∃ M R : Nat → Int32, u = up2 (up2 μ 0 18 M) 0 19 R) (fun u t => qB Z (ids g) A ((cE Z A g) u) (fA (ids g) A (cE Z A g μ) s.heap.size) t) (fA (ids g) A (cE Z A g μ) s.heap.size)) ([.ref (A (0, 14)), .int (nI q)] : List Value).toArray s 0 0 (fA (ids g) A (cE Z A g μ) s.heap.size)) (F0 m 11 ls []) := by
    intro n_
    induction n_ with
    | zero => intro i hm; exact absurd hm (Nat.not_lt_zero _)
    | succ n_ ih11 =>
      intro i hm hi H locs ls hW hl
      refine lv_iload hxe hcd dX9_sumOfSquares_11 (lv_at hl 4 rfl) ?_
      refine lv_iload_n hxe hcd dX9_sumOfSquares_13 rfl (lv_at hl 2 rfl) ?_
      refine n_ge S (a := i) (b := n) (by omega) (by omega) dX9_sumOfSquares_14 (tgt := 43) (by decide) (fun c14 => ?_) (fun c14 => ?_)
      · refine lv_lload_n hxe hcd dX9_sumOfSquares_43 rfl (lv_at hl 3 rfl) ?_
        refine r_lret S hr hlk (F := (cE Z A g)) (u := (up2 (up2 μ 0 18 M2) 0 19 R2)) hW ?_ dX9_sumOfSquares_44
        rw [show i = n by omega]
        exact ⟨rfl, M2, R2, rfl⟩
      · refine lv_aload_n hxe hcd dX9_sumOfSquares_17 rfl (lv_at hl 0 rfl) ?_
        refine gf_X9_32 S hW dX9_sumOfSquares_18 ?_
        refine lv_iload hxe hcd dX9_sumOfSquares_21 (lv_at hl 4 rfl) ?_
        refine r_calli0 (r_runV hZ S hW (As := [.int (nI i)]) (rest := []) (t_X4_given l hZ A g (up2 (up2 μ 0 18 M2) 0 19 R2) H.size (nI i)) k_X9_180 (r_recv hW (x := (0, 17)) (in_r (by decide) (by decide)) rfl rfl) (hl.1) rfl rfl (Nat.le_of_ble_eq_true rfl) ⟨Nat.le_of_ble_eq_true rfl, Nat.le_of_ble_eq_true rfl⟩ ⟨Nat.le_of_ble_eq_true rfl, Nat.le_of_ble_eq_true rfl⟩ dX9_sumOfSquares_23) hW (fun r23 H locs hp23 hW => ?_)
        have hp23 := hp23.symm
        subst hp23
        refine r_as (y := (flR (fun t => μ 0 5 (q * 160 + t)) (μ 0 2) (μ 0 3) nf i)) (by rw [rd_in (n := 160) (k := i) _ (by omega) (by decide), up2_s, hO2 i (by omega)]) ?_
        refine lv_i2l (v := (flR (fun t => μ 0 5 (q * 160 + t)) (μ 0 2) (μ 0 3) nf i).toInt64) hxe hcd dX9_sumOfSquares_26 rfl ?_
        refine lv_lstore (lv' := [(6, .long ((flR (fun t => μ 0 5 (q * 160 + t)) (μ 0 2) (μ 0 3) nf i).toInt64)), (0, .ref (A (0, 14))), (1, .int (nI q)), (2, .int (nI n)), (3, .long (sqS (flR (fun t => μ 0 5 (q * 160 + t)) (μ 0 2) (μ 0 3) nf) i)), (5, .int (nI i))]) hxe hcd dX9_sumOfSquares_27 hl (by decide) rfl (fun ls hl => ?_)
        refine lv_lload_n hxe hcd dX9_sumOfSquares_29 rfl (lv_at hl 4 rfl) ?_
        refine lv_lload hxe hcd dX9_sumOfSquares_30 (lv_at hl 0 rfl) ?_
        refine lv_lload hxe hcd dX9_sumOfSquares_32 (lv_at hl 0 rfl) ?_
        refine lv_lmul hxe hcd dX9_sumOfSquares_34 ?_
        refine lv_ladd hxe hcd dX9_sumOfSquares_35 ?_
        refine lv_lstore_n (lv' := [(3, .long ((sqS (flR (fun t => μ 0 5 (q * 160 + t)) (μ 0 2) (μ 0 3) nf) i) + (((flR (fun t => μ 0 5 (q * 160 + t)) (μ 0 2) (μ 0 3) nf i).toInt64) * ((flR (fun t => μ 0 5 (q * 160 + t)) (μ 0 2) (μ 0 3) nf i).toInt64)))), (6, .long ((flR (fun t => μ 0 5 (q * 160 + t)) (μ 0 2) (μ 0 3) nf i).toInt64)), (0, .ref (A (0, 14))), (1, .int (nI q)), (2, .int (nI n)), (5, .int (nI i))]) hxe hcd dX9_sumOfSquares_36 rfl hl (by decide) rfl (fun ls hl => ?_)
        refine lv_iinc (v := (nI (i + 1))) (lv' := [(5, .int (nI (i + 1))), (3, .long ((sqS (flR (fun t => μ 0 5 (q * 160 + t)) (μ 0 2) (μ 0 3) nf) i) + (((flR (fun t => μ 0 5 (q * 160 + t)) (μ 0 2) (μ 0 3) nf i).toInt64) * ((flR (fun t => μ 0 5 (q * 160 + t)) (μ 0 2) (μ 0 3) nf i).toInt64)))), (6, .long ((flR (fun t => μ 0 5 (q * 160 + t)) (μ 0 2) (μ 0 3) nf i).toInt64)), (0, .ref (A (0, 14))), (1, .int (nI q)), (2, .int (nI n))]) hxe hcd dX9_sumOfSquares_37 hl (k := 5) rfl (nI_add i 1) (by decide) rfl (fun ls hl => ?_)
        refine lv_goto (tgt := 11) hxe hcd dX9_sumOfSquares_40 (by decide) ?_
        have hl : lv_has ls 8 [(5, .int (nI (i + 1))), (3, .long (sqS (flR (fun t => μ 0 5 (q * 160 + t)) (μ 0 2) (μ 0 3) nf) (i + 1))), (0, .ref (A (0, 14))), (1, .int (nI q)), (2, .int (nI n))] := by
          rw [sqS]
          exact lv_sub hl [0, 1, 3, 4, 5] rfl
        exact ih11 (i + 1) (by omega) (by omega) _ _ _ hW (lv_sub hl [2, 3, 4, 1, 0] rfl)
  exact loop11 (n + 1) 0 (Nat.lt_succ_self _) (Nat.zero_le _) _ _ _ hW (lv_sub hl [3, 4, 2, 1, 0] rfl)
set_option maxHeartbeats 4000000 in
set_option maxRecDepth 100000 in
theorem t_X9_bothWaysAgree (l : Launch) {Z : ZT} (hZ : zOK Z) (A : Nat × Nat → Nat) (g : Nat → Bool) (μ : CM) (sz : Nat) {q n nf : Nat} (hq : q < 4) (hl7 : μ 0 7 q = nI n) (hn : n ≤ 160) (hc : μ 0 1 2 = nI nf) (h8 : nf ≤ 8) (ps : Nat → Nat) (hps : ∀ f, f < nf → μ 0 3 f = nI (ps f) ∧ ps f ≤ 999 ∧ KP (μ 0 2 f) (nI (ps f))) : XMi l yX9_bothWaysAgree cX9_bothWaysAgree 4 (some .boolean) 6 [.ref (A (0, 14)), .int (nI q)] Z (ids g) A (cE Z A g) μ sz (fun r u => r = nI 1 ∧ ∃ M R R2 : Nat → Int32, u = up2 (up2 (up2 μ 0 18 M) 0 19 R) 0 20 R2) := by
  refine r_met (E := (cE Z A g μ)) (by decide +kernel) (Nat.le_of_ble_eq_true rfl) ?_
  intro p e s m below meth c ls S hr hlk hnm hsz hW hl
  have hxe := S.1
  have hcd := S.2.1
  subst hsz
  have hl : lv_has ls 4 [(0, .ref (A (0, 14))), (1, .int (nI q))] := hl
  refine lv_aload_n hxe hcd dX9_bothWaysAgree_0 rfl (lv_at hl 0 rfl) ?_
  refine lv_iload_n hxe hcd dX9_bothWaysAgree_1 rfl (lv_at hl 1 rfl) ?_
  refine r_calli (F := (cE Z A g)) (r_runV hZ S hW (As := [.int (nI q)]) (rest := []) (t_X9_sendSong l hZ A g μ s.heap.size (q := q) (n := n) (nf := nf) hq hl7 hn hc h8 ps hps) k_X9_177 (r_recv hW (x := (0, 14)) (in_r (by decide) (by decide)) rfl rfl) (hl.1) rfl rfl (Nat.le_of_ble_eq_true rfl) ⟨Nat.le_of_ble_eq_true rfl, Nat.le_of_ble_eq_true rfl⟩ ⟨Nat.le_of_ble_eq_true rfl, Nat.le_of_ble_eq_true rfl⟩ dX9_bothWaysAgree_2) hW (fun r2 u2 H locs hp2 hW => ?_)
  obtain ⟨hr2, M2, R2, hm2, hO2⟩ := hp2
  subst hm2
  subst hr2
  refine lv_istore_n (lv' := [(2, .int (nI n)), (0, .ref (A (0, 14))), (1, .int (nI q))]) hxe hcd dX9_bothWaysAgree_5 rfl hl (by decide) rfl (fun ls hl => ?_)
  refine lv_aload_n hxe hcd dX9_bothWaysAgree_6 rfl (lv_at hl 1 rfl) ?_
  refine gf_X9_32 S hW dX9_bothWaysAgree_7 ?_
  refine lv_aload_n hxe hcd dX9_bothWaysAgree_10 rfl (lv_at hl 1 rfl) ?_
  refine gf_X9_10 S hW dX9_bothWaysAgree_11 ?_
  refine lv_iload_n hxe hcd dX9_bothWaysAgree_14 rfl (lv_at hl 2 rfl) ?_
  refine r_callv (F := (cE Z A g)) (r_runV hZ S hW (As := [.ref (A (0, 0)), .int (nI q)]) (rest := []) (t_X4_sendByFilter l hZ A g (up2 (up2 μ 0 18 M2) 0 19 R2) H.size sB_0 (q := q) (n := n) hq hl7 hn hc h8 ps hps) k_X9_159 (r_recv hW (x := (0, 17)) (in_r (by decide) (by decide)) rfl rfl) (hl.1) rfl rfl (Nat.le_of_ble_eq_true rfl) ⟨Nat.le_of_ble_eq_true rfl, Nat.le_of_ble_eq_true rfl⟩ ⟨Nat.le_of_ble_eq_true rfl, Nat.le_of_ble_eq_true rfl⟩ dX9_bothWaysAgree_15) hW (fun u15 H locs hp15 hW => ?_)
  obtain ⟨R15, hm15, hO15⟩ := hp15
  subst hm15
  have hO15 : ∀ j, j < n → R15 j = flR (fun t => μ 0 5 (q * 160 + t)) (μ 0 2) (μ 0 3) nf j := hO15
  refine lv_iconst (v := (nI 0)) hxe hcd dX9_bothWaysAgree_18 (by decide) ?_
  refine lv_istore_n (lv' := [(3, .int (nI 0)), (2, .int (nI n)), (0, .ref (A (0, 14))), (1, .int (nI q))]) hxe hcd dX9_bothWaysAgree_19 rfl hl (by decide) rfl (fun ls hl => ?_)
  have loop20 : ∀ (n_ : Nat) (i : Nat), n - i < n_ → (i ≤ n) → ∀ (H : Heap) (locs : List Loc) (ls : Array Slot), wX Z (ids g) A (cE Z A g (up2 (up2 (up2 μ 0 18 M2) 0 19 R2) 0 20 R15)) (fA (ids g) A (cE Z A g μ) s.heap.size) s H locs → lv_has ls 4 [(0, .ref (A (0, 14))), (1, .int (nI q)), (2, .int (nI n)), (3, .int (nI i))] → W p l e (rmD 6 0 0) s m ([.ref (A (0, 14)), .int (nI q)] : List Value).toArray below meth c H locs 0 0 (MQ below (va_Qi (fun r u => r = nI 1 ∧ ∃ M R R2 : Nat → Int32, u = up2 (up2 (up2 μ 0 18 M) 0 19 R) 0 20 R2) (fun u t => qB Z (ids g) A ((cE Z A g) u) (fA (ids g) A (cE Z A g μ) s.heap.size) t) (fA (ids g) A (cE Z A g μ) s.heap.size)) ([.ref (A (0, 14)), .int (nI q)] : List Value).toArray s 0 0 (fA (ids g) A (cE Z A g μ) s.heap.size)) (F0 m 20 ls []) := by
    intro n_
    induction n_ with
    | zero => intro i hm; exact absurd hm (Nat.not_lt_zero _)
    | succ n_ ih20 =>
      intro i hm hi H locs ls hW hl
      refine lv_iload_n hxe hcd dX9_bothWaysAgree_20 rfl (lv_at hl 3 rfl) ?_
      refine lv_iload_n hxe hcd dX9_bothWaysAgree_21 rfl (lv_at hl 2 rfl) ?_
      refine n_ge S (a := i) (b := n) (by omega) (by omega) dX9_bothWaysAgree_22 (tgt := 52) (by decide) (fun c22 => ?_) (fun c22 => ?_)
      · refine lv_iconst (v := (nI 1)) hxe hcd dX9_bothWaysAgree_52 (by decide) ?_
        refine r_zret S hr hlk (F := (cE Z A g)) (u := (up2 (up2 (up2 μ 0 18 M2) 0 19 R2) 0 20 R15)) hW (by decide +kernel) ?_ dX9_bothWaysAgree_53
        exact ⟨rfl, M2, R2, R15, rfl⟩
      · refine lv_aload_n hxe hcd dX9_bothWaysAgree_25 rfl (lv_at hl 0 rfl) ?_
        refine gf_X9_32 S hW dX9_bothWaysAgree_26 ?_
        refine lv_iload_n hxe hcd dX9_bothWaysAgree_29 rfl (lv_at hl 3 rfl) ?_
        refine r_calli0 (r_runV hZ S hW (As := [.int (nI i)]) (rest := []) (t_X4_given l hZ A g (up2 (up2 (up2 μ 0 18 M2) 0 19 R2) 0 20 R15) H.size (nI i)) k_X9_180 (r_recv hW (x := (0, 17)) (in_r (by decide) (by decide)) rfl rfl) (hl.1) rfl rfl (Nat.le_of_ble_eq_true rfl) ⟨Nat.le_of_ble_eq_true rfl, Nat.le_of_ble_eq_true rfl⟩ ⟨Nat.le_of_ble_eq_true rfl, Nat.le_of_ble_eq_true rfl⟩ dX9_bothWaysAgree_30) hW (fun r30 H locs hp30 hW => ?_)
        have hp30 := hp30.symm
        subst hp30
        refine r_as (y := (flR (fun t => μ 0 5 (q * 160 + t)) (μ 0 2) (μ 0 3) nf i)) (by rw [rd_in (n := 160) (k := i) _ (by omega) (by decide), up2_o (o2 := 19) (o := 20) (by decide), up2_s, hO2 i (by omega)]) ?_
        refine lv_aload_n hxe hcd dX9_bothWaysAgree_33 rfl (lv_at hl 0 rfl) ?_
        refine gf_X9_32 S hW dX9_bothWaysAgree_34 ?_
        refine lv_iload_n hxe hcd dX9_bothWaysAgree_37 rfl (lv_at hl 3 rfl) ?_
        refine r_calli0 (r_runV hZ S hW (As := [.int (nI i)]) (rest := [.int (flR (fun t => μ 0 5 (q * 160 + t)) (μ 0 2) (μ 0 3) nf i)]) (t_X4_givenByFilter l hZ A g (up2 (up2 (up2 μ 0 18 M2) 0 19 R2) 0 20 R15) H.size (nI i)) k_X9_163 (r_recv hW (x := (0, 17)) (in_r (by decide) (by decide)) rfl rfl) (hl.1) rfl rfl (Nat.le_of_ble_eq_true rfl) ⟨Nat.le_of_ble_eq_true rfl, Nat.le_of_ble_eq_true rfl⟩ ⟨Nat.le_of_ble_eq_true rfl, Nat.le_of_ble_eq_true rfl⟩ dX9_bothWaysAgree_38) hW (fun r38 H locs hp38 hW => ?_)
        have hp38 := hp38.symm
        subst hp38
        refine r_as (y := (flR (fun t => μ 0 5 (q * 160 + t)) (μ 0 2) (μ 0 3) nf i)) (by rw [rd_in (n := 160) (k := i) _ (by omega) (by decide), up2_s, hO15 i (by omega)]) ?_
        refine lv_icmp_eq (tgt := 46) hxe hcd dX9_bothWaysAgree_41 (by decide) (fun c41 => ?_) (fun c41 => absurd rfl c41)
        refine lv_iinc (v := (nI (i + 1))) (lv' := [(3, .int (nI (i + 1))), (0, .ref (A (0, 14))), (1, .int (nI q)), (2, .int (nI n))]) hxe hcd dX9_bothWaysAgree_46 hl (k := 3) rfl (nI_add i 1) (by decide) rfl (fun ls hl => ?_)
        refine lv_goto (tgt := 20) hxe hcd dX9_bothWaysAgree_49 (by decide) ?_
        exact ih20 (i + 1) (by omega) (by omega) _ _ _ hW (lv_sub hl [1, 2, 3, 0] rfl)
  exact loop20 (n + 1) 0 (Nat.lt_succ_self _) (Nat.zero_le _) _ _ _ hW (lv_sub hl [2, 3, 1, 0] rfl)
