set_option maxHeartbeats 4000000 in
set_option maxRecDepth 100000 in
theorem t_X9_faultOfCommand (l : Launch) {Z : ZT} (hZ : zOK Z) (A : Nat × Nat → Nat) (g : Nat → Bool) (μ : CM) (sz : Nat) {b0 : Nat} (hb0 : sB g b0) (v : Nat → Int32) (hVG : VG v) (hR : RP (μ b0) v) {w a1 a2 a3 a4 jc : Nat} (hw : w < 12) (ha1 : a1 < 1000) (ha2 : a2 < 1000) (ha3 : a3 < 1000) (ha4 : a4 < 1000) (hjc : jc < 12) (hC : CMJ μ jc w a1 a2 a3 a4) : XCi l yX9_faultOfCommand cX9_faultOfCommand 5 (some .int) 4 [.ref (A (0, 14)), .ref (A (b0, 0)), .int (nI jc)] Z (ids g) A (cE Z A g μ) sz (fun r => (r = nI 0 ∧ exV v w a1 a2 a3 a4 ≠ none) ∨ (¬ r = 0 ∧ exV v w a1 a2 a3 a4 = none)) := by
  refine r_met (E := (cE Z A g μ)) (by decide +kernel) (Nat.le_of_ble_eq_true rfl) ?_
  intro p e s m below meth c ls S hr hlk hnm hsz hW hl
  have hxe := S.1
  have hcd := S.2.1
  subst hsz
  have hl : lv_has ls 5 [(0, .ref (A (0, 14))), (1, .ref (A (b0, 0))), (2, .int (nI jc))] := hl
  have hn8 := hVG.1.2
  have hn4 := hVG.2.1.2
  obtain ⟨hC1, hC2, hC3, hC4⟩ := hC
  rcases (show w = 0 ∨ w = 1 ∨ w = 2 ∨ w = 3 ∨ w = 4 ∨ w = 5 ∨ w = 6 ∨ w = 7 ∨ w = 8 ∨ w = 9 ∨ w = 10 ∨ w = 11 by omega) with rfl | rfl | rfl | rfl | rfl | rfl | rfl | rfl | rfl | rfl | rfl | rfl
  · refine lv_aload_n hxe hcd dX9_faultOfCommand_0 rfl (lv_at hl 0 rfl) ?_
    refine gf_X9_50 S hW dX9_faultOfCommand_1 ?_
    refine lv_iload_n hxe hcd dX9_faultOfCommand_4 rfl (lv_at hl 2 rfl) ?_
    refine lv_iconst (v := (nI 0)) hxe hcd dX9_faultOfCommand_5 (by decide) ?_
    refine r_calli0 (r_runV hZ S hW (As := [.int (nI jc), .int (nI 0)]) (rest := []) (t_X1_numberAt l hZ A g μ s.heap.size (j := jc) (i := 0)) k_X9_387 (r_recv hW (x := (0, 22)) (in_r (by decide) (by decide)) rfl rfl) (hl.1) rfl rfl (Nat.le_of_ble_eq_true rfl) ⟨Nat.le_of_ble_eq_true rfl, Nat.le_of_ble_eq_true rfl⟩ ⟨Nat.le_of_ble_eq_true rfl, Nat.le_of_ble_eq_true rfl⟩ dX9_faultOfCommand_6) hW (fun r6 H locs hp6 hW => ?_)
    have hp6 := hp6.symm
    subst hp6
    refine r_as (y := (nI a1)) (by rw [rd_in (n := 48) (k := jc * 4 + 0) _ (by omega) (by decide), hC2]) ?_
    refine lv_istore_n (lv' := [(3, .int (nI a1)), (0, .ref (A (0, 14))), (1, .ref (A (b0, 0))), (2, .int (nI jc))]) hxe hcd dX9_faultOfCommand_9 rfl hl (by decide) rfl (fun ls hl => ?_)
    refine lv_aload_n hxe hcd dX9_faultOfCommand_10 rfl (lv_at hl 1 rfl) ?_
    refine gf_X9_50 S hW dX9_faultOfCommand_11 ?_
    refine lv_iload_n hxe hcd dX9_faultOfCommand_14 rfl (lv_at hl 3 rfl) ?_
    refine lv_iconst (v := (nI 1)) hxe hcd dX9_faultOfCommand_15 (by decide) ?_
    refine r_calli0 (r_runV hZ S hW (As := [.int (nI jc), .int (nI 1)]) (rest := []) (t_X1_numberAt l hZ A g μ H.size (j := jc) (i := 1)) k_X9_387 (r_recv hW (x := (0, 22)) (in_r (by decide) (by decide)) rfl rfl) (hl.1) rfl rfl (Nat.le_of_ble_eq_true rfl) ⟨Nat.le_of_ble_eq_true rfl, Nat.le_of_ble_eq_true rfl⟩ ⟨Nat.le_of_ble_eq_true rfl, Nat.le_of_ble_eq_true rfl⟩ dX9_faultOfCommand_16) hW (fun r16 H locs hp16 hW => ?_)
    have hp16 := hp16.symm
    subst hp16
    refine lv_istore (lv' := [(4, .int (rd 48 (μ 0 25) (nI (jc * 4 + 1)))), (3, .int (nI a1)), (0, .ref (A (0, 14))), (1, .ref (A (b0, 0))), (2, .int (nI jc))]) hxe hcd dX9_faultOfCommand_19 hl (by decide) rfl (fun ls hl => ?_)
    refine lv_aload_n hxe hcd dX9_faultOfCommand_21 rfl (lv_at hl 2 rfl) ?_
    refine gf_X9_50 S hW dX9_faultOfCommand_22 ?_
    refine lv_iload_n hxe hcd dX9_faultOfCommand_25 rfl (lv_at hl 4 rfl) ?_
    refine r_calli0 (r_runV hZ S hW (As := [.int (nI jc)]) (rest := []) (t_X1_signAt l hZ A g μ H.size (nI jc)) k_X9_390 (r_recv hW (x := (0, 22)) (in_r (by decide) (by decide)) rfl rfl) (hl.1) rfl rfl (Nat.le_of_ble_eq_true rfl) ⟨Nat.le_of_ble_eq_true rfl, Nat.le_of_ble_eq_true rfl⟩ ⟨Nat.le_of_ble_eq_true rfl, Nat.le_of_ble_eq_true rfl⟩ dX9_faultOfCommand_26) hW (fun r26 H locs hp26 hW => ?_)
    have hp26 := hp26.symm
    subst hp26
    refine r_as (y := (nI 103)) (by rw [rd_in (n := 12) (k := jc) _ hjc (by decide), hC1]; decide) ?_
    refine lv_tableOut (tgt := 194) hxe hcd dX9_faultOfCommand_29 (Or.inr (by decide)) (by decide) ?_
    refine lv_aload_n hxe hcd dX9_faultOfCommand_194 rfl (lv_at hl 3 rfl) ?_
    refine gf_X9_72 S hW hb0 dX9_faultOfCommand_195 ?_
    refine lv_aload_n hxe hcd dX9_faultOfCommand_198 rfl (lv_at hl 2 rfl) ?_
    refine gf_X9_50 S hW dX9_faultOfCommand_199 ?_
    refine lv_iload_n hxe hcd dX9_faultOfCommand_202 rfl (lv_at hl 4 rfl) ?_
    refine r_calli0 (r_runV hZ S hW (As := [.int (nI jc)]) (rest := [.ref (A (b0, 1))]) (t_X1_signAt l hZ A g μ H.size (nI jc)) k_X9_390 (r_recv hW (x := (0, 22)) (in_r (by decide) (by decide)) rfl rfl) (hl.1) rfl rfl (Nat.le_of_ble_eq_true rfl) ⟨Nat.le_of_ble_eq_true rfl, Nat.le_of_ble_eq_true rfl⟩ ⟨Nat.le_of_ble_eq_true rfl, Nat.le_of_ble_eq_true rfl⟩ dX9_faultOfCommand_203) hW (fun r203 H locs hp203 hW => ?_)
    have hp203 := hp203.symm
    subst hp203
    refine r_as (y := (nI 103)) (by rw [rd_in (n := 12) (k := jc) _ hjc (by decide), hC1]; decide) ?_
    refine lv_iload_n hxe hcd dX9_faultOfCommand_206 rfl (lv_at hl 1 rfl) ?_
    refine r_calli0 (r_runV hZ S hW (As := [.int (nI 103), .int (nI a1)]) (rest := []) (t_X0_faultOfNewFilter l hZ A g μ H.size hb0 (nf := nfV v) (RP_c hR hVG) (hVG).1.2 (nI 103) (nI a1)) k_X9_76 (r_recv hW (x := (b0, 1)) (in_s hb0 (by decide)) rfl rfl) (hl.1) rfl rfl (Nat.le_of_ble_eq_true rfl) ⟨Nat.le_of_ble_eq_true rfl, Nat.le_of_ble_eq_true rfl⟩ ⟨Nat.le_of_ble_eq_true rfl, Nat.le_of_ble_eq_true rfl⟩ dX9_faultOfCommand_207) hW (fun r207 H locs hp207 hW => ?_)
    rcases hp207 with ⟨rfl, hk, h8⟩ | ⟨rfl, hk⟩ | ⟨rfl, hk, h8⟩
    · refine r_iret0 S hr hlk hW ?_ dX9_faultOfCommand_210
      refine Or.inl ⟨rfl, ?_⟩
      rw [exV_0 (w := 0) (by decide), if_pos (show KP (nI (WD (WA 0))) (nI a1) ∧ nfV v < 8 from ⟨hk, h8⟩)]
      exact Option.some_ne_none _
    · refine r_iret0 S hr hlk hW ?_ dX9_faultOfCommand_210
      refine Or.inr ⟨by decide, ?_⟩
      rw [exV_0 (w := 0) (by decide), if_neg (fun z => hk z.1)]
    · refine r_iret0 S hr hlk hW ?_ dX9_faultOfCommand_210
      refine Or.inr ⟨by decide, ?_⟩
      rw [exV_0 (w := 0) (by decide), if_neg (fun z => h8 z.2)]
  · refine lv_aload_n hxe hcd dX9_faultOfCommand_0 rfl (lv_at hl 0 rfl) ?_
    refine gf_X9_50 S hW dX9_faultOfCommand_1 ?_
    refine lv_iload_n hxe hcd dX9_faultOfCommand_4 rfl (lv_at hl 2 rfl) ?_
    refine lv_iconst (v := (nI 0)) hxe hcd dX9_faultOfCommand_5 (by decide) ?_
    refine r_calli0 (r_runV hZ S hW (As := [.int (nI jc), .int (nI 0)]) (rest := []) (t_X1_numberAt l hZ A g μ s.heap.size (j := jc) (i := 0)) k_X9_387 (r_recv hW (x := (0, 22)) (in_r (by decide) (by decide)) rfl rfl) (hl.1) rfl rfl (Nat.le_of_ble_eq_true rfl) ⟨Nat.le_of_ble_eq_true rfl, Nat.le_of_ble_eq_true rfl⟩ ⟨Nat.le_of_ble_eq_true rfl, Nat.le_of_ble_eq_true rfl⟩ dX9_faultOfCommand_6) hW (fun r6 H locs hp6 hW => ?_)
    have hp6 := hp6.symm
    subst hp6
    refine r_as (y := (nI a1)) (by rw [rd_in (n := 48) (k := jc * 4 + 0) _ (by omega) (by decide), hC2]) ?_
    refine lv_istore_n (lv' := [(3, .int (nI a1)), (0, .ref (A (0, 14))), (1, .ref (A (b0, 0))), (2, .int (nI jc))]) hxe hcd dX9_faultOfCommand_9 rfl hl (by decide) rfl (fun ls hl => ?_)
    refine lv_aload_n hxe hcd dX9_faultOfCommand_10 rfl (lv_at hl 1 rfl) ?_
    refine gf_X9_50 S hW dX9_faultOfCommand_11 ?_
    refine lv_iload_n hxe hcd dX9_faultOfCommand_14 rfl (lv_at hl 3 rfl) ?_
    refine lv_iconst (v := (nI 1)) hxe hcd dX9_faultOfCommand_15 (by decide) ?_
    refine r_calli0 (r_runV hZ S hW (As := [.int (nI jc), .int (nI 1)]) (rest := []) (t_X1_numberAt l hZ A g μ H.size (j := jc) (i := 1)) k_X9_387 (r_recv hW (x := (0, 22)) (in_r (by decide) (by decide)) rfl rfl) (hl.1) rfl rfl (Nat.le_of_ble_eq_true rfl) ⟨Nat.le_of_ble_eq_true rfl, Nat.le_of_ble_eq_true rfl⟩ ⟨Nat.le_of_ble_eq_true rfl, Nat.le_of_ble_eq_true rfl⟩ dX9_faultOfCommand_16) hW (fun r16 H locs hp16 hW => ?_)
    have hp16 := hp16.symm
    subst hp16
    refine lv_istore (lv' := [(4, .int (rd 48 (μ 0 25) (nI (jc * 4 + 1)))), (3, .int (nI a1)), (0, .ref (A (0, 14))), (1, .ref (A (b0, 0))), (2, .int (nI jc))]) hxe hcd dX9_faultOfCommand_19 hl (by decide) rfl (fun ls hl => ?_)
    refine lv_aload_n hxe hcd dX9_faultOfCommand_21 rfl (lv_at hl 2 rfl) ?_
    refine gf_X9_50 S hW dX9_faultOfCommand_22 ?_
    refine lv_iload_n hxe hcd dX9_faultOfCommand_25 rfl (lv_at hl 4 rfl) ?_
    refine r_calli0 (r_runV hZ S hW (As := [.int (nI jc)]) (rest := []) (t_X1_signAt l hZ A g μ H.size (nI jc)) k_X9_390 (r_recv hW (x := (0, 22)) (in_r (by decide) (by decide)) rfl rfl) (hl.1) rfl rfl (Nat.le_of_ble_eq_true rfl) ⟨Nat.le_of_ble_eq_true rfl, Nat.le_of_ble_eq_true rfl⟩ ⟨Nat.le_of_ble_eq_true rfl, Nat.le_of_ble_eq_true rfl⟩ dX9_faultOfCommand_26) hW (fun r26 H locs hp26 hW => ?_)
    have hp26 := hp26.symm
    subst hp26
    refine r_as (y := (nI 100)) (by rw [rd_in (n := 12) (k := jc) _ hjc (by decide), hC1]; decide) ?_
    refine lv_tableOut (tgt := 194) hxe hcd dX9_faultOfCommand_29 (Or.inr (by decide)) (by decide) ?_
    refine lv_aload_n hxe hcd dX9_faultOfCommand_194 rfl (lv_at hl 3 rfl) ?_
    refine gf_X9_72 S hW hb0 dX9_faultOfCommand_195 ?_
    refine lv_aload_n hxe hcd dX9_faultOfCommand_198 rfl (lv_at hl 2 rfl) ?_
    refine gf_X9_50 S hW dX9_faultOfCommand_199 ?_
    refine lv_iload_n hxe hcd dX9_faultOfCommand_202 rfl (lv_at hl 4 rfl) ?_
    refine r_calli0 (r_runV hZ S hW (As := [.int (nI jc)]) (rest := [.ref (A (b0, 1))]) (t_X1_signAt l hZ A g μ H.size (nI jc)) k_X9_390 (r_recv hW (x := (0, 22)) (in_r (by decide) (by decide)) rfl rfl) (hl.1) rfl rfl (Nat.le_of_ble_eq_true rfl) ⟨Nat.le_of_ble_eq_true rfl, Nat.le_of_ble_eq_true rfl⟩ ⟨Nat.le_of_ble_eq_true rfl, Nat.le_of_ble_eq_true rfl⟩ dX9_faultOfCommand_203) hW (fun r203 H locs hp203 hW => ?_)
    have hp203 := hp203.symm
    subst hp203
    refine r_as (y := (nI 100)) (by rw [rd_in (n := 12) (k := jc) _ hjc (by decide), hC1]; decide) ?_
    refine lv_iload_n hxe hcd dX9_faultOfCommand_206 rfl (lv_at hl 1 rfl) ?_
    refine r_calli0 (r_runV hZ S hW (As := [.int (nI 100), .int (nI a1)]) (rest := []) (t_X0_faultOfNewFilter l hZ A g μ H.size hb0 (nf := nfV v) (RP_c hR hVG) (hVG).1.2 (nI 100) (nI a1)) k_X9_76 (r_recv hW (x := (b0, 1)) (in_s hb0 (by decide)) rfl rfl) (hl.1) rfl rfl (Nat.le_of_ble_eq_true rfl) ⟨Nat.le_of_ble_eq_true rfl, Nat.le_of_ble_eq_true rfl⟩ ⟨Nat.le_of_ble_eq_true rfl, Nat.le_of_ble_eq_true rfl⟩ dX9_faultOfCommand_207) hW (fun r207 H locs hp207 hW => ?_)
    rcases hp207 with ⟨rfl, hk, h8⟩ | ⟨rfl, hk⟩ | ⟨rfl, hk, h8⟩
    · refine r_iret0 S hr hlk hW ?_ dX9_faultOfCommand_210
      refine Or.inl ⟨rfl, ?_⟩
      rw [exV_0 (w := 1) (by decide), if_pos (show KP (nI (WD (WA 1))) (nI a1) ∧ nfV v < 8 from ⟨hk, h8⟩)]
      exact Option.some_ne_none _
    · refine r_iret0 S hr hlk hW ?_ dX9_faultOfCommand_210
      refine Or.inr ⟨by decide, ?_⟩
      rw [exV_0 (w := 1) (by decide), if_neg (fun z => hk z.1)]
    · refine r_iret0 S hr hlk hW ?_ dX9_faultOfCommand_210
      refine Or.inr ⟨by decide, ?_⟩
      rw [exV_0 (w := 1) (by decide), if_neg (fun z => h8 z.2)]
  · refine lv_aload_n hxe hcd dX9_faultOfCommand_0 rfl (lv_at hl 0 rfl) ?_
    refine gf_X9_50 S hW dX9_faultOfCommand_1 ?_
    refine lv_iload_n hxe hcd dX9_faultOfCommand_4 rfl (lv_at hl 2 rfl) ?_
    refine lv_iconst (v := (nI 0)) hxe hcd dX9_faultOfCommand_5 (by decide) ?_
    refine r_calli0 (r_runV hZ S hW (As := [.int (nI jc), .int (nI 0)]) (rest := []) (t_X1_numberAt l hZ A g μ s.heap.size (j := jc) (i := 0)) k_X9_387 (r_recv hW (x := (0, 22)) (in_r (by decide) (by decide)) rfl rfl) (hl.1) rfl rfl (Nat.le_of_ble_eq_true rfl) ⟨Nat.le_of_ble_eq_true rfl, Nat.le_of_ble_eq_true rfl⟩ ⟨Nat.le_of_ble_eq_true rfl, Nat.le_of_ble_eq_true rfl⟩ dX9_faultOfCommand_6) hW (fun r6 H locs hp6 hW => ?_)
    have hp6 := hp6.symm
    subst hp6
    refine r_as (y := (nI a1)) (by rw [rd_in (n := 48) (k := jc * 4 + 0) _ (by omega) (by decide), hC2]) ?_
    refine lv_istore_n (lv' := [(3, .int (nI a1)), (0, .ref (A (0, 14))), (1, .ref (A (b0, 0))), (2, .int (nI jc))]) hxe hcd dX9_faultOfCommand_9 rfl hl (by decide) rfl (fun ls hl => ?_)
    refine lv_aload_n hxe hcd dX9_faultOfCommand_10 rfl (lv_at hl 1 rfl) ?_
    refine gf_X9_50 S hW dX9_faultOfCommand_11 ?_
    refine lv_iload_n hxe hcd dX9_faultOfCommand_14 rfl (lv_at hl 3 rfl) ?_
    refine lv_iconst (v := (nI 1)) hxe hcd dX9_faultOfCommand_15 (by decide) ?_
    refine r_calli0 (r_runV hZ S hW (As := [.int (nI jc), .int (nI 1)]) (rest := []) (t_X1_numberAt l hZ A g μ H.size (j := jc) (i := 1)) k_X9_387 (r_recv hW (x := (0, 22)) (in_r (by decide) (by decide)) rfl rfl) (hl.1) rfl rfl (Nat.le_of_ble_eq_true rfl) ⟨Nat.le_of_ble_eq_true rfl, Nat.le_of_ble_eq_true rfl⟩ ⟨Nat.le_of_ble_eq_true rfl, Nat.le_of_ble_eq_true rfl⟩ dX9_faultOfCommand_16) hW (fun r16 H locs hp16 hW => ?_)
    have hp16 := hp16.symm
    subst hp16
    refine lv_istore (lv' := [(4, .int (rd 48 (μ 0 25) (nI (jc * 4 + 1)))), (3, .int (nI a1)), (0, .ref (A (0, 14))), (1, .ref (A (b0, 0))), (2, .int (nI jc))]) hxe hcd dX9_faultOfCommand_19 hl (by decide) rfl (fun ls hl => ?_)
    refine lv_aload_n hxe hcd dX9_faultOfCommand_21 rfl (lv_at hl 2 rfl) ?_
    refine gf_X9_50 S hW dX9_faultOfCommand_22 ?_
    refine lv_iload_n hxe hcd dX9_faultOfCommand_25 rfl (lv_at hl 4 rfl) ?_
    refine r_calli0 (r_runV hZ S hW (As := [.int (nI jc)]) (rest := []) (t_X1_signAt l hZ A g μ H.size (nI jc)) k_X9_390 (r_recv hW (x := (0, 22)) (in_r (by decide) (by decide)) rfl rfl) (hl.1) rfl rfl (Nat.le_of_ble_eq_true rfl) ⟨Nat.le_of_ble_eq_true rfl, Nat.le_of_ble_eq_true rfl⟩ ⟨Nat.le_of_ble_eq_true rfl, Nat.le_of_ble_eq_true rfl⟩ dX9_faultOfCommand_26) hW (fun r26 H locs hp26 hW => ?_)
    have hp26 := hp26.symm
    subst hp26
    refine r_as (y := (nI 109)) (by rw [rd_in (n := 12) (k := jc) _ hjc (by decide), hC1]; decide) ?_
    refine lv_tableOut (tgt := 194) hxe hcd dX9_faultOfCommand_29 (Or.inr (by decide)) (by decide) ?_
    refine lv_aload_n hxe hcd dX9_faultOfCommand_194 rfl (lv_at hl 3 rfl) ?_
    refine gf_X9_72 S hW hb0 dX9_faultOfCommand_195 ?_
    refine lv_aload_n hxe hcd dX9_faultOfCommand_198 rfl (lv_at hl 2 rfl) ?_
    refine gf_X9_50 S hW dX9_faultOfCommand_199 ?_
    refine lv_iload_n hxe hcd dX9_faultOfCommand_202 rfl (lv_at hl 4 rfl) ?_
    refine r_calli0 (r_runV hZ S hW (As := [.int (nI jc)]) (rest := [.ref (A (b0, 1))]) (t_X1_signAt l hZ A g μ H.size (nI jc)) k_X9_390 (r_recv hW (x := (0, 22)) (in_r (by decide) (by decide)) rfl rfl) (hl.1) rfl rfl (Nat.le_of_ble_eq_true rfl) ⟨Nat.le_of_ble_eq_true rfl, Nat.le_of_ble_eq_true rfl⟩ ⟨Nat.le_of_ble_eq_true rfl, Nat.le_of_ble_eq_true rfl⟩ dX9_faultOfCommand_203) hW (fun r203 H locs hp203 hW => ?_)
    have hp203 := hp203.symm
    subst hp203
    refine r_as (y := (nI 109)) (by rw [rd_in (n := 12) (k := jc) _ hjc (by decide), hC1]; decide) ?_
    refine lv_iload_n hxe hcd dX9_faultOfCommand_206 rfl (lv_at hl 1 rfl) ?_
    refine r_calli0 (r_runV hZ S hW (As := [.int (nI 109), .int (nI a1)]) (rest := []) (t_X0_faultOfNewFilter l hZ A g μ H.size hb0 (nf := nfV v) (RP_c hR hVG) (hVG).1.2 (nI 109) (nI a1)) k_X9_76 (r_recv hW (x := (b0, 1)) (in_s hb0 (by decide)) rfl rfl) (hl.1) rfl rfl (Nat.le_of_ble_eq_true rfl) ⟨Nat.le_of_ble_eq_true rfl, Nat.le_of_ble_eq_true rfl⟩ ⟨Nat.le_of_ble_eq_true rfl, Nat.le_of_ble_eq_true rfl⟩ dX9_faultOfCommand_207) hW (fun r207 H locs hp207 hW => ?_)
    rcases hp207 with ⟨rfl, hk, h8⟩ | ⟨rfl, hk⟩ | ⟨rfl, hk, h8⟩
    · refine r_iret0 S hr hlk hW ?_ dX9_faultOfCommand_210
      refine Or.inl ⟨rfl, ?_⟩
      rw [exV_0 (w := 2) (by decide), if_pos (show KP (nI (WD (WA 2))) (nI a1) ∧ nfV v < 8 from ⟨hk, h8⟩)]
      exact Option.some_ne_none _
    · refine r_iret0 S hr hlk hW ?_ dX9_faultOfCommand_210
      refine Or.inr ⟨by decide, ?_⟩
      rw [exV_0 (w := 2) (by decide), if_neg (fun z => hk z.1)]
    · refine r_iret0 S hr hlk hW ?_ dX9_faultOfCommand_210
      refine Or.inr ⟨by decide, ?_⟩
      rw [exV_0 (w := 2) (by decide), if_neg (fun z => h8 z.2)]
  · refine lv_aload_n hxe hcd dX9_faultOfCommand_0 rfl (lv_at hl 0 rfl) ?_
    refine gf_X9_50 S hW dX9_faultOfCommand_1 ?_
    refine lv_iload_n hxe hcd dX9_faultOfCommand_4 rfl (lv_at hl 2 rfl) ?_
    refine lv_iconst (v := (nI 0)) hxe hcd dX9_faultOfCommand_5 (by decide) ?_
    refine r_calli0 (r_runV hZ S hW (As := [.int (nI jc), .int (nI 0)]) (rest := []) (t_X1_numberAt l hZ A g μ s.heap.size (j := jc) (i := 0)) k_X9_387 (r_recv hW (x := (0, 22)) (in_r (by decide) (by decide)) rfl rfl) (hl.1) rfl rfl (Nat.le_of_ble_eq_true rfl) ⟨Nat.le_of_ble_eq_true rfl, Nat.le_of_ble_eq_true rfl⟩ ⟨Nat.le_of_ble_eq_true rfl, Nat.le_of_ble_eq_true rfl⟩ dX9_faultOfCommand_6) hW (fun r6 H locs hp6 hW => ?_)
    have hp6 := hp6.symm
    subst hp6
    refine r_as (y := (nI a1)) (by rw [rd_in (n := 48) (k := jc * 4 + 0) _ (by omega) (by decide), hC2]) ?_
    refine lv_istore_n (lv' := [(3, .int (nI a1)), (0, .ref (A (0, 14))), (1, .ref (A (b0, 0))), (2, .int (nI jc))]) hxe hcd dX9_faultOfCommand_9 rfl hl (by decide) rfl (fun ls hl => ?_)
    refine lv_aload_n hxe hcd dX9_faultOfCommand_10 rfl (lv_at hl 1 rfl) ?_
    refine gf_X9_50 S hW dX9_faultOfCommand_11 ?_
    refine lv_iload_n hxe hcd dX9_faultOfCommand_14 rfl (lv_at hl 3 rfl) ?_
    refine lv_iconst (v := (nI 1)) hxe hcd dX9_faultOfCommand_15 (by decide) ?_
    refine r_calli0 (r_runV hZ S hW (As := [.int (nI jc), .int (nI 1)]) (rest := []) (t_X1_numberAt l hZ A g μ H.size (j := jc) (i := 1)) k_X9_387 (r_recv hW (x := (0, 22)) (in_r (by decide) (by decide)) rfl rfl) (hl.1) rfl rfl (Nat.le_of_ble_eq_true rfl) ⟨Nat.le_of_ble_eq_true rfl, Nat.le_of_ble_eq_true rfl⟩ ⟨Nat.le_of_ble_eq_true rfl, Nat.le_of_ble_eq_true rfl⟩ dX9_faultOfCommand_16) hW (fun r16 H locs hp16 hW => ?_)
    have hp16 := hp16.symm
    subst hp16
    refine lv_istore (lv' := [(4, .int (rd 48 (μ 0 25) (nI (jc * 4 + 1)))), (3, .int (nI a1)), (0, .ref (A (0, 14))), (1, .ref (A (b0, 0))), (2, .int (nI jc))]) hxe hcd dX9_faultOfCommand_19 hl (by decide) rfl (fun ls hl => ?_)
    refine lv_aload_n hxe hcd dX9_faultOfCommand_21 rfl (lv_at hl 2 rfl) ?_
    refine gf_X9_50 S hW dX9_faultOfCommand_22 ?_
    refine lv_iload_n hxe hcd dX9_faultOfCommand_25 rfl (lv_at hl 4 rfl) ?_
    refine r_calli0 (r_runV hZ S hW (As := [.int (nI jc)]) (rest := []) (t_X1_signAt l hZ A g μ H.size (nI jc)) k_X9_390 (r_recv hW (x := (0, 22)) (in_r (by decide) (by decide)) rfl rfl) (hl.1) rfl rfl (Nat.le_of_ble_eq_true rfl) ⟨Nat.le_of_ble_eq_true rfl, Nat.le_of_ble_eq_true rfl⟩ ⟨Nat.le_of_ble_eq_true rfl, Nat.le_of_ble_eq_true rfl⟩ dX9_faultOfCommand_26) hW (fun r26 H locs hp26 hW => ?_)
    have hp26 := hp26.symm
    subst hp26
    refine r_as (y := (nI 99)) (by rw [rd_in (n := 12) (k := jc) _ hjc (by decide), hC1]; decide) ?_
    refine lv_tableOut (tgt := 194) hxe hcd dX9_faultOfCommand_29 (Or.inr (by decide)) (by decide) ?_
    refine lv_aload_n hxe hcd dX9_faultOfCommand_194 rfl (lv_at hl 3 rfl) ?_
    refine gf_X9_72 S hW hb0 dX9_faultOfCommand_195 ?_
    refine lv_aload_n hxe hcd dX9_faultOfCommand_198 rfl (lv_at hl 2 rfl) ?_
    refine gf_X9_50 S hW dX9_faultOfCommand_199 ?_
    refine lv_iload_n hxe hcd dX9_faultOfCommand_202 rfl (lv_at hl 4 rfl) ?_
    refine r_calli0 (r_runV hZ S hW (As := [.int (nI jc)]) (rest := [.ref (A (b0, 1))]) (t_X1_signAt l hZ A g μ H.size (nI jc)) k_X9_390 (r_recv hW (x := (0, 22)) (in_r (by decide) (by decide)) rfl rfl) (hl.1) rfl rfl (Nat.le_of_ble_eq_true rfl) ⟨Nat.le_of_ble_eq_true rfl, Nat.le_of_ble_eq_true rfl⟩ ⟨Nat.le_of_ble_eq_true rfl, Nat.le_of_ble_eq_true rfl⟩ dX9_faultOfCommand_203) hW (fun r203 H locs hp203 hW => ?_)
    have hp203 := hp203.symm
    subst hp203
    refine r_as (y := (nI 99)) (by rw [rd_in (n := 12) (k := jc) _ hjc (by decide), hC1]; decide) ?_
    refine lv_iload_n hxe hcd dX9_faultOfCommand_206 rfl (lv_at hl 1 rfl) ?_
    refine r_calli0 (r_runV hZ S hW (As := [.int (nI 99), .int (nI a1)]) (rest := []) (t_X0_faultOfNewFilter l hZ A g μ H.size hb0 (nf := nfV v) (RP_c hR hVG) (hVG).1.2 (nI 99) (nI a1)) k_X9_76 (r_recv hW (x := (b0, 1)) (in_s hb0 (by decide)) rfl rfl) (hl.1) rfl rfl (Nat.le_of_ble_eq_true rfl) ⟨Nat.le_of_ble_eq_true rfl, Nat.le_of_ble_eq_true rfl⟩ ⟨Nat.le_of_ble_eq_true rfl, Nat.le_of_ble_eq_true rfl⟩ dX9_faultOfCommand_207) hW (fun r207 H locs hp207 hW => ?_)
    rcases hp207 with ⟨rfl, hk, h8⟩ | ⟨rfl, hk⟩ | ⟨rfl, hk, h8⟩
    · refine r_iret0 S hr hlk hW ?_ dX9_faultOfCommand_210
      refine Or.inl ⟨rfl, ?_⟩
      rw [exV_0 (w := 3) (by decide), if_pos (show KP (nI (WD (WA 3))) (nI a1) ∧ nfV v < 8 from ⟨hk, h8⟩)]
      exact Option.some_ne_none _
    · refine r_iret0 S hr hlk hW ?_ dX9_faultOfCommand_210
      refine Or.inr ⟨by decide, ?_⟩
      rw [exV_0 (w := 3) (by decide), if_neg (fun z => hk z.1)]
    · refine r_iret0 S hr hlk hW ?_ dX9_faultOfCommand_210
      refine Or.inr ⟨by decide, ?_⟩
      rw [exV_0 (w := 3) (by decide), if_neg (fun z => h8 z.2)]
  · refine lv_aload_n hxe hcd dX9_faultOfCommand_0 rfl (lv_at hl 0 rfl) ?_
    refine gf_X9_50 S hW dX9_faultOfCommand_1 ?_
    refine lv_iload_n hxe hcd dX9_faultOfCommand_4 rfl (lv_at hl 2 rfl) ?_
    refine lv_iconst (v := (nI 0)) hxe hcd dX9_faultOfCommand_5 (by decide) ?_
    refine r_calli0 (r_runV hZ S hW (As := [.int (nI jc), .int (nI 0)]) (rest := []) (t_X1_numberAt l hZ A g μ s.heap.size (j := jc) (i := 0)) k_X9_387 (r_recv hW (x := (0, 22)) (in_r (by decide) (by decide)) rfl rfl) (hl.1) rfl rfl (Nat.le_of_ble_eq_true rfl) ⟨Nat.le_of_ble_eq_true rfl, Nat.le_of_ble_eq_true rfl⟩ ⟨Nat.le_of_ble_eq_true rfl, Nat.le_of_ble_eq_true rfl⟩ dX9_faultOfCommand_6) hW (fun r6 H locs hp6 hW => ?_)
    have hp6 := hp6.symm
    subst hp6
    refine r_as (y := (nI a1)) (by rw [rd_in (n := 48) (k := jc * 4 + 0) _ (by omega) (by decide), hC2]) ?_
    refine lv_istore_n (lv' := [(3, .int (nI a1)), (0, .ref (A (0, 14))), (1, .ref (A (b0, 0))), (2, .int (nI jc))]) hxe hcd dX9_faultOfCommand_9 rfl hl (by decide) rfl (fun ls hl => ?_)
    refine lv_aload_n hxe hcd dX9_faultOfCommand_10 rfl (lv_at hl 1 rfl) ?_
    refine gf_X9_50 S hW dX9_faultOfCommand_11 ?_
    refine lv_iload_n hxe hcd dX9_faultOfCommand_14 rfl (lv_at hl 3 rfl) ?_
    refine lv_iconst (v := (nI 1)) hxe hcd dX9_faultOfCommand_15 (by decide) ?_
    refine r_calli0 (r_runV hZ S hW (As := [.int (nI jc), .int (nI 1)]) (rest := []) (t_X1_numberAt l hZ A g μ H.size (j := jc) (i := 1)) k_X9_387 (r_recv hW (x := (0, 22)) (in_r (by decide) (by decide)) rfl rfl) (hl.1) rfl rfl (Nat.le_of_ble_eq_true rfl) ⟨Nat.le_of_ble_eq_true rfl, Nat.le_of_ble_eq_true rfl⟩ ⟨Nat.le_of_ble_eq_true rfl, Nat.le_of_ble_eq_true rfl⟩ dX9_faultOfCommand_16) hW (fun r16 H locs hp16 hW => ?_)
    have hp16 := hp16.symm
    subst hp16
    refine lv_istore (lv' := [(4, .int (rd 48 (μ 0 25) (nI (jc * 4 + 1)))), (3, .int (nI a1)), (0, .ref (A (0, 14))), (1, .ref (A (b0, 0))), (2, .int (nI jc))]) hxe hcd dX9_faultOfCommand_19 hl (by decide) rfl (fun ls hl => ?_)
    refine lv_aload_n hxe hcd dX9_faultOfCommand_21 rfl (lv_at hl 2 rfl) ?_
    refine gf_X9_50 S hW dX9_faultOfCommand_22 ?_
    refine lv_iload_n hxe hcd dX9_faultOfCommand_25 rfl (lv_at hl 4 rfl) ?_
    refine r_calli0 (r_runV hZ S hW (As := [.int (nI jc)]) (rest := []) (t_X1_signAt l hZ A g μ H.size (nI jc)) k_X9_390 (r_recv hW (x := (0, 22)) (in_r (by decide) (by decide)) rfl rfl) (hl.1) rfl rfl (Nat.le_of_ble_eq_true rfl) ⟨Nat.le_of_ble_eq_true rfl, Nat.le_of_ble_eq_true rfl⟩ ⟨Nat.le_of_ble_eq_true rfl, Nat.le_of_ble_eq_true rfl⟩ dX9_faultOfCommand_26) hW (fun r26 H locs hp26 hW => ?_)
    have hp26 := hp26.symm
    subst hp26
    refine r_as (y := (nI 102)) (by rw [rd_in (n := 12) (k := jc) _ hjc (by decide), hC1]; decide) ?_
    refine lv_tableOut (tgt := 194) hxe hcd dX9_faultOfCommand_29 (Or.inr (by decide)) (by decide) ?_
    refine lv_aload_n hxe hcd dX9_faultOfCommand_194 rfl (lv_at hl 3 rfl) ?_
    refine gf_X9_72 S hW hb0 dX9_faultOfCommand_195 ?_
    refine lv_aload_n hxe hcd dX9_faultOfCommand_198 rfl (lv_at hl 2 rfl) ?_
    refine gf_X9_50 S hW dX9_faultOfCommand_199 ?_
    refine lv_iload_n hxe hcd dX9_faultOfCommand_202 rfl (lv_at hl 4 rfl) ?_
    refine r_calli0 (r_runV hZ S hW (As := [.int (nI jc)]) (rest := [.ref (A (b0, 1))]) (t_X1_signAt l hZ A g μ H.size (nI jc)) k_X9_390 (r_recv hW (x := (0, 22)) (in_r (by decide) (by decide)) rfl rfl) (hl.1) rfl rfl (Nat.le_of_ble_eq_true rfl) ⟨Nat.le_of_ble_eq_true rfl, Nat.le_of_ble_eq_true rfl⟩ ⟨Nat.le_of_ble_eq_true rfl, Nat.le_of_ble_eq_true rfl⟩ dX9_faultOfCommand_203) hW (fun r203 H locs hp203 hW => ?_)
    have hp203 := hp203.symm
    subst hp203
    refine r_as (y := (nI 102)) (by rw [rd_in (n := 12) (k := jc) _ hjc (by decide), hC1]; decide) ?_
    refine lv_iload_n hxe hcd dX9_faultOfCommand_206 rfl (lv_at hl 1 rfl) ?_
    refine r_calli0 (r_runV hZ S hW (As := [.int (nI 102), .int (nI a1)]) (rest := []) (t_X0_faultOfNewFilter l hZ A g μ H.size hb0 (nf := nfV v) (RP_c hR hVG) (hVG).1.2 (nI 102) (nI a1)) k_X9_76 (r_recv hW (x := (b0, 1)) (in_s hb0 (by decide)) rfl rfl) (hl.1) rfl rfl (Nat.le_of_ble_eq_true rfl) ⟨Nat.le_of_ble_eq_true rfl, Nat.le_of_ble_eq_true rfl⟩ ⟨Nat.le_of_ble_eq_true rfl, Nat.le_of_ble_eq_true rfl⟩ dX9_faultOfCommand_207) hW (fun r207 H locs hp207 hW => ?_)
    rcases hp207 with ⟨rfl, hk, h8⟩ | ⟨rfl, hk⟩ | ⟨rfl, hk, h8⟩
    · refine r_iret0 S hr hlk hW ?_ dX9_faultOfCommand_210
      refine Or.inl ⟨rfl, ?_⟩
      rw [exV_0 (w := 4) (by decide), if_pos (show KP (nI (WD (WA 4))) (nI a1) ∧ nfV v < 8 from ⟨hk, h8⟩)]
      exact Option.some_ne_none _
    · refine r_iret0 S hr hlk hW ?_ dX9_faultOfCommand_210
      refine Or.inr ⟨by decide, ?_⟩
      rw [exV_0 (w := 4) (by decide), if_neg (fun z => hk z.1)]
    · refine r_iret0 S hr hlk hW ?_ dX9_faultOfCommand_210
      refine Or.inr ⟨by decide, ?_⟩
      rw [exV_0 (w := 4) (by decide), if_neg (fun z => h8 z.2)]
  · refine lv_aload_n hxe hcd dX9_faultOfCommand_0 rfl (lv_at hl 0 rfl) ?_
    refine gf_X9_50 S hW dX9_faultOfCommand_1 ?_
    refine lv_iload_n hxe hcd dX9_faultOfCommand_4 rfl (lv_at hl 2 rfl) ?_
    refine lv_iconst (v := (nI 0)) hxe hcd dX9_faultOfCommand_5 (by decide) ?_
    refine r_calli0 (r_runV hZ S hW (As := [.int (nI jc), .int (nI 0)]) (rest := []) (t_X1_numberAt l hZ A g μ s.heap.size (j := jc) (i := 0)) k_X9_387 (r_recv hW (x := (0, 22)) (in_r (by decide) (by decide)) rfl rfl) (hl.1) rfl rfl (Nat.le_of_ble_eq_true rfl) ⟨Nat.le_of_ble_eq_true rfl, Nat.le_of_ble_eq_true rfl⟩ ⟨Nat.le_of_ble_eq_true rfl, Nat.le_of_ble_eq_true rfl⟩ dX9_faultOfCommand_6) hW (fun r6 H locs hp6 hW => ?_)
    have hp6 := hp6.symm
    subst hp6
    refine r_as (y := (nI a1)) (by rw [rd_in (n := 48) (k := jc * 4 + 0) _ (by omega) (by decide), hC2]) ?_
    refine lv_istore_n (lv' := [(3, .int (nI a1)), (0, .ref (A (0, 14))), (1, .ref (A (b0, 0))), (2, .int (nI jc))]) hxe hcd dX9_faultOfCommand_9 rfl hl (by decide) rfl (fun ls hl => ?_)
    refine lv_aload_n hxe hcd dX9_faultOfCommand_10 rfl (lv_at hl 1 rfl) ?_
    refine gf_X9_50 S hW dX9_faultOfCommand_11 ?_
    refine lv_iload_n hxe hcd dX9_faultOfCommand_14 rfl (lv_at hl 3 rfl) ?_
    refine lv_iconst (v := (nI 1)) hxe hcd dX9_faultOfCommand_15 (by decide) ?_
    refine r_calli0 (r_runV hZ S hW (As := [.int (nI jc), .int (nI 1)]) (rest := []) (t_X1_numberAt l hZ A g μ H.size (j := jc) (i := 1)) k_X9_387 (r_recv hW (x := (0, 22)) (in_r (by decide) (by decide)) rfl rfl) (hl.1) rfl rfl (Nat.le_of_ble_eq_true rfl) ⟨Nat.le_of_ble_eq_true rfl, Nat.le_of_ble_eq_true rfl⟩ ⟨Nat.le_of_ble_eq_true rfl, Nat.le_of_ble_eq_true rfl⟩ dX9_faultOfCommand_16) hW (fun r16 H locs hp16 hW => ?_)
    have hp16 := hp16.symm
    subst hp16
    refine lv_istore (lv' := [(4, .int (rd 48 (μ 0 25) (nI (jc * 4 + 1)))), (3, .int (nI a1)), (0, .ref (A (0, 14))), (1, .ref (A (b0, 0))), (2, .int (nI jc))]) hxe hcd dX9_faultOfCommand_19 hl (by decide) rfl (fun ls hl => ?_)
    refine lv_aload_n hxe hcd dX9_faultOfCommand_21 rfl (lv_at hl 2 rfl) ?_
    refine gf_X9_50 S hW dX9_faultOfCommand_22 ?_
    refine lv_iload_n hxe hcd dX9_faultOfCommand_25 rfl (lv_at hl 4 rfl) ?_
    refine r_calli0 (r_runV hZ S hW (As := [.int (nI jc)]) (rest := []) (t_X1_signAt l hZ A g μ H.size (nI jc)) k_X9_390 (r_recv hW (x := (0, 22)) (in_r (by decide) (by decide)) rfl rfl) (hl.1) rfl rfl (Nat.le_of_ble_eq_true rfl) ⟨Nat.le_of_ble_eq_true rfl, Nat.le_of_ble_eq_true rfl⟩ ⟨Nat.le_of_ble_eq_true rfl, Nat.le_of_ble_eq_true rfl⟩ dX9_faultOfCommand_26) hW (fun r26 H locs hp26 hW => ?_)
    have hp26 := hp26.symm
    subst hp26
    refine r_as (y := (nI 115)) (by rw [rd_in (n := 12) (k := jc) _ hjc (by decide), hC1]; decide) ?_
    refine lv_tableOut (tgt := 194) hxe hcd dX9_faultOfCommand_29 (Or.inr (by decide)) (by decide) ?_
    refine lv_aload_n hxe hcd dX9_faultOfCommand_194 rfl (lv_at hl 3 rfl) ?_
    refine gf_X9_72 S hW hb0 dX9_faultOfCommand_195 ?_
    refine lv_aload_n hxe hcd dX9_faultOfCommand_198 rfl (lv_at hl 2 rfl) ?_
    refine gf_X9_50 S hW dX9_faultOfCommand_199 ?_
    refine lv_iload_n hxe hcd dX9_faultOfCommand_202 rfl (lv_at hl 4 rfl) ?_
    refine r_calli0 (r_runV hZ S hW (As := [.int (nI jc)]) (rest := [.ref (A (b0, 1))]) (t_X1_signAt l hZ A g μ H.size (nI jc)) k_X9_390 (r_recv hW (x := (0, 22)) (in_r (by decide) (by decide)) rfl rfl) (hl.1) rfl rfl (Nat.le_of_ble_eq_true rfl) ⟨Nat.le_of_ble_eq_true rfl, Nat.le_of_ble_eq_true rfl⟩ ⟨Nat.le_of_ble_eq_true rfl, Nat.le_of_ble_eq_true rfl⟩ dX9_faultOfCommand_203) hW (fun r203 H locs hp203 hW => ?_)
    have hp203 := hp203.symm
    subst hp203
    refine r_as (y := (nI 115)) (by rw [rd_in (n := 12) (k := jc) _ hjc (by decide), hC1]; decide) ?_
    refine lv_iload_n hxe hcd dX9_faultOfCommand_206 rfl (lv_at hl 1 rfl) ?_
    refine r_calli0 (r_runV hZ S hW (As := [.int (nI 115), .int (nI a1)]) (rest := []) (t_X0_faultOfNewFilter l hZ A g μ H.size hb0 (nf := nfV v) (RP_c hR hVG) (hVG).1.2 (nI 115) (nI a1)) k_X9_76 (r_recv hW (x := (b0, 1)) (in_s hb0 (by decide)) rfl rfl) (hl.1) rfl rfl (Nat.le_of_ble_eq_true rfl) ⟨Nat.le_of_ble_eq_true rfl, Nat.le_of_ble_eq_true rfl⟩ ⟨Nat.le_of_ble_eq_true rfl, Nat.le_of_ble_eq_true rfl⟩ dX9_faultOfCommand_207) hW (fun r207 H locs hp207 hW => ?_)
    rcases hp207 with ⟨rfl, hk, h8⟩ | ⟨rfl, hk⟩ | ⟨rfl, hk, h8⟩
    · refine r_iret0 S hr hlk hW ?_ dX9_faultOfCommand_210
      refine Or.inl ⟨rfl, ?_⟩
      rw [exV_0 (w := 5) (by decide), if_pos (show KP (nI (WD (WA 5))) (nI a1) ∧ nfV v < 8 from ⟨hk, h8⟩)]
      exact Option.some_ne_none _
    · refine r_iret0 S hr hlk hW ?_ dX9_faultOfCommand_210
      refine Or.inr ⟨by decide, ?_⟩
      rw [exV_0 (w := 5) (by decide), if_neg (fun z => hk z.1)]
    · refine r_iret0 S hr hlk hW ?_ dX9_faultOfCommand_210
      refine Or.inr ⟨by decide, ?_⟩
      rw [exV_0 (w := 5) (by decide), if_neg (fun z => h8 z.2)]
  · refine lv_aload_n hxe hcd dX9_faultOfCommand_0 rfl (lv_at hl 0 rfl) ?_
    refine gf_X9_50 S hW dX9_faultOfCommand_1 ?_
    refine lv_iload_n hxe hcd dX9_faultOfCommand_4 rfl (lv_at hl 2 rfl) ?_
    refine lv_iconst (v := (nI 0)) hxe hcd dX9_faultOfCommand_5 (by decide) ?_
    refine r_calli0 (r_runV hZ S hW (As := [.int (nI jc), .int (nI 0)]) (rest := []) (t_X1_numberAt l hZ A g μ s.heap.size (j := jc) (i := 0)) k_X9_387 (r_recv hW (x := (0, 22)) (in_r (by decide) (by decide)) rfl rfl) (hl.1) rfl rfl (Nat.le_of_ble_eq_true rfl) ⟨Nat.le_of_ble_eq_true rfl, Nat.le_of_ble_eq_true rfl⟩ ⟨Nat.le_of_ble_eq_true rfl, Nat.le_of_ble_eq_true rfl⟩ dX9_faultOfCommand_6) hW (fun r6 H locs hp6 hW => ?_)
    have hp6 := hp6.symm
    subst hp6
    refine r_as (y := (nI a1)) (by rw [rd_in (n := 48) (k := jc * 4 + 0) _ (by omega) (by decide), hC2]) ?_
    refine lv_istore_n (lv' := [(3, .int (nI a1)), (0, .ref (A (0, 14))), (1, .ref (A (b0, 0))), (2, .int (nI jc))]) hxe hcd dX9_faultOfCommand_9 rfl hl (by decide) rfl (fun ls hl => ?_)
    refine lv_aload_n hxe hcd dX9_faultOfCommand_10 rfl (lv_at hl 1 rfl) ?_
    refine gf_X9_50 S hW dX9_faultOfCommand_11 ?_
    refine lv_iload_n hxe hcd dX9_faultOfCommand_14 rfl (lv_at hl 3 rfl) ?_
    refine lv_iconst (v := (nI 1)) hxe hcd dX9_faultOfCommand_15 (by decide) ?_
    refine r_calli0 (r_runV hZ S hW (As := [.int (nI jc), .int (nI 1)]) (rest := []) (t_X1_numberAt l hZ A g μ H.size (j := jc) (i := 1)) k_X9_387 (r_recv hW (x := (0, 22)) (in_r (by decide) (by decide)) rfl rfl) (hl.1) rfl rfl (Nat.le_of_ble_eq_true rfl) ⟨Nat.le_of_ble_eq_true rfl, Nat.le_of_ble_eq_true rfl⟩ ⟨Nat.le_of_ble_eq_true rfl, Nat.le_of_ble_eq_true rfl⟩ dX9_faultOfCommand_16) hW (fun r16 H locs hp16 hW => ?_)
    have hp16 := hp16.symm
    subst hp16
    refine lv_istore (lv' := [(4, .int (rd 48 (μ 0 25) (nI (jc * 4 + 1)))), (3, .int (nI a1)), (0, .ref (A (0, 14))), (1, .ref (A (b0, 0))), (2, .int (nI jc))]) hxe hcd dX9_faultOfCommand_19 hl (by decide) rfl (fun ls hl => ?_)
    refine lv_aload_n hxe hcd dX9_faultOfCommand_21 rfl (lv_at hl 2 rfl) ?_
    refine gf_X9_50 S hW dX9_faultOfCommand_22 ?_
    refine lv_iload_n hxe hcd dX9_faultOfCommand_25 rfl (lv_at hl 4 rfl) ?_
    refine r_calli0 (r_runV hZ S hW (As := [.int (nI jc)]) (rest := []) (t_X1_signAt l hZ A g μ H.size (nI jc)) k_X9_390 (r_recv hW (x := (0, 22)) (in_r (by decide) (by decide)) rfl rfl) (hl.1) rfl rfl (Nat.le_of_ble_eq_true rfl) ⟨Nat.le_of_ble_eq_true rfl, Nat.le_of_ble_eq_true rfl⟩ ⟨Nat.le_of_ble_eq_true rfl, Nat.le_of_ble_eq_true rfl⟩ dX9_faultOfCommand_26) hW (fun r26 H locs hp26 hW => ?_)
    have hp26 := hp26.symm
    subst hp26
    refine r_as (y := (nI 82)) (by rw [rd_in (n := 12) (k := jc) _ hjc (by decide), hC1]; decide) ?_
    refine lv_tableIn (tgt := 116) hxe hcd dX9_faultOfCommand_29 (by decide) (by decide) (by first | rfl | decide) (by decide) ?_
    refine lv_aload_n hxe hcd dX9_faultOfCommand_116 rfl (lv_at hl 3 rfl) ?_
    refine gf_X9_72 S hW hb0 dX9_faultOfCommand_117 ?_
    refine lv_iload_n hxe hcd dX9_faultOfCommand_120 rfl (lv_at hl 1 rfl) ?_
    refine r_calli0 (r_runV hZ S hW (As := [.int (nI a1)]) (rest := []) (t_X0_faultOfPosition l hZ A g μ H.size hb0 (nf := nfV v) (RP_c hR hVG) (hVG).1.2 (nI a1)) k_X9_101 (r_recv hW (x := (b0, 1)) (in_s hb0 (by decide)) rfl rfl) (hl.1) rfl rfl (Nat.le_of_ble_eq_true rfl) ⟨Nat.le_of_ble_eq_true rfl, Nat.le_of_ble_eq_true rfl⟩ ⟨Nat.le_of_ble_eq_true rfl, Nat.le_of_ble_eq_true rfl⟩ dX9_faultOfCommand_121) hW (fun r121 H locs hp121 hW => ?_)
    rcases hp121 with ⟨rfl, hx121⟩ | ⟨rfl, hx121⟩
    · refine r_iret0 S hr hlk hW ?_ dX9_faultOfCommand_124
      refine Or.inl ⟨rfl, ?_⟩
      rw [exV_6, if_pos (((IX_nI (by omega) (by omega)).mp hx121))]
      exact Option.some_ne_none _
    · refine r_iret0 S hr hlk hW ?_ dX9_faultOfCommand_124
      refine Or.inr ⟨by decide, ?_⟩
      rw [exV_6, if_neg (fun z => hx121 ⟨a1, z, rfl⟩)]
  · refine lv_aload_n hxe hcd dX9_faultOfCommand_0 rfl (lv_at hl 0 rfl) ?_
    refine gf_X9_50 S hW dX9_faultOfCommand_1 ?_
    refine lv_iload_n hxe hcd dX9_faultOfCommand_4 rfl (lv_at hl 2 rfl) ?_
    refine lv_iconst (v := (nI 0)) hxe hcd dX9_faultOfCommand_5 (by decide) ?_
    refine r_calli0 (r_runV hZ S hW (As := [.int (nI jc), .int (nI 0)]) (rest := []) (t_X1_numberAt l hZ A g μ s.heap.size (j := jc) (i := 0)) k_X9_387 (r_recv hW (x := (0, 22)) (in_r (by decide) (by decide)) rfl rfl) (hl.1) rfl rfl (Nat.le_of_ble_eq_true rfl) ⟨Nat.le_of_ble_eq_true rfl, Nat.le_of_ble_eq_true rfl⟩ ⟨Nat.le_of_ble_eq_true rfl, Nat.le_of_ble_eq_true rfl⟩ dX9_faultOfCommand_6) hW (fun r6 H locs hp6 hW => ?_)
    have hp6 := hp6.symm
    subst hp6
    refine r_as (y := (nI a1)) (by rw [rd_in (n := 48) (k := jc * 4 + 0) _ (by omega) (by decide), hC2]) ?_
    refine lv_istore_n (lv' := [(3, .int (nI a1)), (0, .ref (A (0, 14))), (1, .ref (A (b0, 0))), (2, .int (nI jc))]) hxe hcd dX9_faultOfCommand_9 rfl hl (by decide) rfl (fun ls hl => ?_)
    refine lv_aload_n hxe hcd dX9_faultOfCommand_10 rfl (lv_at hl 1 rfl) ?_
    refine gf_X9_50 S hW dX9_faultOfCommand_11 ?_
    refine lv_iload_n hxe hcd dX9_faultOfCommand_14 rfl (lv_at hl 3 rfl) ?_
    refine lv_iconst (v := (nI 1)) hxe hcd dX9_faultOfCommand_15 (by decide) ?_
    refine r_calli0 (r_runV hZ S hW (As := [.int (nI jc), .int (nI 1)]) (rest := []) (t_X1_numberAt l hZ A g μ H.size (j := jc) (i := 1)) k_X9_387 (r_recv hW (x := (0, 22)) (in_r (by decide) (by decide)) rfl rfl) (hl.1) rfl rfl (Nat.le_of_ble_eq_true rfl) ⟨Nat.le_of_ble_eq_true rfl, Nat.le_of_ble_eq_true rfl⟩ ⟨Nat.le_of_ble_eq_true rfl, Nat.le_of_ble_eq_true rfl⟩ dX9_faultOfCommand_16) hW (fun r16 H locs hp16 hW => ?_)
    have hp16 := hp16.symm
    subst hp16
    refine r_as (y := (nI a2)) (by rw [rd_in (n := 48) (k := jc * 4 + 1) _ (by omega) (by decide), hC3 (by decide)]) ?_
    refine lv_istore (lv' := [(4, .int (nI a2)), (3, .int (nI a1)), (0, .ref (A (0, 14))), (1, .ref (A (b0, 0))), (2, .int (nI jc))]) hxe hcd dX9_faultOfCommand_19 hl (by decide) rfl (fun ls hl => ?_)
    refine lv_aload_n hxe hcd dX9_faultOfCommand_21 rfl (lv_at hl 2 rfl) ?_
    refine gf_X9_50 S hW dX9_faultOfCommand_22 ?_
    refine lv_iload_n hxe hcd dX9_faultOfCommand_25 rfl (lv_at hl 4 rfl) ?_
    refine r_calli0 (r_runV hZ S hW (As := [.int (nI jc)]) (rest := []) (t_X1_signAt l hZ A g μ H.size (nI jc)) k_X9_390 (r_recv hW (x := (0, 22)) (in_r (by decide) (by decide)) rfl rfl) (hl.1) rfl rfl (Nat.le_of_ble_eq_true rfl) ⟨Nat.le_of_ble_eq_true rfl, Nat.le_of_ble_eq_true rfl⟩ ⟨Nat.le_of_ble_eq_true rfl, Nat.le_of_ble_eq_true rfl⟩ dX9_faultOfCommand_26) hW (fun r26 H locs hp26 hW => ?_)
    have hp26 := hp26.symm
    subst hp26
    refine r_as (y := (nI 78)) (by rw [rd_in (n := 12) (k := jc) _ hjc (by decide), hC1]; decide) ?_
    refine lv_tableIn (tgt := 125) hxe hcd dX9_faultOfCommand_29 (by decide) (by decide) (by first | rfl | decide) (by decide) ?_
    refine lv_aload_n hxe hcd dX9_faultOfCommand_125 rfl (lv_at hl 3 rfl) ?_
    refine gf_X9_122 S hW hb0 dX9_faultOfCommand_126 ?_
    refine lv_iload_n hxe hcd dX9_faultOfCommand_129 rfl (lv_at hl 1 rfl) ?_
    refine lv_iload hxe hcd dX9_faultOfCommand_130 (lv_at hl 0 rfl) ?_
    refine lv_aload_n hxe hcd dX9_faultOfCommand_132 rfl (lv_at hl 2 rfl) ?_
    refine gf_X9_50 S hW dX9_faultOfCommand_133 ?_
    refine lv_iload_n hxe hcd dX9_faultOfCommand_136 rfl (lv_at hl 4 rfl) ?_
    refine lv_iconst (v := (nI 2)) hxe hcd dX9_faultOfCommand_137 (by decide) ?_
    refine r_calli0 (r_runV hZ S hW (As := [.int (nI jc), .int (nI 2)]) (rest := [.int (nI a2), .int (nI a1), .ref (A (b0, 4))]) (t_X1_numberAt l hZ A g μ H.size (j := jc) (i := 2)) k_X9_387 (r_recv hW (x := (0, 22)) (in_r (by decide) (by decide)) rfl rfl) (hl.1) rfl rfl (Nat.le_of_ble_eq_true rfl) ⟨Nat.le_of_ble_eq_true rfl, Nat.le_of_ble_eq_true rfl⟩ ⟨Nat.le_of_ble_eq_true rfl, Nat.le_of_ble_eq_true rfl⟩ dX9_faultOfCommand_138) hW (fun r138 H locs hp138 hW => ?_)
    have hp138 := hp138.symm
    subst hp138
    refine r_as (y := (nI a3)) (by rw [rd_in (n := 48) (k := jc * 4 + 2) _ (by omega) (by decide), (hC4 rfl).1]) ?_
    refine lv_aload_n hxe hcd dX9_faultOfCommand_141 rfl (lv_at hl 2 rfl) ?_
    refine gf_X9_50 S hW dX9_faultOfCommand_142 ?_
    refine lv_iload_n hxe hcd dX9_faultOfCommand_145 rfl (lv_at hl 4 rfl) ?_
    refine lv_iconst (v := (nI 3)) hxe hcd dX9_faultOfCommand_146 (by decide) ?_
    refine r_calli0 (r_runV hZ S hW (As := [.int (nI jc), .int (nI 3)]) (rest := [.int (nI a3), .int (nI a2), .int (nI a1), .ref (A (b0, 4))]) (t_X1_numberAt l hZ A g μ H.size (j := jc) (i := 3)) k_X9_387 (r_recv hW (x := (0, 22)) (in_r (by decide) (by decide)) rfl rfl) (hl.1) rfl rfl (Nat.le_of_ble_eq_true rfl) ⟨Nat.le_of_ble_eq_true rfl, Nat.le_of_ble_eq_true rfl⟩ ⟨Nat.le_of_ble_eq_true rfl, Nat.le_of_ble_eq_true rfl⟩ dX9_faultOfCommand_147) hW (fun r147 H locs hp147 hW => ?_)
    have hp147 := hp147.symm
    subst hp147
    refine r_as (y := (nI a4)) (by rw [rd_in (n := 48) (k := jc * 4 + 3) _ (by omega) (by decide), (hC4 rfl).2]) ?_
    refine r_calli0 (r_runV hZ S hW (As := [.int (nI a1), .int (nI a2), .int (nI a3), .int (nI a4)]) (rest := []) (t_X5_faultOfNewNote l hZ A g μ H.size hb0 (lnV v) (RP_aln hR hVG) (nI a1) (nI a2) (nI a3) (nI a4)) k_X9_126 (r_recv hW (x := (b0, 4)) (in_s hb0 (by decide)) rfl rfl) (hl.1) rfl rfl (Nat.le_of_ble_eq_true rfl) ⟨Nat.le_of_ble_eq_true rfl, Nat.le_of_ble_eq_true rfl⟩ ⟨Nat.le_of_ble_eq_true rfl, Nat.le_of_ble_eq_true rfl⟩ dX9_faultOfCommand_150) hW (fun r150 H locs hp150 hW => ?_)
    rcases hp150 with ⟨rfl, q, hq, hx, nv, k, hk1, hk2, hk, hfit⟩ | ⟨rfl, hx⟩ | ⟨rfl, hx, nv⟩ | ⟨rfl, q, hq, hx, nv, k, hk1, hk2, hk, hfit⟩
    · refine r_iret0 S hr hlk hW ?_ dX9_faultOfCommand_153
      have ea : a1 = q := (nI_eq (by omega) (by omega)).mp hx
      have ed : a4 = k := (nI_eq (by omega) (by omega)).mp hk
      refine Or.inl ⟨rfl, ?_⟩
      rw [exV_7, if_pos (⟨by omega, nv, by rw [ea, ed]; exact hfit⟩)]
      exact Option.some_ne_none _
    · refine r_iret0 S hr hlk hW ?_ dX9_faultOfCommand_153
      refine Or.inr ⟨by decide, ?_⟩
      rw [exV_7, if_neg (fun z => hx ⟨a1, z.1, rfl⟩)]
    · refine r_iret0 S hr hlk hW ?_ dX9_faultOfCommand_153
      refine Or.inr ⟨by decide, ?_⟩
      rw [exV_7, if_neg (fun z => nv z.2.1)]
    · refine r_iret0 S hr hlk hW ?_ dX9_faultOfCommand_153
      have ea : a1 = q := (nI_eq (by omega) (by omega)).mp hx
      have ed : a4 = k := (nI_eq (by omega) (by omega)).mp hk
      refine Or.inr ⟨by decide, ?_⟩
      rw [exV_7, if_neg (fun z => by have z3 := z.2.2; rw [ea, ed] at z3; exact hfit z3)]
  · refine lv_aload_n hxe hcd dX9_faultOfCommand_0 rfl (lv_at hl 0 rfl) ?_
    refine gf_X9_50 S hW dX9_faultOfCommand_1 ?_
    refine lv_iload_n hxe hcd dX9_faultOfCommand_4 rfl (lv_at hl 2 rfl) ?_
    refine lv_iconst (v := (nI 0)) hxe hcd dX9_faultOfCommand_5 (by decide) ?_
    refine r_calli0 (r_runV hZ S hW (As := [.int (nI jc), .int (nI 0)]) (rest := []) (t_X1_numberAt l hZ A g μ s.heap.size (j := jc) (i := 0)) k_X9_387 (r_recv hW (x := (0, 22)) (in_r (by decide) (by decide)) rfl rfl) (hl.1) rfl rfl (Nat.le_of_ble_eq_true rfl) ⟨Nat.le_of_ble_eq_true rfl, Nat.le_of_ble_eq_true rfl⟩ ⟨Nat.le_of_ble_eq_true rfl, Nat.le_of_ble_eq_true rfl⟩ dX9_faultOfCommand_6) hW (fun r6 H locs hp6 hW => ?_)
    have hp6 := hp6.symm
    subst hp6
    refine r_as (y := (nI a1)) (by rw [rd_in (n := 48) (k := jc * 4 + 0) _ (by omega) (by decide), hC2]) ?_
    refine lv_istore_n (lv' := [(3, .int (nI a1)), (0, .ref (A (0, 14))), (1, .ref (A (b0, 0))), (2, .int (nI jc))]) hxe hcd dX9_faultOfCommand_9 rfl hl (by decide) rfl (fun ls hl => ?_)
    refine lv_aload_n hxe hcd dX9_faultOfCommand_10 rfl (lv_at hl 1 rfl) ?_
    refine gf_X9_50 S hW dX9_faultOfCommand_11 ?_
    refine lv_iload_n hxe hcd dX9_faultOfCommand_14 rfl (lv_at hl 3 rfl) ?_
    refine lv_iconst (v := (nI 1)) hxe hcd dX9_faultOfCommand_15 (by decide) ?_
    refine r_calli0 (r_runV hZ S hW (As := [.int (nI jc), .int (nI 1)]) (rest := []) (t_X1_numberAt l hZ A g μ H.size (j := jc) (i := 1)) k_X9_387 (r_recv hW (x := (0, 22)) (in_r (by decide) (by decide)) rfl rfl) (hl.1) rfl rfl (Nat.le_of_ble_eq_true rfl) ⟨Nat.le_of_ble_eq_true rfl, Nat.le_of_ble_eq_true rfl⟩ ⟨Nat.le_of_ble_eq_true rfl, Nat.le_of_ble_eq_true rfl⟩ dX9_faultOfCommand_16) hW (fun r16 H locs hp16 hW => ?_)
    have hp16 := hp16.symm
    subst hp16
    refine lv_istore (lv' := [(4, .int (rd 48 (μ 0 25) (nI (jc * 4 + 1)))), (3, .int (nI a1)), (0, .ref (A (0, 14))), (1, .ref (A (b0, 0))), (2, .int (nI jc))]) hxe hcd dX9_faultOfCommand_19 hl (by decide) rfl (fun ls hl => ?_)
    refine lv_aload_n hxe hcd dX9_faultOfCommand_21 rfl (lv_at hl 2 rfl) ?_
    refine gf_X9_50 S hW dX9_faultOfCommand_22 ?_
    refine lv_iload_n hxe hcd dX9_faultOfCommand_25 rfl (lv_at hl 4 rfl) ?_
    refine r_calli0 (r_runV hZ S hW (As := [.int (nI jc)]) (rest := []) (t_X1_signAt l hZ A g μ H.size (nI jc)) k_X9_390 (r_recv hW (x := (0, 22)) (in_r (by decide) (by decide)) rfl rfl) (hl.1) rfl rfl (Nat.le_of_ble_eq_true rfl) ⟨Nat.le_of_ble_eq_true rfl, Nat.le_of_ble_eq_true rfl⟩ ⟨Nat.le_of_ble_eq_true rfl, Nat.le_of_ble_eq_true rfl⟩ dX9_faultOfCommand_26) hW (fun r26 H locs hp26 hW => ?_)
    have hp26 := hp26.symm
    subst hp26
    refine r_as (y := (nI 84)) (by rw [rd_in (n := 12) (k := jc) _ hjc (by decide), hC1]; decide) ?_
    refine lv_tableIn (tgt := 154) hxe hcd dX9_faultOfCommand_29 (by decide) (by decide) (by first | rfl | decide) (by decide) ?_
    refine lv_aload_n hxe hcd dX9_faultOfCommand_154 rfl (lv_at hl 3 rfl) ?_
    refine gf_X9_193 S hW hb0 dX9_faultOfCommand_155 ?_
    refine lv_iload_n hxe hcd dX9_faultOfCommand_158 rfl (lv_at hl 1 rfl) ?_
    refine r_calli0 (r_runV hZ S hW (As := [.int (nI a1)]) (rest := []) (t_X7_faultOfNewTank l hZ A g μ H.size (Or.inl hb0) (nt := ntV v) (RP_nt hR hVG) (hVG).2.1.2 (nI a1)) k_X9_196 (r_recv hW (x := (b0, 9)) (in_s hb0 (by decide)) rfl rfl) (hl.1) rfl rfl (Nat.le_of_ble_eq_true rfl) ⟨Nat.le_of_ble_eq_true rfl, Nat.le_of_ble_eq_true rfl⟩ ⟨Nat.le_of_ble_eq_true rfl, Nat.le_of_ble_eq_true rfl⟩ dX9_faultOfCommand_159) hW (fun r159 H locs hp159 hW => ?_)
    rcases hp159 with ⟨rfl, hx, h4⟩ | ⟨rfl, hx⟩ | ⟨rfl, hx, h4⟩
    · refine r_iret0 S hr hlk hW ?_ dX9_faultOfCommand_162
      refine Or.inl ⟨rfl, ?_⟩
      rw [exV_8, if_pos (⟨((nI_rn (by omega) (by decide) (by decide)).mp hx).1, ((nI_rn (by omega) (by decide) (by decide)).mp hx).2, h4⟩)]
      exact Option.some_ne_none _
    · refine r_iret0 S hr hlk hW ?_ dX9_faultOfCommand_162
      refine Or.inr ⟨by decide, ?_⟩
      rw [exV_8, if_neg (fun z => hx ((nI_rn (by omega) (by decide) (by decide)).mpr ⟨z.1, z.2.1⟩))]
    · refine r_iret0 S hr hlk hW ?_ dX9_faultOfCommand_162
      refine Or.inr ⟨by decide, ?_⟩
      rw [exV_8, if_neg (fun z => h4 z.2.2)]
  · refine lv_aload_n hxe hcd dX9_faultOfCommand_0 rfl (lv_at hl 0 rfl) ?_
    refine gf_X9_50 S hW dX9_faultOfCommand_1 ?_
    refine lv_iload_n hxe hcd dX9_faultOfCommand_4 rfl (lv_at hl 2 rfl) ?_
    refine lv_iconst (v := (nI 0)) hxe hcd dX9_faultOfCommand_5 (by decide) ?_
    refine r_calli0 (r_runV hZ S hW (As := [.int (nI jc), .int (nI 0)]) (rest := []) (t_X1_numberAt l hZ A g μ s.heap.size (j := jc) (i := 0)) k_X9_387 (r_recv hW (x := (0, 22)) (in_r (by decide) (by decide)) rfl rfl) (hl.1) rfl rfl (Nat.le_of_ble_eq_true rfl) ⟨Nat.le_of_ble_eq_true rfl, Nat.le_of_ble_eq_true rfl⟩ ⟨Nat.le_of_ble_eq_true rfl, Nat.le_of_ble_eq_true rfl⟩ dX9_faultOfCommand_6) hW (fun r6 H locs hp6 hW => ?_)
    have hp6 := hp6.symm
    subst hp6
    refine r_as (y := (nI a1)) (by rw [rd_in (n := 48) (k := jc * 4 + 0) _ (by omega) (by decide), hC2]) ?_
    refine lv_istore_n (lv' := [(3, .int (nI a1)), (0, .ref (A (0, 14))), (1, .ref (A (b0, 0))), (2, .int (nI jc))]) hxe hcd dX9_faultOfCommand_9 rfl hl (by decide) rfl (fun ls hl => ?_)
    refine lv_aload_n hxe hcd dX9_faultOfCommand_10 rfl (lv_at hl 1 rfl) ?_
    refine gf_X9_50 S hW dX9_faultOfCommand_11 ?_
    refine lv_iload_n hxe hcd dX9_faultOfCommand_14 rfl (lv_at hl 3 rfl) ?_
    refine lv_iconst (v := (nI 1)) hxe hcd dX9_faultOfCommand_15 (by decide) ?_
    refine r_calli0 (r_runV hZ S hW (As := [.int (nI jc), .int (nI 1)]) (rest := []) (t_X1_numberAt l hZ A g μ H.size (j := jc) (i := 1)) k_X9_387 (r_recv hW (x := (0, 22)) (in_r (by decide) (by decide)) rfl rfl) (hl.1) rfl rfl (Nat.le_of_ble_eq_true rfl) ⟨Nat.le_of_ble_eq_true rfl, Nat.le_of_ble_eq_true rfl⟩ ⟨Nat.le_of_ble_eq_true rfl, Nat.le_of_ble_eq_true rfl⟩ dX9_faultOfCommand_16) hW (fun r16 H locs hp16 hW => ?_)
    have hp16 := hp16.symm
    subst hp16
    refine r_as (y := (nI a2)) (by rw [rd_in (n := 48) (k := jc * 4 + 1) _ (by omega) (by decide), hC3 (by decide)]) ?_
    refine lv_istore (lv' := [(4, .int (nI a2)), (3, .int (nI a1)), (0, .ref (A (0, 14))), (1, .ref (A (b0, 0))), (2, .int (nI jc))]) hxe hcd dX9_faultOfCommand_19 hl (by decide) rfl (fun ls hl => ?_)
    refine lv_aload_n hxe hcd dX9_faultOfCommand_21 rfl (lv_at hl 2 rfl) ?_
    refine gf_X9_50 S hW dX9_faultOfCommand_22 ?_
    refine lv_iload_n hxe hcd dX9_faultOfCommand_25 rfl (lv_at hl 4 rfl) ?_
    refine r_calli0 (r_runV hZ S hW (As := [.int (nI jc)]) (rest := []) (t_X1_signAt l hZ A g μ H.size (nI jc)) k_X9_390 (r_recv hW (x := (0, 22)) (in_r (by decide) (by decide)) rfl rfl) (hl.1) rfl rfl (Nat.le_of_ble_eq_true rfl) ⟨Nat.le_of_ble_eq_true rfl, Nat.le_of_ble_eq_true rfl⟩ ⟨Nat.le_of_ble_eq_true rfl, Nat.le_of_ble_eq_true rfl⟩ dX9_faultOfCommand_26) hW (fun r26 H locs hp26 hW => ?_)
    have hp26 := hp26.symm
    subst hp26
    refine r_as (y := (nI 85)) (by rw [rd_in (n := 12) (k := jc) _ hjc (by decide), hC1]; decide) ?_
    refine lv_tableIn (tgt := 163) hxe hcd dX9_faultOfCommand_29 (by decide) (by decide) (by first | rfl | decide) (by decide) ?_
    refine lv_aload_n hxe hcd dX9_faultOfCommand_163 rfl (lv_at hl 3 rfl) ?_
    refine gf_X9_193 S hW hb0 dX9_faultOfCommand_164 ?_
    refine lv_iload_n hxe hcd dX9_faultOfCommand_167 rfl (lv_at hl 1 rfl) ?_
    refine lv_iload hxe hcd dX9_faultOfCommand_168 (lv_at hl 0 rfl) ?_
    refine r_calli0 (r_runV hZ S hW (As := [.int (nI a1), .int (nI a2)]) (rest := []) (t_X7_faultOfNewTuning l hZ A g μ H.size (Or.inl hb0) (nt := ntV v) (RP_nt hR hVG) (hVG).2.1.2 (nI a1) (nI a2)) k_X9_202 (r_recv hW (x := (b0, 9)) (in_s hb0 (by decide)) rfl rfl) (hl.1) rfl rfl (Nat.le_of_ble_eq_true rfl) ⟨Nat.le_of_ble_eq_true rfl, Nat.le_of_ble_eq_true rfl⟩ ⟨Nat.le_of_ble_eq_true rfl, Nat.le_of_ble_eq_true rfl⟩ dX9_faultOfCommand_170) hW (fun r170 H locs hp170 hW => ?_)
    rcases hp170 with ⟨rfl, hx, hy⟩ | ⟨rfl, hx⟩ | ⟨rfl, hx, hy⟩
    · refine r_iret0 S hr hlk hW ?_ dX9_faultOfCommand_173
      refine Or.inl ⟨rfl, ?_⟩
      rw [exV_9, if_pos (((IX_nI (by omega) (by omega)).mp hx))]
      exact Option.some_ne_none _
    · refine r_iret0 S hr hlk hW ?_ dX9_faultOfCommand_173
      refine Or.inr ⟨by decide, ?_⟩
      rw [exV_9, if_neg (fun z => hx ⟨a1, z, rfl⟩)]
    · refine r_iret0 S hr hlk hW ?_ dX9_faultOfCommand_173
      exact absurd ((nI_rn (by omega) (by decide) (by decide)).mpr ⟨Nat.zero_le _, by omega⟩) hy
  · refine lv_aload_n hxe hcd dX9_faultOfCommand_0 rfl (lv_at hl 0 rfl) ?_
    refine gf_X9_50 S hW dX9_faultOfCommand_1 ?_
    refine lv_iload_n hxe hcd dX9_faultOfCommand_4 rfl (lv_at hl 2 rfl) ?_
    refine lv_iconst (v := (nI 0)) hxe hcd dX9_faultOfCommand_5 (by decide) ?_
    refine r_calli0 (r_runV hZ S hW (As := [.int (nI jc), .int (nI 0)]) (rest := []) (t_X1_numberAt l hZ A g μ s.heap.size (j := jc) (i := 0)) k_X9_387 (r_recv hW (x := (0, 22)) (in_r (by decide) (by decide)) rfl rfl) (hl.1) rfl rfl (Nat.le_of_ble_eq_true rfl) ⟨Nat.le_of_ble_eq_true rfl, Nat.le_of_ble_eq_true rfl⟩ ⟨Nat.le_of_ble_eq_true rfl, Nat.le_of_ble_eq_true rfl⟩ dX9_faultOfCommand_6) hW (fun r6 H locs hp6 hW => ?_)
    have hp6 := hp6.symm
    subst hp6
    refine r_as (y := (nI a1)) (by rw [rd_in (n := 48) (k := jc * 4 + 0) _ (by omega) (by decide), hC2]) ?_
    refine lv_istore_n (lv' := [(3, .int (nI a1)), (0, .ref (A (0, 14))), (1, .ref (A (b0, 0))), (2, .int (nI jc))]) hxe hcd dX9_faultOfCommand_9 rfl hl (by decide) rfl (fun ls hl => ?_)
    refine lv_aload_n hxe hcd dX9_faultOfCommand_10 rfl (lv_at hl 1 rfl) ?_
    refine gf_X9_50 S hW dX9_faultOfCommand_11 ?_
    refine lv_iload_n hxe hcd dX9_faultOfCommand_14 rfl (lv_at hl 3 rfl) ?_
    refine lv_iconst (v := (nI 1)) hxe hcd dX9_faultOfCommand_15 (by decide) ?_
    refine r_calli0 (r_runV hZ S hW (As := [.int (nI jc), .int (nI 1)]) (rest := []) (t_X1_numberAt l hZ A g μ H.size (j := jc) (i := 1)) k_X9_387 (r_recv hW (x := (0, 22)) (in_r (by decide) (by decide)) rfl rfl) (hl.1) rfl rfl (Nat.le_of_ble_eq_true rfl) ⟨Nat.le_of_ble_eq_true rfl, Nat.le_of_ble_eq_true rfl⟩ ⟨Nat.le_of_ble_eq_true rfl, Nat.le_of_ble_eq_true rfl⟩ dX9_faultOfCommand_16) hW (fun r16 H locs hp16 hW => ?_)
    have hp16 := hp16.symm
    subst hp16
    refine lv_istore (lv' := [(4, .int (rd 48 (μ 0 25) (nI (jc * 4 + 1)))), (3, .int (nI a1)), (0, .ref (A (0, 14))), (1, .ref (A (b0, 0))), (2, .int (nI jc))]) hxe hcd dX9_faultOfCommand_19 hl (by decide) rfl (fun ls hl => ?_)
    refine lv_aload_n hxe hcd dX9_faultOfCommand_21 rfl (lv_at hl 2 rfl) ?_
    refine gf_X9_50 S hW dX9_faultOfCommand_22 ?_
    refine lv_iload_n hxe hcd dX9_faultOfCommand_25 rfl (lv_at hl 4 rfl) ?_
    refine r_calli0 (r_runV hZ S hW (As := [.int (nI jc)]) (rest := []) (t_X1_signAt l hZ A g μ H.size (nI jc)) k_X9_390 (r_recv hW (x := (0, 22)) (in_r (by decide) (by decide)) rfl rfl) (hl.1) rfl rfl (Nat.le_of_ble_eq_true rfl) ⟨Nat.le_of_ble_eq_true rfl, Nat.le_of_ble_eq_true rfl⟩ ⟨Nat.le_of_ble_eq_true rfl, Nat.le_of_ble_eq_true rfl⟩ dX9_faultOfCommand_26) hW (fun r26 H locs hp26 hW => ?_)
    have hp26 := hp26.symm
    subst hp26
    refine r_as (y := (nI 80)) (by rw [rd_in (n := 12) (k := jc) _ hjc (by decide), hC1]; decide) ?_
    refine lv_tableIn (tgt := 174) hxe hcd dX9_faultOfCommand_29 (by decide) (by decide) (by first | rfl | decide) (by decide) ?_
    refine lv_aload_n hxe hcd dX9_faultOfCommand_174 rfl (lv_at hl 3 rfl) ?_
    refine gf_X9_122 S hW hb0 dX9_faultOfCommand_175 ?_
    refine lv_iload_n hxe hcd dX9_faultOfCommand_178 rfl (lv_at hl 1 rfl) ?_
    refine r_calli0 (r_runV hZ S hW (As := [.int (nI a1)]) (rest := []) (t_X5_faultOfPlaying l hZ A g μ H.size hb0 (nnV v) (RP_ann hR hVG) (nI a1)) k_X9_135 (r_recv hW (x := (b0, 4)) (in_s hb0 (by decide)) rfl rfl) (hl.1) rfl rfl (Nat.le_of_ble_eq_true rfl) ⟨Nat.le_of_ble_eq_true rfl, Nat.le_of_ble_eq_true rfl⟩ ⟨Nat.le_of_ble_eq_true rfl, Nat.le_of_ble_eq_true rfl⟩ dX9_faultOfCommand_179) hW (fun r179 H locs hp179 hW => ?_)
    rcases hp179 with ⟨rfl, q, hq, hx, h0⟩ | ⟨rfl, hx⟩ | ⟨rfl, q, hq, hx, h0⟩
    · refine r_iret0 S hr hlk hW ?_ dX9_faultOfCommand_182
      have ea : a1 = q := (nI_eq (by omega) (by omega)).mp hx
      refine Or.inl ⟨rfl, ?_⟩
      rw [exV_10, if_pos (⟨by omega, by rw [ea]; exact h0⟩)]
      exact Option.some_ne_none _
    · refine r_iret0 S hr hlk hW ?_ dX9_faultOfCommand_182
      refine Or.inr ⟨by decide, ?_⟩
      rw [exV_10, if_neg (fun z => hx ⟨a1, z.1, rfl⟩)]
    · refine r_iret0 S hr hlk hW ?_ dX9_faultOfCommand_182
      have ea : a1 = q := (nI_eq (by omega) (by omega)).mp hx
      refine Or.inr ⟨by decide, ?_⟩
      rw [exV_10, if_neg (fun z => by have z2 := z.2; rw [ea] at z2; omega)]
  · refine lv_aload_n hxe hcd dX9_faultOfCommand_0 rfl (lv_at hl 0 rfl) ?_
    refine gf_X9_50 S hW dX9_faultOfCommand_1 ?_
    refine lv_iload_n hxe hcd dX9_faultOfCommand_4 rfl (lv_at hl 2 rfl) ?_
    refine lv_iconst (v := (nI 0)) hxe hcd dX9_faultOfCommand_5 (by decide) ?_
    refine r_calli0 (r_runV hZ S hW (As := [.int (nI jc), .int (nI 0)]) (rest := []) (t_X1_numberAt l hZ A g μ s.heap.size (j := jc) (i := 0)) k_X9_387 (r_recv hW (x := (0, 22)) (in_r (by decide) (by decide)) rfl rfl) (hl.1) rfl rfl (Nat.le_of_ble_eq_true rfl) ⟨Nat.le_of_ble_eq_true rfl, Nat.le_of_ble_eq_true rfl⟩ ⟨Nat.le_of_ble_eq_true rfl, Nat.le_of_ble_eq_true rfl⟩ dX9_faultOfCommand_6) hW (fun r6 H locs hp6 hW => ?_)
    have hp6 := hp6.symm
    subst hp6
    refine r_as (y := (nI a1)) (by rw [rd_in (n := 48) (k := jc * 4 + 0) _ (by omega) (by decide), hC2]) ?_
    refine lv_istore_n (lv' := [(3, .int (nI a1)), (0, .ref (A (0, 14))), (1, .ref (A (b0, 0))), (2, .int (nI jc))]) hxe hcd dX9_faultOfCommand_9 rfl hl (by decide) rfl (fun ls hl => ?_)
    refine lv_aload_n hxe hcd dX9_faultOfCommand_10 rfl (lv_at hl 1 rfl) ?_
    refine gf_X9_50 S hW dX9_faultOfCommand_11 ?_
    refine lv_iload_n hxe hcd dX9_faultOfCommand_14 rfl (lv_at hl 3 rfl) ?_
    refine lv_iconst (v := (nI 1)) hxe hcd dX9_faultOfCommand_15 (by decide) ?_
    refine r_calli0 (r_runV hZ S hW (As := [.int (nI jc), .int (nI 1)]) (rest := []) (t_X1_numberAt l hZ A g μ H.size (j := jc) (i := 1)) k_X9_387 (r_recv hW (x := (0, 22)) (in_r (by decide) (by decide)) rfl rfl) (hl.1) rfl rfl (Nat.le_of_ble_eq_true rfl) ⟨Nat.le_of_ble_eq_true rfl, Nat.le_of_ble_eq_true rfl⟩ ⟨Nat.le_of_ble_eq_true rfl, Nat.le_of_ble_eq_true rfl⟩ dX9_faultOfCommand_16) hW (fun r16 H locs hp16 hW => ?_)
    have hp16 := hp16.symm
    subst hp16
    refine r_as (y := (nI a2)) (by rw [rd_in (n := 48) (k := jc * 4 + 1) _ (by omega) (by decide), hC3 (by decide)]) ?_
    refine lv_istore (lv' := [(4, .int (nI a2)), (3, .int (nI a1)), (0, .ref (A (0, 14))), (1, .ref (A (b0, 0))), (2, .int (nI jc))]) hxe hcd dX9_faultOfCommand_19 hl (by decide) rfl (fun ls hl => ?_)
    refine lv_aload_n hxe hcd dX9_faultOfCommand_21 rfl (lv_at hl 2 rfl) ?_
    refine gf_X9_50 S hW dX9_faultOfCommand_22 ?_
    refine lv_iload_n hxe hcd dX9_faultOfCommand_25 rfl (lv_at hl 4 rfl) ?_
    refine r_calli0 (r_runV hZ S hW (As := [.int (nI jc)]) (rest := []) (t_X1_signAt l hZ A g μ H.size (nI jc)) k_X9_390 (r_recv hW (x := (0, 22)) (in_r (by decide) (by decide)) rfl rfl) (hl.1) rfl rfl (Nat.le_of_ble_eq_true rfl) ⟨Nat.le_of_ble_eq_true rfl, Nat.le_of_ble_eq_true rfl⟩ ⟨Nat.le_of_ble_eq_true rfl, Nat.le_of_ble_eq_true rfl⟩ dX9_faultOfCommand_26) hW (fun r26 H locs hp26 hW => ?_)
    have hp26 := hp26.symm
    subst hp26
    refine r_as (y := (nI 68)) (by rw [rd_in (n := 12) (k := jc) _ hjc (by decide), hC1]; decide) ?_
    refine lv_tableIn (tgt := 183) hxe hcd dX9_faultOfCommand_29 (by decide) (by decide) (by first | rfl | decide) (by decide) ?_
    refine lv_aload_n hxe hcd dX9_faultOfCommand_183 rfl (lv_at hl 3 rfl) ?_
    refine gf_X9_193 S hW hb0 dX9_faultOfCommand_184 ?_
    refine lv_iload_n hxe hcd dX9_faultOfCommand_187 rfl (lv_at hl 1 rfl) ?_
    refine lv_iload hxe hcd dX9_faultOfCommand_188 (lv_at hl 0 rfl) ?_
    refine r_calli0 (r_runV hZ S hW (As := [.int (nI a1), .int (nI a2)]) (rest := []) (t_X7_faultOfDraining l hZ A g μ H.size (Or.inl hb0) (nt := ntV v) (RP_nt hR hVG) (hVG).2.1.2 (lvN v) (RP_alv hR hVG) (nI a1) (nI a2)) k_X9_212 (r_recv hW (x := (b0, 9)) (in_s hb0 (by decide)) rfl rfl) (hl.1) rfl rfl (Nat.le_of_ble_eq_true rfl) ⟨Nat.le_of_ble_eq_true rfl, Nat.le_of_ble_eq_true rfl⟩ ⟨Nat.le_of_ble_eq_true rfl, Nat.le_of_ble_eq_true rfl⟩ dX9_faultOfCommand_190) hW (fun r190 H locs hp190 hW => ?_)
    rcases hp190 with ⟨rfl, q, hq, hx, j, hj1, hj2, hy, hlj⟩ | ⟨rfl, hx⟩ | ⟨rfl, hx, hy⟩ | ⟨rfl, q, hq, hx, j, hj1, hj2, hy, hlj⟩
    · refine r_iret0 S hr hlk hW ?_ dX9_faultOfCommand_193
      have ea : a1 = q := (nI_eq (by omega) (by omega)).mp hx
      have ej : a2 = j := (nI_eq (by omega) (by omega)).mp hy
      refine Or.inl ⟨rfl, ?_⟩
      rw [exV_11, if_pos (⟨by omega, by omega, by omega, by rw [ea, ej]; exact hlj⟩)]
      exact Option.some_ne_none _
    · refine r_iret0 S hr hlk hW ?_ dX9_faultOfCommand_193
      refine Or.inr ⟨by decide, ?_⟩
      rw [exV_11, if_neg (fun z => hx ⟨a1, z.1, rfl⟩)]
    · refine r_iret0 S hr hlk hW ?_ dX9_faultOfCommand_193
      refine Or.inr ⟨by decide, ?_⟩
      rw [exV_11, if_neg (fun z => hy ((nI_rn (by omega) (by decide) (by decide)).mpr ⟨z.2.1, z.2.2.1⟩))]
    · refine r_iret0 S hr hlk hW ?_ dX9_faultOfCommand_193
      have ea : a1 = q := (nI_eq (by omega) (by omega)).mp hx
      have ej : a2 = j := (nI_eq (by omega) (by omega)).mp hy
      refine Or.inr ⟨by decide, ?_⟩
      rw [exV_11, if_neg (fun z => by have z3 := z.2.2.2; rw [ea, ej] at z3; exact hlj z3)]
