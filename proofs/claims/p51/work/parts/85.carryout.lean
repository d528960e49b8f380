set_option maxHeartbeats 4000000 in
set_option maxRecDepth 100000 in
theorem t_X9_carryOut (l : Launch) {Z : ZT} (hZ : zOK Z) (A : Nat × Nat → Nat) (g : Nat → Bool) (μ : CM) (sz : Nat) {b0 : Nat} (hb0 : sB g b0) (v : Nat → Int32) (hVG : VG v) (hR : RP (μ b0) v) {w a1 a2 a3 a4 jc : Nat} (hw : w < 12) (ha1 : a1 < 1000) (ha2 : a2 < 1000) (ha3 : a3 < 1000) (ha4 : a4 < 1000) (hjc : jc < 12) (hC : CMJ μ jc w a1 a2 a3 a4) (v2 : Nat → Int32) (hex : exV v w a1 a2 a3 a4 = some v2) : XMv l yX9_carryOut cX9_carryOut 5 6 [.ref (A (0, 14)), .ref (A (b0, 0)), .int (nI jc)] Z (ids g) A (cE Z A g) μ sz (fun u => RP (u b0) v2 ∧ SQb b0 μ u) := by
  refine r_met (E := (cE Z A g μ)) (by decide +kernel) (Nat.le_of_ble_eq_true rfl) ?_
  intro p e s m below meth c ls S hr hlk hnm hsz hW hl
  have hxe := S.1
  have hcd := S.2.1
  subst hsz
  have hl : lv_has ls 5 [(0, .ref (A (0, 14))), (1, .ref (A (b0, 0))), (2, .int (nI jc))] := hl
  have hn8 := hVG.1.2
  have hn4 := hVG.2.1.2
  obtain ⟨hC1, hC2, hC3, hC4⟩ := hC
  rcases (show w = 0 ∨ w = 1 ∨ w = 2 ∨ w = 3 ∨ w = 4 ∨ w = 5 ∨ w = 6 ∨ w = 7 ∨ w = 8 ∨ w = 9 ∨ w = 10 ∨ w = 11 by omega) with rfl | rfl | rfl | rfl | rfl | rfl | rfl | rfl | rfl | rfl | rfl | rfl
  · have hex := (exV_0 (w := 0) (by decide)).symm.trans hex
    rw [show WD (WA 0) = 103 from by decide] at hex
    obtain ⟨⟨hk, h8⟩, rfl⟩ := ite_some hex
    refine lv_aload_n hxe hcd dX9_carryOut_0 rfl (lv_at hl 0 rfl) ?_
    refine gf_X9_50 S hW dX9_carryOut_1 ?_
    refine lv_iload_n hxe hcd dX9_carryOut_4 rfl (lv_at hl 2 rfl) ?_
    refine lv_iconst (v := (nI 0)) hxe hcd dX9_carryOut_5 (by decide) ?_
    refine r_calli0 (r_runV hZ S hW (As := [.int (nI jc), .int (nI 0)]) (rest := []) (t_X1_numberAt l hZ A g μ s.heap.size (j := jc) (i := 0)) k_X9_387 (r_recv hW (x := (0, 22)) (in_r (by decide) (by decide)) rfl rfl) (hl.1) rfl rfl (Nat.le_of_ble_eq_true rfl) ⟨Nat.le_of_ble_eq_true rfl, Nat.le_of_ble_eq_true rfl⟩ ⟨Nat.le_of_ble_eq_true rfl, Nat.le_of_ble_eq_true rfl⟩ dX9_carryOut_6) hW (fun r6 H locs hp6 hW => ?_)
    have hp6 := hp6.symm
    subst hp6
    refine r_as (y := (nI a1)) (by rw [rd_in (n := 48) (k := jc * 4 + 0) _ (by omega) (by decide), hC2]) ?_
    refine lv_istore_n (lv' := [(3, .int (nI a1)), (0, .ref (A (0, 14))), (1, .ref (A (b0, 0))), (2, .int (nI jc))]) hxe hcd dX9_carryOut_9 rfl hl (by decide) rfl (fun ls hl => ?_)
    refine lv_aload_n hxe hcd dX9_carryOut_10 rfl (lv_at hl 1 rfl) ?_
    refine gf_X9_50 S hW dX9_carryOut_11 ?_
    refine lv_iload_n hxe hcd dX9_carryOut_14 rfl (lv_at hl 3 rfl) ?_
    refine lv_iconst (v := (nI 1)) hxe hcd dX9_carryOut_15 (by decide) ?_
    refine r_calli0 (r_runV hZ S hW (As := [.int (nI jc), .int (nI 1)]) (rest := []) (t_X1_numberAt l hZ A g μ H.size (j := jc) (i := 1)) k_X9_387 (r_recv hW (x := (0, 22)) (in_r (by decide) (by decide)) rfl rfl) (hl.1) rfl rfl (Nat.le_of_ble_eq_true rfl) ⟨Nat.le_of_ble_eq_true rfl, Nat.le_of_ble_eq_true rfl⟩ ⟨Nat.le_of_ble_eq_true rfl, Nat.le_of_ble_eq_true rfl⟩ dX9_carryOut_16) hW (fun r16 H locs hp16 hW => ?_)
    have hp16 := hp16.symm
    subst hp16
    refine lv_istore (lv' := [(4, .int (rd 48 (μ 0 25) (nI (jc * 4 + 1)))), (3, .int (nI a1)), (0, .ref (A (0, 14))), (1, .ref (A (b0, 0))), (2, .int (nI jc))]) hxe hcd dX9_carryOut_19 hl (by decide) rfl (fun ls hl => ?_)
    refine lv_aload_n hxe hcd dX9_carryOut_21 rfl (lv_at hl 2 rfl) ?_
    refine gf_X9_50 S hW dX9_carryOut_22 ?_
    refine lv_iload_n hxe hcd dX9_carryOut_25 rfl (lv_at hl 4 rfl) ?_
    refine r_calli0 (r_runV hZ S hW (As := [.int (nI jc)]) (rest := []) (t_X1_signAt l hZ A g μ H.size (nI jc)) k_X9_390 (r_recv hW (x := (0, 22)) (in_r (by decide) (by decide)) rfl rfl) (hl.1) rfl rfl (Nat.le_of_ble_eq_true rfl) ⟨Nat.le_of_ble_eq_true rfl, Nat.le_of_ble_eq_true rfl⟩ ⟨Nat.le_of_ble_eq_true rfl, Nat.le_of_ble_eq_true rfl⟩ dX9_carryOut_26) hW (fun r26 H locs hp26 hW => ?_)
    have hp26 := hp26.symm
    subst hp26
    refine r_as (y := (nI 103)) (by rw [rd_in (n := 12) (k := jc) _ hjc (by decide), hC1]; decide) ?_
    refine lv_tableOut (tgt := 214) hxe hcd dX9_carryOut_29 (Or.inr (by decide)) (by decide) ?_
    refine lv_aload_n hxe hcd dX9_carryOut_214 rfl (lv_at hl 3 rfl) ?_
    refine gf_X9_72 S hW hb0 dX9_carryOut_215 ?_
    refine lv_aload_n hxe hcd dX9_carryOut_218 rfl (lv_at hl 3 rfl) ?_
    refine gf_X9_72 S hW hb0 dX9_carryOut_219 ?_
    refine gf_X9_90 S hW hb0 dX9_carryOut_222 ?_
    refine r_as (y := (nI (nfV v))) (RP_c hR hVG) ?_
    refine lv_aload_n hxe hcd dX9_carryOut_225 rfl (lv_at hl 2 rfl) ?_
    refine gf_X9_50 S hW dX9_carryOut_226 ?_
    refine lv_iload_n hxe hcd dX9_carryOut_229 rfl (lv_at hl 4 rfl) ?_
    refine r_calli0 (r_runV hZ S hW (As := [.int (nI jc)]) (rest := [.int (nI (nfV v)), .ref (A (b0, 1))]) (t_X1_signAt l hZ A g μ H.size (nI jc)) k_X9_390 (r_recv hW (x := (0, 22)) (in_r (by decide) (by decide)) rfl rfl) (hl.1) rfl rfl (Nat.le_of_ble_eq_true rfl) ⟨Nat.le_of_ble_eq_true rfl, Nat.le_of_ble_eq_true rfl⟩ ⟨Nat.le_of_ble_eq_true rfl, Nat.le_of_ble_eq_true rfl⟩ dX9_carryOut_230) hW (fun r230 H locs hp230 hW => ?_)
    have hp230 := hp230.symm
    subst hp230
    refine r_as (y := (nI 103)) (by rw [rd_in (n := 12) (k := jc) _ hjc (by decide), hC1]; decide) ?_
    refine lv_iload_n hxe hcd dX9_carryOut_233 rfl (lv_at hl 1 rfl) ?_
    refine r_calli (F := (cE Z A g)) (r_runV hZ S hW (As := [.int (nI (nfV v)), .int (nI 103), .int (nI a1)]) (rest := []) (t_X0_putFilter l hZ A g μ H.size hb0 (nf := nfV v) (q := (nfV v)) (RP_c hR hVG) (by omega) (by omega) (nI 103) (nI a1)) k_X9_93 (r_recv hW (x := (b0, 1)) (in_s hb0 (by decide)) rfl rfl) (hl.1) rfl rfl (Nat.le_of_ble_eq_true rfl) ⟨Nat.le_of_ble_eq_true rfl, Nat.le_of_ble_eq_true rfl⟩ ⟨Nat.le_of_ble_eq_true rfl, Nat.le_of_ble_eq_true rfl⟩ dX9_carryOut_234) hW (fun r234 u234 H locs hp234 hW => ?_)
    obtain ⟨hp234, hp234m⟩ := hp234
    have hp234 := hp234.symm
    subst hp234
    have hp234m := hp234m.symm
    subst hp234m
    refine lv_pop hxe hcd dX9_carryOut_237 rfl ?_
    refine r_vret S hr hlk (F := (cE Z A g)) (u := (up2 (chM μ b0 (insR (μ b0 2) (nfV v) (nfV v) (nI 103)) (insR (μ b0 3) (nfV v) (nfV v) (nI a1))) b0 1 (upd (μ b0 1) 2 (nI (nfV v + 1))))) hW ?_ dX9_carryOut_238
    refine ⟨RP_ins hR hVG (Nat.le_refl _) h8 hk (by omega) (by simp [chM, up2_rb, upd_rd]) (by simp [chM, up2_rb, upd_rd]) (by simp [chM, up2_rb, upd_rd]) (fun o ho1 ho2 => by simp only [chM, up2_rb]; rw [if_neg (by omega), if_neg (by omega), if_neg (by omega)]), ?_⟩
    repeat (first | exact SQb_rfl _ _ | refine SQb_up ?_ (by decide) _ | exact SQb_SQ (SQ_18 _ _ _))
  · have hex := (exV_0 (w := 1) (by decide)).symm.trans hex
    rw [show WD (WA 1) = 100 from by decide] at hex
    obtain ⟨⟨hk, h8⟩, rfl⟩ := ite_some hex
    refine lv_aload_n hxe hcd dX9_carryOut_0 rfl (lv_at hl 0 rfl) ?_
    refine gf_X9_50 S hW dX9_carryOut_1 ?_
    refine lv_iload_n hxe hcd dX9_carryOut_4 rfl (lv_at hl 2 rfl) ?_
    refine lv_iconst (v := (nI 0)) hxe hcd dX9_carryOut_5 (by decide) ?_
    refine r_calli0 (r_runV hZ S hW (As := [.int (nI jc), .int (nI 0)]) (rest := []) (t_X1_numberAt l hZ A g μ s.heap.size (j := jc) (i := 0)) k_X9_387 (r_recv hW (x := (0, 22)) (in_r (by decide) (by decide)) rfl rfl) (hl.1) rfl rfl (Nat.le_of_ble_eq_true rfl) ⟨Nat.le_of_ble_eq_true rfl, Nat.le_of_ble_eq_true rfl⟩ ⟨Nat.le_of_ble_eq_true rfl, Nat.le_of_ble_eq_true rfl⟩ dX9_carryOut_6) hW (fun r6 H locs hp6 hW => ?_)
    have hp6 := hp6.symm
    subst hp6
    refine r_as (y := (nI a1)) (by rw [rd_in (n := 48) (k := jc * 4 + 0) _ (by omega) (by decide), hC2]) ?_
    refine lv_istore_n (lv' := [(3, .int (nI a1)), (0, .ref (A (0, 14))), (1, .ref (A (b0, 0))), (2, .int (nI jc))]) hxe hcd dX9_carryOut_9 rfl hl (by decide) rfl (fun ls hl => ?_)
    refine lv_aload_n hxe hcd dX9_carryOut_10 rfl (lv_at hl 1 rfl) ?_
    refine gf_X9_50 S hW dX9_carryOut_11 ?_
    refine lv_iload_n hxe hcd dX9_carryOut_14 rfl (lv_at hl 3 rfl) ?_
    refine lv_iconst (v := (nI 1)) hxe hcd dX9_carryOut_15 (by decide) ?_
    refine r_calli0 (r_runV hZ S hW (As := [.int (nI jc), .int (nI 1)]) (rest := []) (t_X1_numberAt l hZ A g μ H.size (j := jc) (i := 1)) k_X9_387 (r_recv hW (x := (0, 22)) (in_r (by decide) (by decide)) rfl rfl) (hl.1) rfl rfl (Nat.le_of_ble_eq_true rfl) ⟨Nat.le_of_ble_eq_true rfl, Nat.le_of_ble_eq_true rfl⟩ ⟨Nat.le_of_ble_eq_true rfl, Nat.le_of_ble_eq_true rfl⟩ dX9_carryOut_16) hW (fun r16 H locs hp16 hW => ?_)
    have hp16 := hp16.symm
    subst hp16
    refine lv_istore (lv' := [(4, .int (rd 48 (μ 0 25) (nI (jc * 4 + 1)))), (3, .int (nI a1)), (0, .ref (A (0, 14))), (1, .ref (A (b0, 0))), (2, .int (nI jc))]) hxe hcd dX9_carryOut_19 hl (by decide) rfl (fun ls hl => ?_)
    refine lv_aload_n hxe hcd dX9_carryOut_21 rfl (lv_at hl 2 rfl) ?_
    refine gf_X9_50 S hW dX9_carryOut_22 ?_
    refine lv_iload_n hxe hcd dX9_carryOut_25 rfl (lv_at hl 4 rfl) ?_
    refine r_calli0 (r_runV hZ S hW (As := [.int (nI jc)]) (rest := []) (t_X1_signAt l hZ A g μ H.size (nI jc)) k_X9_390 (r_recv hW (x := (0, 22)) (in_r (by decide) (by decide)) rfl rfl) (hl.1) rfl rfl (Nat.le_of_ble_eq_true rfl) ⟨Nat.le_of_ble_eq_true rfl, Nat.le_of_ble_eq_true rfl⟩ ⟨Nat.le_of_ble_eq_true rfl, Nat.le_of_ble_eq_true rfl⟩ dX9_carryOut_26) hW (fun r26 H locs hp26 hW => ?_)
    have hp26 := hp26.symm
    subst hp26
    refine r_as (y := (nI 100)) (by rw [rd_in (n := 12) (k := jc) _ hjc (by decide), hC1]; decide) ?_
    refine lv_tableOut (tgt := 214) hxe hcd dX9_carryOut_29 (Or.inr (by decide)) (by decide) ?_
    refine lv_aload_n hxe hcd dX9_carryOut_214 rfl (lv_at hl 3 rfl) ?_
    refine gf_X9_72 S hW hb0 dX9_carryOut_215 ?_
    refine lv_aload_n hxe hcd dX9_carryOut_218 rfl (lv_at hl 3 rfl) ?_
    refine gf_X9_72 S hW hb0 dX9_carryOut_219 ?_
    refine gf_X9_90 S hW hb0 dX9_carryOut_222 ?_
    refine r_as (y := (nI (nfV v))) (RP_c hR hVG) ?_
    refine lv_aload_n hxe hcd dX9_carryOut_225 rfl (lv_at hl 2 rfl) ?_
    refine gf_X9_50 S hW dX9_carryOut_226 ?_
    refine lv_iload_n hxe hcd dX9_carryOut_229 rfl (lv_at hl 4 rfl) ?_
    refine r_calli0 (r_runV hZ S hW (As := [.int (nI jc)]) (rest := [.int (nI (nfV v)), .ref (A (b0, 1))]) (t_X1_signAt l hZ A g μ H.size (nI jc)) k_X9_390 (r_recv hW (x := (0, 22)) (in_r (by decide) (by decide)) rfl rfl) (hl.1) rfl rfl (Nat.le_of_ble_eq_true rfl) ⟨Nat.le_of_ble_eq_true rfl, Nat.le_of_ble_eq_true rfl⟩ ⟨Nat.le_of_ble_eq_true rfl, Nat.le_of_ble_eq_true rfl⟩ dX9_carryOut_230) hW (fun r230 H locs hp230 hW => ?_)
    have hp230 := hp230.symm
    subst hp230
    refine r_as (y := (nI 100)) (by rw [rd_in (n := 12) (k := jc) _ hjc (by decide), hC1]; decide) ?_
    refine lv_iload_n hxe hcd dX9_carryOut_233 rfl (lv_at hl 1 rfl) ?_
    refine r_calli (F := (cE Z A g)) (r_runV hZ S hW (As := [.int (nI (nfV v)), .int (nI 100), .int (nI a1)]) (rest := []) (t_X0_putFilter l hZ A g μ H.size hb0 (nf := nfV v) (q := (nfV v)) (RP_c hR hVG) (by omega) (by omega) (nI 100) (nI a1)) k_X9_93 (r_recv hW (x := (b0, 1)) (in_s hb0 (by decide)) rfl rfl) (hl.1) rfl rfl (Nat.le_of_ble_eq_true rfl) ⟨Nat.le_of_ble_eq_true rfl, Nat.le_of_ble_eq_true rfl⟩ ⟨Nat.le_of_ble_eq_true rfl, Nat.le_of_ble_eq_true rfl⟩ dX9_carryOut_234) hW (fun r234 u234 H locs hp234 hW => ?_)
    obtain ⟨hp234, hp234m⟩ := hp234
    have hp234 := hp234.symm
    subst hp234
    have hp234m := hp234m.symm
    subst hp234m
    refine lv_pop hxe hcd dX9_carryOut_237 rfl ?_
    refine r_vret S hr hlk (F := (cE Z A g)) (u := (up2 (chM μ b0 (insR (μ b0 2) (nfV v) (nfV v) (nI 100)) (insR (μ b0 3) (nfV v) (nfV v) (nI a1))) b0 1 (upd (μ b0 1) 2 (nI (nfV v + 1))))) hW ?_ dX9_carryOut_238
    refine ⟨RP_ins hR hVG (Nat.le_refl _) h8 hk (by omega) (by simp [chM, up2_rb, upd_rd]) (by simp [chM, up2_rb, upd_rd]) (by simp [chM, up2_rb, upd_rd]) (fun o ho1 ho2 => by simp only [chM, up2_rb]; rw [if_neg (by omega), if_neg (by omega), if_neg (by omega)]), ?_⟩
    repeat (first | exact SQb_rfl _ _ | refine SQb_up ?_ (by decide) _ | exact SQb_SQ (SQ_18 _ _ _))
  · have hex := (exV_0 (w := 2) (by decide)).symm.trans hex
    rw [show WD (WA 2) = 109 from by decide] at hex
    obtain ⟨⟨hk, h8⟩, rfl⟩ := ite_some hex
    refine lv_aload_n hxe hcd dX9_carryOut_0 rfl (lv_at hl 0 rfl) ?_
    refine gf_X9_50 S hW dX9_carryOut_1 ?_
    refine lv_iload_n hxe hcd dX9_carryOut_4 rfl (lv_at hl 2 rfl) ?_
    refine lv_iconst (v := (nI 0)) hxe hcd dX9_carryOut_5 (by decide) ?_
    refine r_calli0 (r_runV hZ S hW (As := [.int (nI jc), .int (nI 0)]) (rest := []) (t_X1_numberAt l hZ A g μ s.heap.size (j := jc) (i := 0)) k_X9_387 (r_recv hW (x := (0, 22)) (in_r (by decide) (by decide)) rfl rfl) (hl.1) rfl rfl (Nat.le_of_ble_eq_true rfl) ⟨Nat.le_of_ble_eq_true rfl, Nat.le_of_ble_eq_true rfl⟩ ⟨Nat.le_of_ble_eq_true rfl, Nat.le_of_ble_eq_true rfl⟩ dX9_carryOut_6) hW (fun r6 H locs hp6 hW => ?_)
    have hp6 := hp6.symm
    subst hp6
    refine r_as (y := (nI a1)) (by rw [rd_in (n := 48) (k := jc * 4 + 0) _ (by omega) (by decide), hC2]) ?_
    refine lv_istore_n (lv' := [(3, .int (nI a1)), (0, .ref (A (0, 14))), (1, .ref (A (b0, 0))), (2, .int (nI jc))]) hxe hcd dX9_carryOut_9 rfl hl (by decide) rfl (fun ls hl => ?_)
    refine lv_aload_n hxe hcd dX9_carryOut_10 rfl (lv_at hl 1 rfl) ?_
    refine gf_X9_50 S hW dX9_carryOut_11 ?_
    refine lv_iload_n hxe hcd dX9_carryOut_14 rfl (lv_at hl 3 rfl) ?_
    refine lv_iconst (v := (nI 1)) hxe hcd dX9_carryOut_15 (by decide) ?_
    refine r_calli0 (r_runV hZ S hW (As := [.int (nI jc), .int (nI 1)]) (rest := []) (t_X1_numberAt l hZ A g μ H.size (j := jc) (i := 1)) k_X9_387 (r_recv hW (x := (0, 22)) (in_r (by decide) (by decide)) rfl rfl) (hl.1) rfl rfl (Nat.le_of_ble_eq_true rfl) ⟨Nat.le_of_ble_eq_true rfl, Nat.le_of_ble_eq_true rfl⟩ ⟨Nat.le_of_ble_eq_true rfl, Nat.le_of_ble_eq_true rfl⟩ dX9_carryOut_16) hW (fun r16 H locs hp16 hW => ?_)
    have hp16 := hp16.symm
    subst hp16
    refine lv_istore (lv' := [(4, .int (rd 48 (μ 0 25) (nI (jc * 4 + 1)))), (3, .int (nI a1)), (0, .ref (A (0, 14))), (1, .ref (A (b0, 0))), (2, .int (nI jc))]) hxe hcd dX9_carryOut_19 hl (by decide) rfl (fun ls hl => ?_)
    refine lv_aload_n hxe hcd dX9_carryOut_21 rfl (lv_at hl 2 rfl) ?_
    refine gf_X9_50 S hW dX9_carryOut_22 ?_
    refine lv_iload_n hxe hcd dX9_carryOut_25 rfl (lv_at hl 4 rfl) ?_
    refine r_calli0 (r_runV hZ S hW (As := [.int (nI jc)]) (rest := []) (t_X1_signAt l hZ A g μ H.size (nI jc)) k_X9_390 (r_recv hW (x := (0, 22)) (in_r (by decide) (by decide)) rfl rfl) (hl.1) rfl rfl (Nat.le_of_ble_eq_true rfl) ⟨Nat.le_of_ble_eq_true rfl, Nat.le_of_ble_eq_true rfl⟩ ⟨Nat.le_of_ble_eq_true rfl, Nat.le_of_ble_eq_true rfl⟩ dX9_carryOut_26) hW (fun r26 H locs hp26 hW => ?_)
    have hp26 := hp26.symm
    subst hp26
    refine r_as (y := (nI 109)) (by rw [rd_in (n := 12) (k := jc) _ hjc (by decide), hC1]; decide) ?_
    refine lv_tableOut (tgt := 214) hxe hcd dX9_carryOut_29 (Or.inr (by decide)) (by decide) ?_
    refine lv_aload_n hxe hcd dX9_carryOut_214 rfl (lv_at hl 3 rfl) ?_
    refine gf_X9_72 S hW hb0 dX9_carryOut_215 ?_
    refine lv_aload_n hxe hcd dX9_carryOut_218 rfl (lv_at hl 3 rfl) ?_
    refine gf_X9_72 S hW hb0 dX9_carryOut_219 ?_
    refine gf_X9_90 S hW hb0 dX9_carryOut_222 ?_
    refine r_as (y := (nI (nfV v))) (RP_c hR hVG) ?_
    refine lv_aload_n hxe hcd dX9_carryOut_225 rfl (lv_at hl 2 rfl) ?_
    refine gf_X9_50 S hW dX9_carryOut_226 ?_
    refine lv_iload_n hxe hcd dX9_carryOut_229 rfl (lv_at hl 4 rfl) ?_
    refine r_calli0 (r_runV hZ S hW (As := [.int (nI jc)]) (rest := [.int (nI (nfV v)), .ref (A (b0, 1))]) (t_X1_signAt l hZ A g μ H.size (nI jc)) k_X9_390 (r_recv hW (x := (0, 22)) (in_r (by decide) (by decide)) rfl rfl) (hl.1) rfl rfl (Nat.le_of_ble_eq_true rfl) ⟨Nat.le_of_ble_eq_true rfl, Nat.le_of_ble_eq_true rfl⟩ ⟨Nat.le_of_ble_eq_true rfl, Nat.le_of_ble_eq_true rfl⟩ dX9_carryOut_230) hW (fun r230 H locs hp230 hW => ?_)
    have hp230 := hp230.symm
    subst hp230
    refine r_as (y := (nI 109)) (by rw [rd_in (n := 12) (k := jc) _ hjc (by decide), hC1]; decide) ?_
    refine lv_iload_n hxe hcd dX9_carryOut_233 rfl (lv_at hl 1 rfl) ?_
    refine r_calli (F := (cE Z A g)) (r_runV hZ S hW (As := [.int (nI (nfV v)), .int (nI 109), .int (nI a1)]) (rest := []) (t_X0_putFilter l hZ A g μ H.size hb0 (nf := nfV v) (q := (nfV v)) (RP_c hR hVG) (by omega) (by omega) (nI 109) (nI a1)) k_X9_93 (r_recv hW (x := (b0, 1)) (in_s hb0 (by decide)) rfl rfl) (hl.1) rfl rfl (Nat.le_of_ble_eq_true rfl) ⟨Nat.le_of_ble_eq_true rfl, Nat.le_of_ble_eq_true rfl⟩ ⟨Nat.le_of_ble_eq_true rfl, Nat.le_of_ble_eq_true rfl⟩ dX9_carryOut_234) hW (fun r234 u234 H locs hp234 hW => ?_)
    obtain ⟨hp234, hp234m⟩ := hp234
    have hp234 := hp234.symm
    subst hp234
    have hp234m := hp234m.symm
    subst hp234m
    refine lv_pop hxe hcd dX9_carryOut_237 rfl ?_
    refine r_vret S hr hlk (F := (cE Z A g)) (u := (up2 (chM μ b0 (insR (μ b0 2) (nfV v) (nfV v) (nI 109)) (insR (μ b0 3) (nfV v) (nfV v) (nI a1))) b0 1 (upd (μ b0 1) 2 (nI (nfV v + 1))))) hW ?_ dX9_carryOut_238
    refine ⟨RP_ins hR hVG (Nat.le_refl _) h8 hk (by omega) (by simp [chM, up2_rb, upd_rd]) (by simp [chM, up2_rb, upd_rd]) (by simp [chM, up2_rb, upd_rd]) (fun o ho1 ho2 => by simp only [chM, up2_rb]; rw [if_neg (by omega), if_neg (by omega), if_neg (by omega)]), ?_⟩
    repeat (first | exact SQb_rfl _ _ | refine SQb_up ?_ (by decide) _ | exact SQb_SQ (SQ_18 _ _ _))
  · have hex := (exV_0 (w := 3) (by decide)).symm.trans hex
    rw [show WD (WA 3) = 99 from by decide] at hex
    obtain ⟨⟨hk, h8⟩, rfl⟩ := ite_some hex
    refine lv_aload_n hxe hcd dX9_carryOut_0 rfl (lv_at hl 0 rfl) ?_
    refine gf_X9_50 S hW dX9_carryOut_1 ?_
    refine lv_iload_n hxe hcd dX9_carryOut_4 rfl (lv_at hl 2 rfl) ?_
    refine lv_iconst (v := (nI 0)) hxe hcd dX9_carryOut_5 (by decide) ?_
    refine r_calli0 (r_runV hZ S hW (As := [.int (nI jc), .int (nI 0)]) (rest := []) (t_X1_numberAt l hZ A g μ s.heap.size (j := jc) (i := 0)) k_X9_387 (r_recv hW (x := (0, 22)) (in_r (by decide) (by decide)) rfl rfl) (hl.1) rfl rfl (Nat.le_of_ble_eq_true rfl) ⟨Nat.le_of_ble_eq_true rfl, Nat.le_of_ble_eq_true rfl⟩ ⟨Nat.le_of_ble_eq_true rfl, Nat.le_of_ble_eq_true rfl⟩ dX9_carryOut_6) hW (fun r6 H locs hp6 hW => ?_)
    have hp6 := hp6.symm
    subst hp6
    refine r_as (y := (nI a1)) (by rw [rd_in (n := 48) (k := jc * 4 + 0) _ (by omega) (by decide), hC2]) ?_
    refine lv_istore_n (lv' := [(3, .int (nI a1)), (0, .ref (A (0, 14))), (1, .ref (A (b0, 0))), (2, .int (nI jc))]) hxe hcd dX9_carryOut_9 rfl hl (by decide) rfl (fun ls hl => ?_)
    refine lv_aload_n hxe hcd dX9_carryOut_10 rfl (lv_at hl 1 rfl) ?_
    refine gf_X9_50 S hW dX9_carryOut_11 ?_
    refine lv_iload_n hxe hcd dX9_carryOut_14 rfl (lv_at hl 3 rfl) ?_
    refine lv_iconst (v := (nI 1)) hxe hcd dX9_carryOut_15 (by decide) ?_
    refine r_calli0 (r_runV hZ S hW (As := [.int (nI jc), .int (nI 1)]) (rest := []) (t_X1_numberAt l hZ A g μ H.size (j := jc) (i := 1)) k_X9_387 (r_recv hW (x := (0, 22)) (in_r (by decide) (by decide)) rfl rfl) (hl.1) rfl rfl (Nat.le_of_ble_eq_true rfl) ⟨Nat.le_of_ble_eq_true rfl, Nat.le_of_ble_eq_true rfl⟩ ⟨Nat.le_of_ble_eq_true rfl, Nat.le_of_ble_eq_true rfl⟩ dX9_carryOut_16) hW (fun r16 H locs hp16 hW => ?_)
    have hp16 := hp16.symm
    subst hp16
    refine lv_istore (lv' := [(4, .int (rd 48 (μ 0 25) (nI (jc * 4 + 1)))), (3, .int (nI a1)), (0, .ref (A (0, 14))), (1, .ref (A (b0, 0))), (2, .int (nI jc))]) hxe hcd dX9_carryOut_19 hl (by decide) rfl (fun ls hl => ?_)
    refine lv_aload_n hxe hcd dX9_carryOut_21 rfl (lv_at hl 2 rfl) ?_
    refine gf_X9_50 S hW dX9_carryOut_22 ?_
    refine lv_iload_n hxe hcd dX9_carryOut_25 rfl (lv_at hl 4 rfl) ?_
    refine r_calli0 (r_runV hZ S hW (As := [.int (nI jc)]) (rest := []) (t_X1_signAt l hZ A g μ H.size (nI jc)) k_X9_390 (r_recv hW (x := (0, 22)) (in_r (by decide) (by decide)) rfl rfl) (hl.1) rfl rfl (Nat.le_of_ble_eq_true rfl) ⟨Nat.le_of_ble_eq_true rfl, Nat.le_of_ble_eq_true rfl⟩ ⟨Nat.le_of_ble_eq_true rfl, Nat.le_of_ble_eq_true rfl⟩ dX9_carryOut_26) hW (fun r26 H locs hp26 hW => ?_)
    have hp26 := hp26.symm
    subst hp26
    refine r_as (y := (nI 99)) (by rw [rd_in (n := 12) (k := jc) _ hjc (by decide), hC1]; decide) ?_
    refine lv_tableOut (tgt := 214) hxe hcd dX9_carryOut_29 (Or.inr (by decide)) (by decide) ?_
    refine lv_aload_n hxe hcd dX9_carryOut_214 rfl (lv_at hl 3 rfl) ?_
    refine gf_X9_72 S hW hb0 dX9_carryOut_215 ?_
    refine lv_aload_n hxe hcd dX9_carryOut_218 rfl (lv_at hl 3 rfl) ?_
    refine gf_X9_72 S hW hb0 dX9_carryOut_219 ?_
    refine gf_X9_90 S hW hb0 dX9_carryOut_222 ?_
    refine r_as (y := (nI (nfV v))) (RP_c hR hVG) ?_
    refine lv_aload_n hxe hcd dX9_carryOut_225 rfl (lv_at hl 2 rfl) ?_
    refine gf_X9_50 S hW dX9_carryOut_226 ?_
    refine lv_iload_n hxe hcd dX9_carryOut_229 rfl (lv_at hl 4 rfl) ?_
    refine r_calli0 (r_runV hZ S hW (As := [.int (nI jc)]) (rest := [.int (nI (nfV v)), .ref (A (b0, 1))]) (t_X1_signAt l hZ A g μ H.size (nI jc)) k_X9_390 (r_recv hW (x := (0, 22)) (in_r (by decide) (by decide)) rfl rfl) (hl.1) rfl rfl (Nat.le_of_ble_eq_true rfl) ⟨Nat.le_of_ble_eq_true rfl, Nat.le_of_ble_eq_true rfl⟩ ⟨Nat.le_of_ble_eq_true rfl, Nat.le_of_ble_eq_true rfl⟩ dX9_carryOut_230) hW (fun r230 H locs hp230 hW => ?_)
    have hp230 := hp230.symm
    subst hp230
    refine r_as (y := (nI 99)) (by rw [rd_in (n := 12) (k := jc) _ hjc (by decide), hC1]; decide) ?_
    refine lv_iload_n hxe hcd dX9_carryOut_233 rfl (lv_at hl 1 rfl) ?_
    refine r_calli (F := (cE Z A g)) (r_runV hZ S hW (As := [.int (nI (nfV v)), .int (nI 99), .int (nI a1)]) (rest := []) (t_X0_putFilter l hZ A g μ H.size hb0 (nf := nfV v) (q := (nfV v)) (RP_c hR hVG) (by omega) (by omega) (nI 99) (nI a1)) k_X9_93 (r_recv hW (x := (b0, 1)) (in_s hb0 (by decide)) rfl rfl) (hl.1) rfl rfl (Nat.le_of_ble_eq_true rfl) ⟨Nat.le_of_ble_eq_true rfl, Nat.le_of_ble_eq_true rfl⟩ ⟨Nat.le_of_ble_eq_true rfl, Nat.le_of_ble_eq_true rfl⟩ dX9_carryOut_234) hW (fun r234 u234 H locs hp234 hW => ?_)
    obtain ⟨hp234, hp234m⟩ := hp234
    have hp234 := hp234.symm
    subst hp234
    have hp234m := hp234m.symm
    subst hp234m
    refine lv_pop hxe hcd dX9_carryOut_237 rfl ?_
    refine r_vret S hr hlk (F := (cE Z A g)) (u := (up2 (chM μ b0 (insR (μ b0 2) (nfV v) (nfV v) (nI 99)) (insR (μ b0 3) (nfV v) (nfV v) (nI a1))) b0 1 (upd (μ b0 1) 2 (nI (nfV v + 1))))) hW ?_ dX9_carryOut_238
    refine ⟨RP_ins hR hVG (Nat.le_refl _) h8 hk (by omega) (by simp [chM, up2_rb, upd_rd]) (by simp [chM, up2_rb, upd_rd]) (by simp [chM, up2_rb, upd_rd]) (fun o ho1 ho2 => by simp only [chM, up2_rb]; rw [if_neg (by omega), if_neg (by omega), if_neg (by omega)]), ?_⟩
    repeat (first | exact SQb_rfl _ _ | refine SQb_up ?_ (by decide) _ | exact SQb_SQ (SQ_18 _ _ _))
  · have hex := (exV_0 (w := 4) (by decide)).symm.trans hex
    rw [show WD (WA 4) = 102 from by decide] at hex
    obtain ⟨⟨hk, h8⟩, rfl⟩ := ite_some hex
    refine lv_aload_n hxe hcd dX9_carryOut_0 rfl (lv_at hl 0 rfl) ?_
    refine gf_X9_50 S hW dX9_carryOut_1 ?_
    refine lv_iload_n hxe hcd dX9_carryOut_4 rfl (lv_at hl 2 rfl) ?_
    refine lv_iconst (v := (nI 0)) hxe hcd dX9_carryOut_5 (by decide) ?_
    refine r_calli0 (r_runV hZ S hW (As := [.int (nI jc), .int (nI 0)]) (rest := []) (t_X1_numberAt l hZ A g μ s.heap.size (j := jc) (i := 0)) k_X9_387 (r_recv hW (x := (0, 22)) (in_r (by decide) (by decide)) rfl rfl) (hl.1) rfl rfl (Nat.le_of_ble_eq_true rfl) ⟨Nat.le_of_ble_eq_true rfl, Nat.le_of_ble_eq_true rfl⟩ ⟨Nat.le_of_ble_eq_true rfl, Nat.le_of_ble_eq_true rfl⟩ dX9_carryOut_6) hW (fun r6 H locs hp6 hW => ?_)
    have hp6 := hp6.symm
    subst hp6
    refine r_as (y := (nI a1)) (by rw [rd_in (n := 48) (k := jc * 4 + 0) _ (by omega) (by decide), hC2]) ?_
    refine lv_istore_n (lv' := [(3, .int (nI a1)), (0, .ref (A (0, 14))), (1, .ref (A (b0, 0))), (2, .int (nI jc))]) hxe hcd dX9_carryOut_9 rfl hl (by decide) rfl (fun ls hl => ?_)
    refine lv_aload_n hxe hcd dX9_carryOut_10 rfl (lv_at hl 1 rfl) ?_
    refine gf_X9_50 S hW dX9_carryOut_11 ?_
    refine lv_iload_n hxe hcd dX9_carryOut_14 rfl (lv_at hl 3 rfl) ?_
    refine lv_iconst (v := (nI 1)) hxe hcd dX9_carryOut_15 (by decide) ?_
    refine r_calli0 (r_runV hZ S hW (As := [.int (nI jc), .int (nI 1)]) (rest := []) (t_X1_numberAt l hZ A g μ H.size (j := jc) (i := 1)) k_X9_387 (r_recv hW (x := (0, 22)) (in_r (by decide) (by decide)) rfl rfl) (hl.1) rfl rfl (Nat.le_of_ble_eq_true rfl) ⟨Nat.le_of_ble_eq_true rfl, Nat.le_of_ble_eq_true rfl⟩ ⟨Nat.le_of_ble_eq_true rfl, Nat.le_of_ble_eq_true rfl⟩ dX9_carryOut_16) hW (fun r16 H locs hp16 hW => ?_)
    have hp16 := hp16.symm
    subst hp16
    refine lv_istore (lv' := [(4, .int (rd 48 (μ 0 25) (nI (jc * 4 + 1)))), (3, .int (nI a1)), (0, .ref (A (0, 14))), (1, .ref (A (b0, 0))), (2, .int (nI jc))]) hxe hcd dX9_carryOut_19 hl (by decide) rfl (fun ls hl => ?_)
    refine lv_aload_n hxe hcd dX9_carryOut_21 rfl (lv_at hl 2 rfl) ?_
    refine gf_X9_50 S hW dX9_carryOut_22 ?_
    refine lv_iload_n hxe hcd dX9_carryOut_25 rfl (lv_at hl 4 rfl) ?_
    refine r_calli0 (r_runV hZ S hW (As := [.int (nI jc)]) (rest := []) (t_X1_signAt l hZ A g μ H.size (nI jc)) k_X9_390 (r_recv hW (x := (0, 22)) (in_r (by decide) (by decide)) rfl rfl) (hl.1) rfl rfl (Nat.le_of_ble_eq_true rfl) ⟨Nat.le_of_ble_eq_true rfl, Nat.le_of_ble_eq_true rfl⟩ ⟨Nat.le_of_ble_eq_true rfl, Nat.le_of_ble_eq_true rfl⟩ dX9_carryOut_26) hW (fun r26 H locs hp26 hW => ?_)
    have hp26 := hp26.symm
    subst hp26
    refine r_as (y := (nI 102)) (by rw [rd_in (n := 12) (k := jc) _ hjc (by decide), hC1]; decide) ?_
    refine lv_tableOut (tgt := 214) hxe hcd dX9_carryOut_29 (Or.inr (by decide)) (by decide) ?_
    refine lv_aload_n hxe hcd dX9_carryOut_214 rfl (lv_at hl 3 rfl) ?_
    refine gf_X9_72 S hW hb0 dX9_carryOut_215 ?_
    refine lv_aload_n hxe hcd dX9_carryOut_218 rfl (lv_at hl 3 rfl) ?_
    refine gf_X9_72 S hW hb0 dX9_carryOut_219 ?_
    refine gf_X9_90 S hW hb0 dX9_carryOut_222 ?_
    refine r_as (y := (nI (nfV v))) (RP_c hR hVG) ?_
    refine lv_aload_n hxe hcd dX9_carryOut_225 rfl (lv_at hl 2 rfl) ?_
    refine gf_X9_50 S hW dX9_carryOut_226 ?_
    refine lv_iload_n hxe hcd dX9_carryOut_229 rfl (lv_at hl 4 rfl) ?_
    refine r_calli0 (r_runV hZ S hW (As := [.int (nI jc)]) (rest := [.int (nI (nfV v)), .ref (A (b0, 1))]) (t_X1_signAt l hZ A g μ H.size (nI jc)) k_X9_390 (r_recv hW (x := (0, 22)) (in_r (by decide) (by decide)) rfl rfl) (hl.1) rfl rfl (Nat.le_of_ble_eq_true rfl) ⟨Nat.le_of_ble_eq_true rfl, Nat.le_of_ble_eq_true rfl⟩ ⟨Nat.le_of_ble_eq_true rfl, Nat.le_of_ble_eq_true rfl⟩ dX9_carryOut_230) hW (fun r230 H locs hp230 hW => ?_)
    have hp230 := hp230.symm
    subst hp230
    refine r_as (y := (nI 102)) (by rw [rd_in (n := 12) (k := jc) _ hjc (by decide), hC1]; decide) ?_
    refine lv_iload_n hxe hcd dX9_carryOut_233 rfl (lv_at hl 1 rfl) ?_
    refine r_calli (F := (cE Z A g)) (r_runV hZ S hW (As := [.int (nI (nfV v)), .int (nI 102), .int (nI a1)]) (rest := []) (t_X0_putFilter l hZ A g μ H.size hb0 (nf := nfV v) (q := (nfV v)) (RP_c hR hVG) (by omega) (by omega) (nI 102) (nI a1)) k_X9_93 (r_recv hW (x := (b0, 1)) (in_s hb0 (by decide)) rfl rfl) (hl.1) rfl rfl (Nat.le_of_ble_eq_true rfl) ⟨Nat.le_of_ble_eq_true rfl, Nat.le_of_ble_eq_true rfl⟩ ⟨Nat.le_of_ble_eq_true rfl, Nat.le_of_ble_eq_true rfl⟩ dX9_carryOut_234) hW (fun r234 u234 H locs hp234 hW => ?_)
    obtain ⟨hp234, hp234m⟩ := hp234
    have hp234 := hp234.symm
    subst hp234
    have hp234m := hp234m.symm
    subst hp234m
    refine lv_pop hxe hcd dX9_carryOut_237 rfl ?_
    refine r_vret S hr hlk (F := (cE Z A g)) (u := (up2 (chM μ b0 (insR (μ b0 2) (nfV v) (nfV v) (nI 102)) (insR (μ b0 3) (nfV v) (nfV v) (nI a1))) b0 1 (upd (μ b0 1) 2 (nI (nfV v + 1))))) hW ?_ dX9_carryOut_238
    refine ⟨RP_ins hR hVG (Nat.le_refl _) h8 hk (by omega) (by simp [chM, up2_rb, upd_rd]) (by simp [chM, up2_rb, upd_rd]) (by simp [chM, up2_rb, upd_rd]) (fun o ho1 ho2 => by simp only [chM, up2_rb]; rw [if_neg (by omega), if_neg (by omega), if_neg (by omega)]), ?_⟩
    repeat (first | exact SQb_rfl _ _ | refine SQb_up ?_ (by decide) _ | exact SQb_SQ (SQ_18 _ _ _))
  · have hex := (exV_0 (w := 5) (by decide)).symm.trans hex
    rw [show WD (WA 5) = 115 from by decide] at hex
    obtain ⟨⟨hk, h8⟩, rfl⟩ := ite_some hex
    refine lv_aload_n hxe hcd dX9_carryOut_0 rfl (lv_at hl 0 rfl) ?_
    refine gf_X9_50 S hW dX9_carryOut_1 ?_
    refine lv_iload_n hxe hcd dX9_carryOut_4 rfl (lv_at hl 2 rfl) ?_
    refine lv_iconst (v := (nI 0)) hxe hcd dX9_carryOut_5 (by decide) ?_
    refine r_calli0 (r_runV hZ S hW (As := [.int (nI jc), .int (nI 0)]) (rest := []) (t_X1_numberAt l hZ A g μ s.heap.size (j := jc) (i := 0)) k_X9_387 (r_recv hW (x := (0, 22)) (in_r (by decide) (by decide)) rfl rfl) (hl.1) rfl rfl (Nat.le_of_ble_eq_true rfl) ⟨Nat.le_of_ble_eq_true rfl, Nat.le_of_ble_eq_true rfl⟩ ⟨Nat.le_of_ble_eq_true rfl, Nat.le_of_ble_eq_true rfl⟩ dX9_carryOut_6) hW (fun r6 H locs hp6 hW => ?_)
    have hp6 := hp6.symm
    subst hp6
    refine r_as (y := (nI a1)) (by rw [rd_in (n := 48) (k := jc * 4 + 0) _ (by omega) (by decide), hC2]) ?_
    refine lv_istore_n (lv' := [(3, .int (nI a1)), (0, .ref (A (0, 14))), (1, .ref (A (b0, 0))), (2, .int (nI jc))]) hxe hcd dX9_carryOut_9 rfl hl (by decide) rfl (fun ls hl => ?_)
    refine lv_aload_n hxe hcd dX9_carryOut_10 rfl (lv_at hl 1 rfl) ?_
    refine gf_X9_50 S hW dX9_carryOut_11 ?_
    refine lv_iload_n hxe hcd dX9_carryOut_14 rfl (lv_at hl 3 rfl) ?_
    refine lv_iconst (v := (nI 1)) hxe hcd dX9_carryOut_15 (by decide) ?_
    refine r_calli0 (r_runV hZ S hW (As := [.int (nI jc), .int (nI 1)]) (rest := []) (t_X1_numberAt l hZ A g μ H.size (j := jc) (i := 1)) k_X9_387 (r_recv hW (x := (0, 22)) (in_r (by decide) (by decide)) rfl rfl) (hl.1) rfl rfl (Nat.le_of_ble_eq_true rfl) ⟨Nat.le_of_ble_eq_true rfl, Nat.le_of_ble_eq_true rfl⟩ ⟨Nat.le_of_ble_eq_true rfl, Nat.le_of_ble_eq_true rfl⟩ dX9_carryOut_16) hW (fun r16 H locs hp16 hW => ?_)
    have hp16 := hp16.symm
    subst hp16
    refine lv_istore (lv' := [(4, .int (rd 48 (μ 0 25) (nI (jc * 4 + 1)))), (3, .int (nI a1)), (0, .ref (A (0, 14))), (1, .ref (A (b0, 0))), (2, .int (nI jc))]) hxe hcd dX9_carryOut_19 hl (by decide) rfl (fun ls hl => ?_)
    refine lv_aload_n hxe hcd dX9_carryOut_21 rfl (lv_at hl 2 rfl) ?_
    refine gf_X9_50 S hW dX9_carryOut_22 ?_
    refine lv_iload_n hxe hcd dX9_carryOut_25 rfl (lv_at hl 4 rfl) ?_
    refine r_calli0 (r_runV hZ S hW (As := [.int (nI jc)]) (rest := []) (t_X1_signAt l hZ A g μ H.size (nI jc)) k_X9_390 (r_recv hW (x := (0, 22)) (in_r (by decide) (by decide)) rfl rfl) (hl.1) rfl rfl (Nat.le_of_ble_eq_true rfl) ⟨Nat.le_of_ble_eq_true rfl, Nat.le_of_ble_eq_true rfl⟩ ⟨Nat.le_of_ble_eq_true rfl, Nat.le_of_ble_eq_true rfl⟩ dX9_carryOut_26) hW (fun r26 H locs hp26 hW => ?_)
    have hp26 := hp26.symm
    subst hp26
    refine r_as (y := (nI 115)) (by rw [rd_in (n := 12) (k := jc) _ hjc (by decide), hC1]; decide) ?_
    refine lv_tableOut (tgt := 214) hxe hcd dX9_carryOut_29 (Or.inr (by decide)) (by decide) ?_
    refine lv_aload_n hxe hcd dX9_carryOut_214 rfl (lv_at hl 3 rfl) ?_
    refine gf_X9_72 S hW hb0 dX9_carryOut_215 ?_
    refine lv_aload_n hxe hcd dX9_carryOut_218 rfl (lv_at hl 3 rfl) ?_
    refine gf_X9_72 S hW hb0 dX9_carryOut_219 ?_
    refine gf_X9_90 S hW hb0 dX9_carryOut_222 ?_
    refine r_as (y := (nI (nfV v))) (RP_c hR hVG) ?_
    refine lv_aload_n hxe hcd dX9_carryOut_225 rfl (lv_at hl 2 rfl) ?_
    refine gf_X9_50 S hW dX9_carryOut_226 ?_
    refine lv_iload_n hxe hcd dX9_carryOut_229 rfl (lv_at hl 4 rfl) ?_
    refine r_calli0 (r_runV hZ S hW (As := [.int (nI jc)]) (rest := [.int (nI (nfV v)), .ref (A (b0, 1))]) (t_X1_signAt l hZ A g μ H.size (nI jc)) k_X9_390 (r_recv hW (x := (0, 22)) (in_r (by decide) (by decide)) rfl rfl) (hl.1) rfl rfl (Nat.le_of_ble_eq_true rfl) ⟨Nat.le_of_ble_eq_true rfl, Nat.le_of_ble_eq_true rfl⟩ ⟨Nat.le_of_ble_eq_true rfl, Nat.le_of_ble_eq_true rfl⟩ dX9_carryOut_230) hW (fun r230 H locs hp230 hW => ?_)
    have hp230 := hp230.symm
    subst hp230
    refine r_as (y := (nI 115)) (by rw [rd_in (n := 12) (k := jc) _ hjc (by decide), hC1]; decide) ?_
    refine lv_iload_n hxe hcd dX9_carryOut_233 rfl (lv_at hl 1 rfl) ?_
    refine r_calli (F := (cE Z A g)) (r_runV hZ S hW (As := [.int (nI (nfV v)), .int (nI 115), .int (nI a1)]) (rest := []) (t_X0_putFilter l hZ A g μ H.size hb0 (nf := nfV v) (q := (nfV v)) (RP_c hR hVG) (by omega) (by omega) (nI 115) (nI a1)) k_X9_93 (r_recv hW (x := (b0, 1)) (in_s hb0 (by decide)) rfl rfl) (hl.1) rfl rfl (Nat.le_of_ble_eq_true rfl) ⟨Nat.le_of_ble_eq_true rfl, Nat.le_of_ble_eq_true rfl⟩ ⟨Nat.le_of_ble_eq_true rfl, Nat.le_of_ble_eq_true rfl⟩ dX9_carryOut_234) hW (fun r234 u234 H locs hp234 hW => ?_)
    obtain ⟨hp234, hp234m⟩ := hp234
    have hp234 := hp234.symm
    subst hp234
    have hp234m := hp234m.symm
    subst hp234m
    refine lv_pop hxe hcd dX9_carryOut_237 rfl ?_
    refine r_vret S hr hlk (F := (cE Z A g)) (u := (up2 (chM μ b0 (insR (μ b0 2) (nfV v) (nfV v) (nI 115)) (insR (μ b0 3) (nfV v) (nfV v) (nI a1))) b0 1 (upd (μ b0 1) 2 (nI (nfV v + 1))))) hW ?_ dX9_carryOut_238
    refine ⟨RP_ins hR hVG (Nat.le_refl _) h8 hk (by omega) (by simp [chM, up2_rb, upd_rd]) (by simp [chM, up2_rb, upd_rd]) (by simp [chM, up2_rb, upd_rd]) (fun o ho1 ho2 => by simp only [chM, up2_rb]; rw [if_neg (by omega), if_neg (by omega), if_neg (by omega)]), ?_⟩
    repeat (first | exact SQb_rfl _ _ | refine SQb_up ?_ (by decide) _ | exact SQb_SQ (SQ_18 _ _ _))
  · have hex := (exV_6).symm.trans hex
    obtain ⟨hxd, rfl⟩ := ite_some hex
    refine lv_aload_n hxe hcd dX9_carryOut_0 rfl (lv_at hl 0 rfl) ?_
    refine gf_X9_50 S hW dX9_carryOut_1 ?_
    refine lv_iload_n hxe hcd dX9_carryOut_4 rfl (lv_at hl 2 rfl) ?_
    refine lv_iconst (v := (nI 0)) hxe hcd dX9_carryOut_5 (by decide) ?_
    refine r_calli0 (r_runV hZ S hW (As := [.int (nI jc), .int (nI 0)]) (rest := []) (t_X1_numberAt l hZ A g μ s.heap.size (j := jc) (i := 0)) k_X9_387 (r_recv hW (x := (0, 22)) (in_r (by decide) (by decide)) rfl rfl) (hl.1) rfl rfl (Nat.le_of_ble_eq_true rfl) ⟨Nat.le_of_ble_eq_true rfl, Nat.le_of_ble_eq_true rfl⟩ ⟨Nat.le_of_ble_eq_true rfl, Nat.le_of_ble_eq_true rfl⟩ dX9_carryOut_6) hW (fun r6 H locs hp6 hW => ?_)
    have hp6 := hp6.symm
    subst hp6
    refine r_as (y := (nI a1)) (by rw [rd_in (n := 48) (k := jc * 4 + 0) _ (by omega) (by decide), hC2]) ?_
    refine lv_istore_n (lv' := [(3, .int (nI a1)), (0, .ref (A (0, 14))), (1, .ref (A (b0, 0))), (2, .int (nI jc))]) hxe hcd dX9_carryOut_9 rfl hl (by decide) rfl (fun ls hl => ?_)
    refine lv_aload_n hxe hcd dX9_carryOut_10 rfl (lv_at hl 1 rfl) ?_
    refine gf_X9_50 S hW dX9_carryOut_11 ?_
    refine lv_iload_n hxe hcd dX9_carryOut_14 rfl (lv_at hl 3 rfl) ?_
    refine lv_iconst (v := (nI 1)) hxe hcd dX9_carryOut_15 (by decide) ?_
    refine r_calli0 (r_runV hZ S hW (As := [.int (nI jc), .int (nI 1)]) (rest := []) (t_X1_numberAt l hZ A g μ H.size (j := jc) (i := 1)) k_X9_387 (r_recv hW (x := (0, 22)) (in_r (by decide) (by decide)) rfl rfl) (hl.1) rfl rfl (Nat.le_of_ble_eq_true rfl) ⟨Nat.le_of_ble_eq_true rfl, Nat.le_of_ble_eq_true rfl⟩ ⟨Nat.le_of_ble_eq_true rfl, Nat.le_of_ble_eq_true rfl⟩ dX9_carryOut_16) hW (fun r16 H locs hp16 hW => ?_)
    have hp16 := hp16.symm
    subst hp16
    refine lv_istore (lv' := [(4, .int (rd 48 (μ 0 25) (nI (jc * 4 + 1)))), (3, .int (nI a1)), (0, .ref (A (0, 14))), (1, .ref (A (b0, 0))), (2, .int (nI jc))]) hxe hcd dX9_carryOut_19 hl (by decide) rfl (fun ls hl => ?_)
    refine lv_aload_n hxe hcd dX9_carryOut_21 rfl (lv_at hl 2 rfl) ?_
    refine gf_X9_50 S hW dX9_carryOut_22 ?_
    refine lv_iload_n hxe hcd dX9_carryOut_25 rfl (lv_at hl 4 rfl) ?_
    refine r_calli0 (r_runV hZ S hW (As := [.int (nI jc)]) (rest := []) (t_X1_signAt l hZ A g μ H.size (nI jc)) k_X9_390 (r_recv hW (x := (0, 22)) (in_r (by decide) (by decide)) rfl rfl) (hl.1) rfl rfl (Nat.le_of_ble_eq_true rfl) ⟨Nat.le_of_ble_eq_true rfl, Nat.le_of_ble_eq_true rfl⟩ ⟨Nat.le_of_ble_eq_true rfl, Nat.le_of_ble_eq_true rfl⟩ dX9_carryOut_26) hW (fun r26 H locs hp26 hW => ?_)
    have hp26 := hp26.symm
    subst hp26
    refine r_as (y := (nI 82)) (by rw [rd_in (n := 12) (k := jc) _ hjc (by decide), hC1]; decide) ?_
    refine lv_tableIn (tgt := 116) hxe hcd dX9_carryOut_29 (by decide) (by decide) (by first | rfl | decide) (by decide) ?_
    refine lv_aload_n hxe hcd dX9_carryOut_116 rfl (lv_at hl 3 rfl) ?_
    refine gf_X9_72 S hW hb0 dX9_carryOut_117 ?_
    refine lv_iload_n hxe hcd dX9_carryOut_120 rfl (lv_at hl 1 rfl) ?_
    refine r_calli (F := (cE Z A g)) (r_runV hZ S hW (As := [.int (nI a1)]) (rest := []) (t_X0_takeFilter l hZ A g μ H.size hb0 (nf := nfV v) (q := a1) (RP_c hR hVG) (by omega) (by omega)) k_X9_104 (r_recv hW (x := (b0, 1)) (in_s hb0 (by decide)) rfl rfl) (hl.1) rfl rfl (Nat.le_of_ble_eq_true rfl) ⟨Nat.le_of_ble_eq_true rfl, Nat.le_of_ble_eq_true rfl⟩ ⟨Nat.le_of_ble_eq_true rfl, Nat.le_of_ble_eq_true rfl⟩ dX9_carryOut_121) hW (fun r121 u121 H locs hp121 hW => ?_)
    obtain ⟨hp121, hp121m⟩ := hp121
    have hp121 := hp121.symm
    subst hp121
    have hp121m := hp121m.symm
    subst hp121m
    refine lv_pop hxe hcd dX9_carryOut_124 rfl ?_
    refine lv_goto (tgt := 238) hxe hcd dX9_carryOut_125 (by decide) ?_
    refine r_vret S hr hlk (F := (cE Z A g)) (u := (up2 (chM μ b0 (slR (μ b0 2) a1 (nfV v - 1)) (slR (μ b0 3) a1 (nfV v - 1))) b0 1 (upd (μ b0 1) 2 (nI (nfV v - 1))))) hW ?_ dX9_carryOut_238
    refine ⟨RP_del hR hVG hxd (by simp [chM, up2_rb, upd_rd]) (by simp [chM, up2_rb, upd_rd]) (by simp [chM, up2_rb, upd_rd]) (fun o ho1 ho2 => by simp only [chM, up2_rb]; rw [if_neg (by omega), if_neg (by omega), if_neg (by omega)]), ?_⟩
    repeat (first | exact SQb_rfl _ _ | refine SQb_up ?_ (by decide) _ | exact SQb_SQ (SQ_18 _ _ _))
  · have hex := (exV_7).symm.trans hex
    obtain ⟨⟨hq, nv, hfit⟩, rfl⟩ := ite_some hex
    have nv2 := (nI_rn (by omega) (by decide) (by decide)).mp nv.1
    have nv4 := (nI_rn (by omega) (by decide) (by decide)).mp nv.2.2
    have hnn := hVG.2.2.2.1 a1 hq
    refine lv_aload_n hxe hcd dX9_carryOut_0 rfl (lv_at hl 0 rfl) ?_
    refine gf_X9_50 S hW dX9_carryOut_1 ?_
    refine lv_iload_n hxe hcd dX9_carryOut_4 rfl (lv_at hl 2 rfl) ?_
    refine lv_iconst (v := (nI 0)) hxe hcd dX9_carryOut_5 (by decide) ?_
    refine r_calli0 (r_runV hZ S hW (As := [.int (nI jc), .int (nI 0)]) (rest := []) (t_X1_numberAt l hZ A g μ s.heap.size (j := jc) (i := 0)) k_X9_387 (r_recv hW (x := (0, 22)) (in_r (by decide) (by decide)) rfl rfl) (hl.1) rfl rfl (Nat.le_of_ble_eq_true rfl) ⟨Nat.le_of_ble_eq_true rfl, Nat.le_of_ble_eq_true rfl⟩ ⟨Nat.le_of_ble_eq_true rfl, Nat.le_of_ble_eq_true rfl⟩ dX9_carryOut_6) hW (fun r6 H locs hp6 hW => ?_)
    have hp6 := hp6.symm
    subst hp6
    refine r_as (y := (nI a1)) (by rw [rd_in (n := 48) (k := jc * 4 + 0) _ (by omega) (by decide), hC2]) ?_
    refine lv_istore_n (lv' := [(3, .int (nI a1)), (0, .ref (A (0, 14))), (1, .ref (A (b0, 0))), (2, .int (nI jc))]) hxe hcd dX9_carryOut_9 rfl hl (by decide) rfl (fun ls hl => ?_)
    refine lv_aload_n hxe hcd dX9_carryOut_10 rfl (lv_at hl 1 rfl) ?_
    refine gf_X9_50 S hW dX9_carryOut_11 ?_
    refine lv_iload_n hxe hcd dX9_carryOut_14 rfl (lv_at hl 3 rfl) ?_
    refine lv_iconst (v := (nI 1)) hxe hcd dX9_carryOut_15 (by decide) ?_
    refine r_calli0 (r_runV hZ S hW (As := [.int (nI jc), .int (nI 1)]) (rest := []) (t_X1_numberAt l hZ A g μ H.size (j := jc) (i := 1)) k_X9_387 (r_recv hW (x := (0, 22)) (in_r (by decide) (by decide)) rfl rfl) (hl.1) rfl rfl (Nat.le_of_ble_eq_true rfl) ⟨Nat.le_of_ble_eq_true rfl, Nat.le_of_ble_eq_true rfl⟩ ⟨Nat.le_of_ble_eq_true rfl, Nat.le_of_ble_eq_true rfl⟩ dX9_carryOut_16) hW (fun r16 H locs hp16 hW => ?_)
    have hp16 := hp16.symm
    subst hp16
    refine r_as (y := (nI a2)) (by rw [rd_in (n := 48) (k := jc * 4 + 1) _ (by omega) (by decide), hC3 (by decide)]) ?_
    refine lv_istore (lv' := [(4, .int (nI a2)), (3, .int (nI a1)), (0, .ref (A (0, 14))), (1, .ref (A (b0, 0))), (2, .int (nI jc))]) hxe hcd dX9_carryOut_19 hl (by decide) rfl (fun ls hl => ?_)
    refine lv_aload_n hxe hcd dX9_carryOut_21 rfl (lv_at hl 2 rfl) ?_
    refine gf_X9_50 S hW dX9_carryOut_22 ?_
    refine lv_iload_n hxe hcd dX9_carryOut_25 rfl (lv_at hl 4 rfl) ?_
    refine r_calli0 (r_runV hZ S hW (As := [.int (nI jc)]) (rest := []) (t_X1_signAt l hZ A g μ H.size (nI jc)) k_X9_390 (r_recv hW (x := (0, 22)) (in_r (by decide) (by decide)) rfl rfl) (hl.1) rfl rfl (Nat.le_of_ble_eq_true rfl) ⟨Nat.le_of_ble_eq_true rfl, Nat.le_of_ble_eq_true rfl⟩ ⟨Nat.le_of_ble_eq_true rfl, Nat.le_of_ble_eq_true rfl⟩ dX9_carryOut_26) hW (fun r26 H locs hp26 hW => ?_)
    have hp26 := hp26.symm
    subst hp26
    refine r_as (y := (nI 78)) (by rw [rd_in (n := 12) (k := jc) _ hjc (by decide), hC1]; decide) ?_
    refine lv_tableIn (tgt := 128) hxe hcd dX9_carryOut_29 (by decide) (by decide) (by first | rfl | decide) (by decide) ?_
    refine lv_aload_n hxe hcd dX9_carryOut_128 rfl (lv_at hl 3 rfl) ?_
    refine gf_X9_122 S hW hb0 dX9_carryOut_129 ?_
    refine lv_iload_n hxe hcd dX9_carryOut_132 rfl (lv_at hl 1 rfl) ?_
    refine lv_iload hxe hcd dX9_carryOut_133 (lv_at hl 0 rfl) ?_
    refine lv_aload_n hxe hcd dX9_carryOut_135 rfl (lv_at hl 2 rfl) ?_
    refine gf_X9_50 S hW dX9_carryOut_136 ?_
    refine lv_iload_n hxe hcd dX9_carryOut_139 rfl (lv_at hl 4 rfl) ?_
    refine lv_iconst (v := (nI 2)) hxe hcd dX9_carryOut_140 (by decide) ?_
    refine r_calli0 (r_runV hZ S hW (As := [.int (nI jc), .int (nI 2)]) (rest := [.int (nI a2), .int (nI a1), .ref (A (b0, 4))]) (t_X1_numberAt l hZ A g μ H.size (j := jc) (i := 2)) k_X9_387 (r_recv hW (x := (0, 22)) (in_r (by decide) (by decide)) rfl rfl) (hl.1) rfl rfl (Nat.le_of_ble_eq_true rfl) ⟨Nat.le_of_ble_eq_true rfl, Nat.le_of_ble_eq_true rfl⟩ ⟨Nat.le_of_ble_eq_true rfl, Nat.le_of_ble_eq_true rfl⟩ dX9_carryOut_141) hW (fun r141 H locs hp141 hW => ?_)
    have hp141 := hp141.symm
    subst hp141
    refine r_as (y := (nI a3)) (by rw [rd_in (n := 48) (k := jc * 4 + 2) _ (by omega) (by decide), (hC4 rfl).1]) ?_
    refine lv_aload_n hxe hcd dX9_carryOut_144 rfl (lv_at hl 2 rfl) ?_
    refine gf_X9_50 S hW dX9_carryOut_145 ?_
    refine lv_iload_n hxe hcd dX9_carryOut_148 rfl (lv_at hl 4 rfl) ?_
    refine lv_iconst (v := (nI 3)) hxe hcd dX9_carryOut_149 (by decide) ?_
    refine r_calli0 (r_runV hZ S hW (As := [.int (nI jc), .int (nI 3)]) (rest := [.int (nI a3), .int (nI a2), .int (nI a1), .ref (A (b0, 4))]) (t_X1_numberAt l hZ A g μ H.size (j := jc) (i := 3)) k_X9_387 (r_recv hW (x := (0, 22)) (in_r (by decide) (by decide)) rfl rfl) (hl.1) rfl rfl (Nat.le_of_ble_eq_true rfl) ⟨Nat.le_of_ble_eq_true rfl, Nat.le_of_ble_eq_true rfl⟩ ⟨Nat.le_of_ble_eq_true rfl, Nat.le_of_ble_eq_true rfl⟩ dX9_carryOut_150) hW (fun r150 H locs hp150 hW => ?_)
    have hp150 := hp150.symm
    subst hp150
    refine r_as (y := (nI a4)) (by rw [rd_in (n := 48) (k := jc * 4 + 3) _ (by omega) (by decide), (hC4 rfl).2]) ?_
    refine r_calli (F := (cE Z A g)) (r_runV hZ S hW (As := [.int (nI a1), .int (nI a2), .int (nI a3), .int (nI a4)]) (rest := []) (t_X5_putNote l hZ A g μ H.size hb0 (q := a1) (n := lnV v a1) (k := a4) (j := nnV v a1) (P := a2) (nI a3) (by omega) (RP_l7 hR hVG (by omega)) (by omega) (RP_l8 hR hVG (by omega)) (by omega) (by omega) (by omega)) k_X9_132 (r_recv hW (x := (b0, 4)) (in_s hb0 (by decide)) rfl rfl) (hl.1) rfl rfl (Nat.le_of_ble_eq_true rfl) ⟨Nat.le_of_ble_eq_true rfl, Nat.le_of_ble_eq_true rfl⟩ ⟨Nat.le_of_ble_eq_true rfl, Nat.le_of_ble_eq_true rfl⟩ dX9_carryOut_153) hW (fun r153 u153 H locs hp153 hW => ?_)
    obtain ⟨hp153, hp153m⟩ := hp153
    have hp153 := hp153.symm
    subst hp153
    have hp153m := hp153m.symm
    subst hp153m
    refine lv_pop hxe hcd dX9_carryOut_156 rfl ?_
    refine lv_goto (tgt := 238) hxe hcd dX9_carryOut_157 (by decide) ?_
    refine r_vret S hr hlk (F := (cE Z A g)) (u := (up2 (up2 (up2 (up2 μ b0 5 (ntR (μ b0 5) (a1 * 160 + lnV v a1) a2 (nI a3) a4)) b0 6 (upd (μ b0 6) (a1 * 160 + nnV v a1) (nI a4))) b0 8 (upd (μ b0 8) a1 (nI (nnV v a1 + 1)))) b0 7 (upd (μ b0 7) a1 (nI (lnV v a1 + a4))))) hW ?_ dX9_carryOut_238
    refine ⟨RP_note hR hVG hq (by omega) hfit nv.2.1 (by simp [chM, up2_rb, upd_rd]) (by simp [chM, up2_rb, upd_rd]) (by simp [chM, up2_rb, upd_rd]) (by simp [chM, up2_rb, upd_rd]) (fun o ho => by simp only [chM, up2_rb]; rw [if_neg (by omega), if_neg (by omega), if_neg (by omega), if_neg (by omega)]), ?_⟩
    repeat (first | exact SQb_rfl _ _ | refine SQb_up ?_ (by decide) _ | exact SQb_SQ (SQ_18 _ _ _))
  · have hex := (exV_8).symm.trans hex
    obtain ⟨hxd, rfl⟩ := ite_some hex
    refine lv_aload_n hxe hcd dX9_carryOut_0 rfl (lv_at hl 0 rfl) ?_
    refine gf_X9_50 S hW dX9_carryOut_1 ?_
    refine lv_iload_n hxe hcd dX9_carryOut_4 rfl (lv_at hl 2 rfl) ?_
    refine lv_iconst (v := (nI 0)) hxe hcd dX9_carryOut_5 (by decide) ?_
    refine r_calli0 (r_runV hZ S hW (As := [.int (nI jc), .int (nI 0)]) (rest := []) (t_X1_numberAt l hZ A g μ s.heap.size (j := jc) (i := 0)) k_X9_387 (r_recv hW (x := (0, 22)) (in_r (by decide) (by decide)) rfl rfl) (hl.1) rfl rfl (Nat.le_of_ble_eq_true rfl) ⟨Nat.le_of_ble_eq_true rfl, Nat.le_of_ble_eq_true rfl⟩ ⟨Nat.le_of_ble_eq_true rfl, Nat.le_of_ble_eq_true rfl⟩ dX9_carryOut_6) hW (fun r6 H locs hp6 hW => ?_)
    have hp6 := hp6.symm
    subst hp6
    refine r_as (y := (nI a1)) (by rw [rd_in (n := 48) (k := jc * 4 + 0) _ (by omega) (by decide), hC2]) ?_
    refine lv_istore_n (lv' := [(3, .int (nI a1)), (0, .ref (A (0, 14))), (1, .ref (A (b0, 0))), (2, .int (nI jc))]) hxe hcd dX9_carryOut_9 rfl hl (by decide) rfl (fun ls hl => ?_)
    refine lv_aload_n hxe hcd dX9_carryOut_10 rfl (lv_at hl 1 rfl) ?_
    refine gf_X9_50 S hW dX9_carryOut_11 ?_
    refine lv_iload_n hxe hcd dX9_carryOut_14 rfl (lv_at hl 3 rfl) ?_
    refine lv_iconst (v := (nI 1)) hxe hcd dX9_carryOut_15 (by decide) ?_
    refine r_calli0 (r_runV hZ S hW (As := [.int (nI jc), .int (nI 1)]) (rest := []) (t_X1_numberAt l hZ A g μ H.size (j := jc) (i := 1)) k_X9_387 (r_recv hW (x := (0, 22)) (in_r (by decide) (by decide)) rfl rfl) (hl.1) rfl rfl (Nat.le_of_ble_eq_true rfl) ⟨Nat.le_of_ble_eq_true rfl, Nat.le_of_ble_eq_true rfl⟩ ⟨Nat.le_of_ble_eq_true rfl, Nat.le_of_ble_eq_true rfl⟩ dX9_carryOut_16) hW (fun r16 H locs hp16 hW => ?_)
    have hp16 := hp16.symm
    subst hp16
    refine lv_istore (lv' := [(4, .int (rd 48 (μ 0 25) (nI (jc * 4 + 1)))), (3, .int (nI a1)), (0, .ref (A (0, 14))), (1, .ref (A (b0, 0))), (2, .int (nI jc))]) hxe hcd dX9_carryOut_19 hl (by decide) rfl (fun ls hl => ?_)
    refine lv_aload_n hxe hcd dX9_carryOut_21 rfl (lv_at hl 2 rfl) ?_
    refine gf_X9_50 S hW dX9_carryOut_22 ?_
    refine lv_iload_n hxe hcd dX9_carryOut_25 rfl (lv_at hl 4 rfl) ?_
    refine r_calli0 (r_runV hZ S hW (As := [.int (nI jc)]) (rest := []) (t_X1_signAt l hZ A g μ H.size (nI jc)) k_X9_390 (r_recv hW (x := (0, 22)) (in_r (by decide) (by decide)) rfl rfl) (hl.1) rfl rfl (Nat.le_of_ble_eq_true rfl) ⟨Nat.le_of_ble_eq_true rfl, Nat.le_of_ble_eq_true rfl⟩ ⟨Nat.le_of_ble_eq_true rfl, Nat.le_of_ble_eq_true rfl⟩ dX9_carryOut_26) hW (fun r26 H locs hp26 hW => ?_)
    have hp26 := hp26.symm
    subst hp26
    refine r_as (y := (nI 84)) (by rw [rd_in (n := 12) (k := jc) _ hjc (by decide), hC1]; decide) ?_
    refine lv_tableIn (tgt := 160) hxe hcd dX9_carryOut_29 (by decide) (by decide) (by first | rfl | decide) (by decide) ?_
    refine lv_aload_n hxe hcd dX9_carryOut_160 rfl (lv_at hl 3 rfl) ?_
    refine gf_X9_193 S hW hb0 dX9_carryOut_161 ?_
    refine lv_iload_n hxe hcd dX9_carryOut_164 rfl (lv_at hl 1 rfl) ?_
    refine r_calli (F := (cE Z A g)) (r_runV hZ S hW (As := [.int (nI a1)]) (rest := []) (t_X7_putTank l hZ A g μ H.size (Or.inl hb0) (nt := ntV v) (RP_nt hR hVG) (by omega) (nI a1)) k_X9_199 (r_recv hW (x := (b0, 9)) (in_s hb0 (by decide)) rfl rfl) (hl.1) rfl rfl (Nat.le_of_ble_eq_true rfl) ⟨Nat.le_of_ble_eq_true rfl, Nat.le_of_ble_eq_true rfl⟩ ⟨Nat.le_of_ble_eq_true rfl, Nat.le_of_ble_eq_true rfl⟩ dX9_carryOut_165) hW (fun r165 u165 H locs hp165 hW => ?_)
    obtain ⟨hp165, hp165m⟩ := hp165
    have hp165 := hp165.symm
    subst hp165
    have hp165m := hp165m.symm
    subst hp165m
    refine lv_pop hxe hcd dX9_carryOut_168 rfl ?_
    refine lv_goto (tgt := 238) hxe hcd dX9_carryOut_169 (by decide) ?_
    refine r_vret S hr hlk (F := (cE Z A g)) (u := (up2 (up2 (up2 (up2 μ b0 10 (upd (μ b0 10) (ntV v) (nI a1))) b0 11 (upd (μ b0 11) (ntV v) (nI 9999))) b0 12 (upd (μ b0 12) (ntV v) (nI 0))) b0 9 (upd (μ b0 9) 4 (nI (ntV v + 1))))) hW ?_ dX9_carryOut_238
    refine ⟨RP_add hR hVG hxd.2.2 ⟨hxd.1, hxd.2.1⟩ (by simp [chM, up2_rb, upd_rd]) (by simp [chM, up2_rb, upd_rd]) (by simp [chM, up2_rb, upd_rd]) (by simp [chM, up2_rb, upd_rd]) (fun o ho => by simp only [chM, up2_rb]; rw [if_neg (by omega), if_neg (by omega), if_neg (by omega), if_neg (by omega)]), ?_⟩
    repeat (first | exact SQb_rfl _ _ | refine SQb_up ?_ (by decide) _ | exact SQb_SQ (SQ_18 _ _ _))
  · have hex := (exV_9).symm.trans hex
    obtain ⟨hxd, rfl⟩ := ite_some hex
    refine lv_aload_n hxe hcd dX9_carryOut_0 rfl (lv_at hl 0 rfl) ?_
    refine gf_X9_50 S hW dX9_carryOut_1 ?_
    refine lv_iload_n hxe hcd dX9_carryOut_4 rfl (lv_at hl 2 rfl) ?_
    refine lv_iconst (v := (nI 0)) hxe hcd dX9_carryOut_5 (by decide) ?_
    refine r_calli0 (r_runV hZ S hW (As := [.int (nI jc), .int (nI 0)]) (rest := []) (t_X1_numberAt l hZ A g μ s.heap.size (j := jc) (i := 0)) k_X9_387 (r_recv hW (x := (0, 22)) (in_r (by decide) (by decide)) rfl rfl) (hl.1) rfl rfl (Nat.le_of_ble_eq_true rfl) ⟨Nat.le_of_ble_eq_true rfl, Nat.le_of_ble_eq_true rfl⟩ ⟨Nat.le_of_ble_eq_true rfl, Nat.le_of_ble_eq_true rfl⟩ dX9_carryOut_6) hW (fun r6 H locs hp6 hW => ?_)
    have hp6 := hp6.symm
    subst hp6
    refine r_as (y := (nI a1)) (by rw [rd_in (n := 48) (k := jc * 4 + 0) _ (by omega) (by decide), hC2]) ?_
    refine lv_istore_n (lv' := [(3, .int (nI a1)), (0, .ref (A (0, 14))), (1, .ref (A (b0, 0))), (2, .int (nI jc))]) hxe hcd dX9_carryOut_9 rfl hl (by decide) rfl (fun ls hl => ?_)
    refine lv_aload_n hxe hcd dX9_carryOut_10 rfl (lv_at hl 1 rfl) ?_
    refine gf_X9_50 S hW dX9_carryOut_11 ?_
    refine lv_iload_n hxe hcd dX9_carryOut_14 rfl (lv_at hl 3 rfl) ?_
    refine lv_iconst (v := (nI 1)) hxe hcd dX9_carryOut_15 (by decide) ?_
    refine r_calli0 (r_runV hZ S hW (As := [.int (nI jc), .int (nI 1)]) (rest := []) (t_X1_numberAt l hZ A g μ H.size (j := jc) (i := 1)) k_X9_387 (r_recv hW (x := (0, 22)) (in_r (by decide) (by decide)) rfl rfl) (hl.1) rfl rfl (Nat.le_of_ble_eq_true rfl) ⟨Nat.le_of_ble_eq_true rfl, Nat.le_of_ble_eq_true rfl⟩ ⟨Nat.le_of_ble_eq_true rfl, Nat.le_of_ble_eq_true rfl⟩ dX9_carryOut_16) hW (fun r16 H locs hp16 hW => ?_)
    have hp16 := hp16.symm
    subst hp16
    refine r_as (y := (nI a2)) (by rw [rd_in (n := 48) (k := jc * 4 + 1) _ (by omega) (by decide), hC3 (by decide)]) ?_
    refine lv_istore (lv' := [(4, .int (nI a2)), (3, .int (nI a1)), (0, .ref (A (0, 14))), (1, .ref (A (b0, 0))), (2, .int (nI jc))]) hxe hcd dX9_carryOut_19 hl (by decide) rfl (fun ls hl => ?_)
    refine lv_aload_n hxe hcd dX9_carryOut_21 rfl (lv_at hl 2 rfl) ?_
    refine gf_X9_50 S hW dX9_carryOut_22 ?_
    refine lv_iload_n hxe hcd dX9_carryOut_25 rfl (lv_at hl 4 rfl) ?_
    refine r_calli0 (r_runV hZ S hW (As := [.int (nI jc)]) (rest := []) (t_X1_signAt l hZ A g μ H.size (nI jc)) k_X9_390 (r_recv hW (x := (0, 22)) (in_r (by decide) (by decide)) rfl rfl) (hl.1) rfl rfl (Nat.le_of_ble_eq_true rfl) ⟨Nat.le_of_ble_eq_true rfl, Nat.le_of_ble_eq_true rfl⟩ ⟨Nat.le_of_ble_eq_true rfl, Nat.le_of_ble_eq_true rfl⟩ dX9_carryOut_26) hW (fun r26 H locs hp26 hW => ?_)
    have hp26 := hp26.symm
    subst hp26
    refine r_as (y := (nI 85)) (by rw [rd_in (n := 12) (k := jc) _ hjc (by decide), hC1]; decide) ?_
    refine lv_tableIn (tgt := 172) hxe hcd dX9_carryOut_29 (by decide) (by decide) (by first | rfl | decide) (by decide) ?_
    refine lv_aload_n hxe hcd dX9_carryOut_172 rfl (lv_at hl 3 rfl) ?_
    refine gf_X9_193 S hW hb0 dX9_carryOut_173 ?_
    refine lv_iload_n hxe hcd dX9_carryOut_176 rfl (lv_at hl 1 rfl) ?_
    refine lv_iload hxe hcd dX9_carryOut_177 (lv_at hl 0 rfl) ?_
    refine r_calli (F := (cE Z A g)) (r_runV hZ S hW (As := [.int (nI a1), .int (nI a2)]) (rest := []) (t_X7_tune l hZ A g μ H.size (Or.inl hb0) (q := a1) (by omega) (nI a2)) k_X9_205 (r_recv hW (x := (b0, 9)) (in_s hb0 (by decide)) rfl rfl) (hl.1) rfl rfl (Nat.le_of_ble_eq_true rfl) ⟨Nat.le_of_ble_eq_true rfl, Nat.le_of_ble_eq_true rfl⟩ ⟨Nat.le_of_ble_eq_true rfl, Nat.le_of_ble_eq_true rfl⟩ dX9_carryOut_179) hW (fun r179 u179 H locs hp179 hW => ?_)
    obtain ⟨hp179, hp179m⟩ := hp179
    have hp179 := hp179.symm
    subst hp179
    have hp179m := hp179m.symm
    subst hp179m
    refine lv_pop hxe hcd dX9_carryOut_182 rfl ?_
    refine lv_goto (tgt := 238) hxe hcd dX9_carryOut_183 (by decide) ?_
    refine r_vret S hr hlk (F := (cE Z A g)) (u := (up2 μ b0 11 (upd (μ b0 11) a1 (nI a2)))) hW ?_ dX9_carryOut_238
    refine ⟨RP_tune hR hVG hxd (by omega) (by simp [chM, up2_rb, upd_rd]) (fun o ho => by simp only [chM, up2_rb]; rw [if_neg (by omega)]), ?_⟩
    repeat (first | exact SQb_rfl _ _ | refine SQb_up ?_ (by decide) _ | exact SQb_SQ (SQ_18 _ _ _))
  · have hex := (exV_10).symm.trans hex
    obtain ⟨⟨hq, h0⟩, rfl⟩ := ite_some hex
    obtain ⟨q, rfl⟩ : ∃ q, q = a1 := ⟨_, rfl⟩
    refine lv_aload_n hxe hcd dX9_carryOut_0 rfl (lv_at hl 0 rfl) ?_
    refine gf_X9_50 S hW dX9_carryOut_1 ?_
    refine lv_iload_n hxe hcd dX9_carryOut_4 rfl (lv_at hl 2 rfl) ?_
    refine lv_iconst (v := (nI 0)) hxe hcd dX9_carryOut_5 (by decide) ?_
    refine r_calli0 (r_runV hZ S hW (As := [.int (nI jc), .int (nI 0)]) (rest := []) (t_X1_numberAt l hZ A g μ s.heap.size (j := jc) (i := 0)) k_X9_387 (r_recv hW (x := (0, 22)) (in_r (by decide) (by decide)) rfl rfl) (hl.1) rfl rfl (Nat.le_of_ble_eq_true rfl) ⟨Nat.le_of_ble_eq_true rfl, Nat.le_of_ble_eq_true rfl⟩ ⟨Nat.le_of_ble_eq_true rfl, Nat.le_of_ble_eq_true rfl⟩ dX9_carryOut_6) hW (fun r6 H locs hp6 hW => ?_)
    have hp6 := hp6.symm
    subst hp6
    refine r_as (y := (nI q)) (by rw [rd_in (n := 48) (k := jc * 4 + 0) _ (by omega) (by decide), hC2]) ?_
    refine lv_istore_n (lv' := [(3, .int (nI q)), (0, .ref (A (0, 14))), (1, .ref (A (b0, 0))), (2, .int (nI jc))]) hxe hcd dX9_carryOut_9 rfl hl (by decide) rfl (fun ls hl => ?_)
    refine lv_aload_n hxe hcd dX9_carryOut_10 rfl (lv_at hl 1 rfl) ?_
    refine gf_X9_50 S hW dX9_carryOut_11 ?_
    refine lv_iload_n hxe hcd dX9_carryOut_14 rfl (lv_at hl 3 rfl) ?_
    refine lv_iconst (v := (nI 1)) hxe hcd dX9_carryOut_15 (by decide) ?_
    refine r_calli0 (r_runV hZ S hW (As := [.int (nI jc), .int (nI 1)]) (rest := []) (t_X1_numberAt l hZ A g μ H.size (j := jc) (i := 1)) k_X9_387 (r_recv hW (x := (0, 22)) (in_r (by decide) (by decide)) rfl rfl) (hl.1) rfl rfl (Nat.le_of_ble_eq_true rfl) ⟨Nat.le_of_ble_eq_true rfl, Nat.le_of_ble_eq_true rfl⟩ ⟨Nat.le_of_ble_eq_true rfl, Nat.le_of_ble_eq_true rfl⟩ dX9_carryOut_16) hW (fun r16 H locs hp16 hW => ?_)
    have hp16 := hp16.symm
    subst hp16
    refine lv_istore (lv' := [(4, .int (rd 48 (μ 0 25) (nI (jc * 4 + 1)))), (3, .int (nI q)), (0, .ref (A (0, 14))), (1, .ref (A (b0, 0))), (2, .int (nI jc))]) hxe hcd dX9_carryOut_19 hl (by decide) rfl (fun ls hl => ?_)
    refine lv_aload_n hxe hcd dX9_carryOut_21 rfl (lv_at hl 2 rfl) ?_
    refine gf_X9_50 S hW dX9_carryOut_22 ?_
    refine lv_iload_n hxe hcd dX9_carryOut_25 rfl (lv_at hl 4 rfl) ?_
    refine r_calli0 (r_runV hZ S hW (As := [.int (nI jc)]) (rest := []) (t_X1_signAt l hZ A g μ H.size (nI jc)) k_X9_390 (r_recv hW (x := (0, 22)) (in_r (by decide) (by decide)) rfl rfl) (hl.1) rfl rfl (Nat.le_of_ble_eq_true rfl) ⟨Nat.le_of_ble_eq_true rfl, Nat.le_of_ble_eq_true rfl⟩ ⟨Nat.le_of_ble_eq_true rfl, Nat.le_of_ble_eq_true rfl⟩ dX9_carryOut_26) hW (fun r26 H locs hp26 hW => ?_)
    have hp26 := hp26.symm
    subst hp26
    refine r_as (y := (nI 80)) (by rw [rd_in (n := 12) (k := jc) _ hjc (by decide), hC1]; decide) ?_
    refine lv_tableIn (tgt := 186) hxe hcd dX9_carryOut_29 (by decide) (by decide) (by first | rfl | decide) (by decide) ?_
    refine lv_aload_n hxe hcd dX9_carryOut_186 rfl (lv_at hl 2 rfl) ?_
    refine lv_aload_n hxe hcd dX9_carryOut_187 rfl (lv_at hl 3 rfl) ?_
    refine lv_aload_n hxe hcd dX9_carryOut_188 rfl (lv_at hl 3 rfl) ?_
    refine gf_X9_193 S hW hb0 dX9_carryOut_189 ?_
    refine lv_iload_n hxe hcd dX9_carryOut_192 rfl (lv_at hl 1 rfl) ?_
    refine r_calli (F := (cE Z A g)) (r_runV hZ S hW (As := [.ref (A (b0, 0)), .ref (A (b0, 9)), .int (nI q)]) (rest := []) (t_X9_pourSong l hZ A g μ H.size (b0 := b0) (b := b0) hb0 (Or.inl hb0) hq v hVG hR hR.2.2) k_X9_208 (r_recv hW (x := (0, 14)) (in_r (by decide) (by decide)) rfl rfl) (hl.1) rfl rfl (Nat.le_of_ble_eq_true rfl) ⟨Nat.le_of_ble_eq_true rfl, Nat.le_of_ble_eq_true rfl⟩ ⟨Nat.le_of_ble_eq_true rfl, Nat.le_of_ble_eq_true rfl⟩ dX9_carryOut_193) hW (fun r193 u193 H locs hp193 hW => ?_)
    obtain ⟨hr9, M9, R9, f9, f12, f13, hm9, lv2, hV2, hT2⟩ := hp193
    subst hm9
    subst hr9
    refine lv_pop hxe hcd dX9_carryOut_196 rfl ?_
    refine lv_goto (tgt := 238) hxe hcd dX9_carryOut_197 (by decide) ?_
    refine r_vret S hr hlk (F := (cE Z A g)) (u := (up2 (up2 (up2 (up2 (up2 μ 0 18 M9) 0 19 R9) b0 9 f9) b0 12 f12) b0 13 f13)) hW ?_ dX9_carryOut_238
    refine ⟨RP_pour hR hVG hq hT2 hV2 (fun o ho => TKM_o (by omega)), ?_⟩
    repeat (first | exact SQb_rfl _ _ | refine SQb_up ?_ (by decide) _ | exact SQb_SQ (SQ_18 _ _ _))
  · have hex := (exV_11).symm.trans hex
    obtain ⟨hxd, rfl⟩ := ite_some hex
    refine lv_aload_n hxe hcd dX9_carryOut_0 rfl (lv_at hl 0 rfl) ?_
    refine gf_X9_50 S hW dX9_carryOut_1 ?_
    refine lv_iload_n hxe hcd dX9_carryOut_4 rfl (lv_at hl 2 rfl) ?_
    refine lv_iconst (v := (nI 0)) hxe hcd dX9_carryOut_5 (by decide) ?_
    refine r_calli0 (r_runV hZ S hW (As := [.int (nI jc), .int (nI 0)]) (rest := []) (t_X1_numberAt l hZ A g μ s.heap.size (j := jc) (i := 0)) k_X9_387 (r_recv hW (x := (0, 22)) (in_r (by decide) (by decide)) rfl rfl) (hl.1) rfl rfl (Nat.le_of_ble_eq_true rfl) ⟨Nat.le_of_ble_eq_true rfl, Nat.le_of_ble_eq_true rfl⟩ ⟨Nat.le_of_ble_eq_true rfl, Nat.le_of_ble_eq_true rfl⟩ dX9_carryOut_6) hW (fun r6 H locs hp6 hW => ?_)
    have hp6 := hp6.symm
    subst hp6
    refine r_as (y := (nI a1)) (by rw [rd_in (n := 48) (k := jc * 4 + 0) _ (by omega) (by decide), hC2]) ?_
    refine lv_istore_n (lv' := [(3, .int (nI a1)), (0, .ref (A (0, 14))), (1, .ref (A (b0, 0))), (2, .int (nI jc))]) hxe hcd dX9_carryOut_9 rfl hl (by decide) rfl (fun ls hl => ?_)
    refine lv_aload_n hxe hcd dX9_carryOut_10 rfl (lv_at hl 1 rfl) ?_
    refine gf_X9_50 S hW dX9_carryOut_11 ?_
    refine lv_iload_n hxe hcd dX9_carryOut_14 rfl (lv_at hl 3 rfl) ?_
    refine lv_iconst (v := (nI 1)) hxe hcd dX9_carryOut_15 (by decide) ?_
    refine r_calli0 (r_runV hZ S hW (As := [.int (nI jc), .int (nI 1)]) (rest := []) (t_X1_numberAt l hZ A g μ H.size (j := jc) (i := 1)) k_X9_387 (r_recv hW (x := (0, 22)) (in_r (by decide) (by decide)) rfl rfl) (hl.1) rfl rfl (Nat.le_of_ble_eq_true rfl) ⟨Nat.le_of_ble_eq_true rfl, Nat.le_of_ble_eq_true rfl⟩ ⟨Nat.le_of_ble_eq_true rfl, Nat.le_of_ble_eq_true rfl⟩ dX9_carryOut_16) hW (fun r16 H locs hp16 hW => ?_)
    have hp16 := hp16.symm
    subst hp16
    refine r_as (y := (nI a2)) (by rw [rd_in (n := 48) (k := jc * 4 + 1) _ (by omega) (by decide), hC3 (by decide)]) ?_
    refine lv_istore (lv' := [(4, .int (nI a2)), (3, .int (nI a1)), (0, .ref (A (0, 14))), (1, .ref (A (b0, 0))), (2, .int (nI jc))]) hxe hcd dX9_carryOut_19 hl (by decide) rfl (fun ls hl => ?_)
    refine lv_aload_n hxe hcd dX9_carryOut_21 rfl (lv_at hl 2 rfl) ?_
    refine gf_X9_50 S hW dX9_carryOut_22 ?_
    refine lv_iload_n hxe hcd dX9_carryOut_25 rfl (lv_at hl 4 rfl) ?_
    refine r_calli0 (r_runV hZ S hW (As := [.int (nI jc)]) (rest := []) (t_X1_signAt l hZ A g μ H.size (nI jc)) k_X9_390 (r_recv hW (x := (0, 22)) (in_r (by decide) (by decide)) rfl rfl) (hl.1) rfl rfl (Nat.le_of_ble_eq_true rfl) ⟨Nat.le_of_ble_eq_true rfl, Nat.le_of_ble_eq_true rfl⟩ ⟨Nat.le_of_ble_eq_true rfl, Nat.le_of_ble_eq_true rfl⟩ dX9_carryOut_26) hW (fun r26 H locs hp26 hW => ?_)
    have hp26 := hp26.symm
    subst hp26
    refine r_as (y := (nI 68)) (by rw [rd_in (n := 12) (k := jc) _ hjc (by decide), hC1]; decide) ?_
    refine lv_tableIn (tgt := 200) hxe hcd dX9_carryOut_29 (by decide) (by decide) (by first | rfl | decide) (by decide) ?_
    refine lv_aload_n hxe hcd dX9_carryOut_200 rfl (lv_at hl 3 rfl) ?_
    refine gf_X9_193 S hW hb0 dX9_carryOut_201 ?_
    refine lv_iload_n hxe hcd dX9_carryOut_204 rfl (lv_at hl 1 rfl) ?_
    refine lv_iload hxe hcd dX9_carryOut_205 (lv_at hl 0 rfl) ?_
    refine r_calli (F := (cE Z A g)) (r_runV hZ S hW (As := [.int (nI a1), .int (nI a2)]) (rest := []) (t_X7_takeFrames l hZ A g μ H.size (Or.inl hb0) (q := a1) (j := a2) (n := lvN v a1) (by omega) (RP_alv hR hVG a1 (by omega)).1 (RP_alv hR hVG a1 (by omega)).2 (by omega)) k_X9_215 (r_recv hW (x := (b0, 9)) (in_s hb0 (by decide)) rfl rfl) (hl.1) rfl rfl (Nat.le_of_ble_eq_true rfl) ⟨Nat.le_of_ble_eq_true rfl, Nat.le_of_ble_eq_true rfl⟩ ⟨Nat.le_of_ble_eq_true rfl, Nat.le_of_ble_eq_true rfl⟩ dX9_carryOut_207) hW (fun r207 u207 H locs hp207 hW => ?_)
    obtain ⟨hp207, hp207m⟩ := hp207
    have hp207 := hp207.symm
    subst hp207
    have hp207m := hp207m.symm
    subst hp207m
    refine lv_pop hxe hcd dX9_carryOut_210 rfl ?_
    refine lv_goto (tgt := 238) hxe hcd dX9_carryOut_211 (by decide) ?_
    refine r_vret S hr hlk (F := (cE Z A g)) (u := (up2 (up2 (up2 μ b0 13 (tkR (μ b0 13) (a1 * 9) a2 (lvN v a1 - a2))) b0 12 (upd (μ b0 12) a1 (nI (lvN v a1 - a2)))) b0 9 (upd (μ b0 9) 7 (μ b0 9 7 + nI a2)))) hW ?_ dX9_carryOut_238
    refine ⟨RP_drn hR hVG hxd.1 hxd.2.1 hxd.2.2.2 (by simp [chM, up2_rb, upd_rd]) (by simp [chM, up2_rb, upd_rd]) (by simp [chM, up2_rb, upd_rd]) (fun o ho => by simp only [chM, up2_rb]; rw [if_neg (by omega), if_neg (by omega), if_neg (by omega)]), ?_⟩
    repeat (first | exact SQb_rfl _ _ | refine SQb_up ?_ (by decide) _ | exact SQb_SQ (SQ_18 _ _ _))
