set_option maxHeartbeats 4000000 in
set_option maxRecDepth 100000 in
theorem t_X9_sendSong (l : Launch) {Z : ZT} (hZ : zOK Z) (A : Nat × Nat → Nat) (g : Nat → Bool) (μ : CM) (sz : Nat) {q n nf : Nat} (hq : q < 4) (hl7 : μ 0 7 q = nI n) (hn : n ≤ 160) (hc : μ 0 1 2 = nI nf) (h8 : nf ≤ 8) (ps : Nat → Nat) (hps : ∀ f, f < nf → μ 0 3 f = nI (ps f) ∧ ps f ≤ 999 ∧ KP (μ 0 2 f) (nI (ps f))) : XMi l yX9_sendSong cX9_sendSong 3 (some .int) 5 [.ref (A (0, 14)), .int (nI q)] Z (ids g) A (cE Z A g) μ sz (fun r u => r = nI n ∧ ∃ M R : Nat → Int32, u = up2 (up2 μ 0 18 M) 0 19 R ∧ ∀ j, j < n → R j = flR (fun t => μ 0 5 (q * 160 + t)) (μ 0 2) (μ 0 3) nf j) := by
  refine r_met (E := (cE Z A g μ)) (by decide +kernel) (Nat.le_of_ble_eq_true rfl) ?_
  intro p e s m below meth c ls S hr hlk hnm hsz hW hl
  have hxe := S.1
  have hcd := S.2.1
  subst hsz
  have hl : lv_has ls 3 [(0, .ref (A (0, 14))), (1, .int (nI q))] := hl
  refine lv_aload_n hxe hcd dX9_sendSong_0 rfl (lv_at hl 0 rfl) ?_
  refine gf_X9_10 S hW dX9_sendSong_1 ?_
  refine gf_X9_122 S hW sB_0 dX9_sendSong_4 ?_
  refine lv_iload_n hxe hcd dX9_sendSong_7 rfl (lv_at hl 1 rfl) ?_
  refine r_calli0 (r_runV hZ S hW (As := [.int (nI q)]) (rest := []) (t_X5_samplesOf l hZ A g μ s.heap.size sB_0 (nI q)) k_X9_147 (r_recv hW (x := (0, 4)) (in_s sB_0 (by decide)) rfl rfl) (hl.1) rfl rfl (Nat.le_of_ble_eq_true rfl) ⟨Nat.le_of_ble_eq_true rfl, Nat.le_of_ble_eq_true rfl⟩ ⟨Nat.le_of_ble_eq_true rfl, Nat.le_of_ble_eq_true rfl⟩ dX9_sendSong_8) hW (fun r8 H locs hp8 hW => ?_)
  have hp8 := hp8.symm
  subst hp8
  refine r_as (y := (nI n)) (by rw [rd_in (n := 4) (k := q) _ hq (by decide), hl7]) ?_
  refine lv_istore_n (lv' := [(2, .int (nI n)), (0, .ref (A (0, 14))), (1, .int (nI q))]) hxe hcd dX9_sendSong_11 rfl hl (by decide) rfl (fun ls hl => ?_)
  refine lv_aload_n hxe hcd dX9_sendSong_12 rfl (lv_at hl 1 rfl) ?_
  refine gf_X9_32 S hW dX9_sendSong_13 ?_
  refine lv_aload_n hxe hcd dX9_sendSong_16 rfl (lv_at hl 1 rfl) ?_
  refine gf_X9_10 S hW dX9_sendSong_17 ?_
  refine lv_iload_n hxe hcd dX9_sendSong_20 rfl (lv_at hl 2 rfl) ?_
  refine lv_iload_n hxe hcd dX9_sendSong_21 rfl (lv_at hl 0 rfl) ?_
  refine r_callv (F := (cE Z A g)) (r_runV hZ S hW (As := [.ref (A (0, 0)), .int (nI q), .int (nI n)]) (rest := []) (t_X4_send l hZ A g μ H.size sB_0 (q := q) (n := n) hq hn hc h8 ps hps) k_X9_363 (r_recv hW (x := (0, 17)) (in_r (by decide) (by decide)) rfl rfl) (hl.1) rfl rfl (Nat.le_of_ble_eq_true rfl) ⟨Nat.le_of_ble_eq_true rfl, Nat.le_of_ble_eq_true rfl⟩ ⟨Nat.le_of_ble_eq_true rfl, Nat.le_of_ble_eq_true rfl⟩ dX9_sendSong_22) hW (fun u22 H locs hp22 hW => ?_)
  obtain ⟨M22, R22, hm22, hO22⟩ := hp22
  subst hm22
  refine lv_iload_n hxe hcd dX9_sendSong_25 rfl (lv_at hl 0 rfl) ?_
  refine r_iret S hr hlk (F := (cE Z A g)) (u := (up2 (up2 μ 0 18 M22) 0 19 R22)) hW ?_ dX9_sendSong_26
  exact ⟨rfl, M22, R22, rfl, hO22⟩
