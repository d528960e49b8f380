set_option maxHeartbeats 4000000 in
set_option maxRecDepth 100000 in
theorem t_X9_filteredOrZero (l : Launch) {Z : ZT} (hZ : zOK Z) (A : Nat × Nat → Nat) (g : Nat → Bool) (μ : CM) (sz : Nat) {q n nf : Nat} (hq : q < 4) (hl7 : μ 0 7 q = nI n) (hn : n ≤ 160) (hc : μ 0 1 2 = nI nf) (h8 : nf ≤ 8) (ps : Nat → Nat) (hps : ∀ f, f < nf → μ 0 3 f = nI (ps f) ∧ ps f ≤ 999 ∧ KP (μ 0 2 f) (nI (ps f))) (x : Int32) : XMi l yX9_filteredOrZero cX9_filteredOrZero 3 (some .int) 5 [.ref (A (0, 14)), .int (nI q), .int x] Z (ids g) A (cE Z A g) μ sz (fun r u => (∃ i, i < n ∧ x = nI i ∧ r = flR (fun t => μ 0 5 (q * 160 + t)) (μ 0 2) (μ 0 3) nf i ∧ ∃ M R : Nat → Int32, u = up2 (up2 μ 0 18 M) 0 19 R) ∨ (¬ IX x n ∧ r = nI 0 ∧ u = μ)) := by
  refine r_met (E := (cE Z A g μ)) (by decide +kernel) (Nat.le_of_ble_eq_true rfl) ?_
  intro p e s m below meth c ls S hr hlk hnm hsz hW hl
  have hxe := S.1
  have hcd := S.2.1
  subst hsz
  have hl : lv_has ls 3 [(0, .ref (A (0, 14))), (1, .int (nI q)), (2, .int x)] := hl
  refine lv_aload_n hxe hcd dX9_filteredOrZero_0 rfl (lv_at hl 0 rfl) ?_
  refine gf_X9_10 S hW dX9_filteredOrZero_1 ?_
  refine gf_X9_122 S hW sB_0 dX9_filteredOrZero_4 ?_
  refine lv_iload_n hxe hcd dX9_filteredOrZero_7 rfl (lv_at hl 1 rfl) ?_
  refine lv_iload_n hxe hcd dX9_filteredOrZero_8 rfl (lv_at hl 2 rfl) ?_
  refine r_calli0 (r_runV hZ S hW (As := [.int (nI q), .int x]) (rest := []) (t_X5_hasSample l hZ A g μ s.heap.size sB_0 (q := q) (n := n) hq hl7 hn x) k_X9_166 (r_recv hW (x := (0, 4)) (in_s sB_0 (by decide)) rfl rfl) (hl.1) rfl rfl (Nat.le_of_ble_eq_true rfl) ⟨Nat.le_of_ble_eq_true rfl, Nat.le_of_ble_eq_true rfl⟩ ⟨Nat.le_of_ble_eq_true rfl, Nat.le_of_ble_eq_true rfl⟩ dX9_filteredOrZero_9) hW (fun r9 H locs hp9 hW => ?_)
  rcases hp9 with ⟨hp90, hp9⟩ | ⟨hp90, hp9⟩
  · subst hp90
    refine lv_if_ne (tgt := 17) hxe hcd dX9_filteredOrZero_12 (by decide) (fun _ => ?_) (fun h => absurd h (by decide))
    obtain ⟨i, hi, rfl⟩ := hp9
    refine lv_aload_n hxe hcd dX9_filteredOrZero_17 rfl (lv_at hl 0 rfl) ?_
    refine gf_X9_32 S hW dX9_filteredOrZero_18 ?_
    refine lv_aload_n hxe hcd dX9_filteredOrZero_21 rfl (lv_at hl 0 rfl) ?_
    refine gf_X9_10 S hW dX9_filteredOrZero_22 ?_
    refine lv_iload_n hxe hcd dX9_filteredOrZero_25 rfl (lv_at hl 1 rfl) ?_
    refine lv_iload_n hxe hcd dX9_filteredOrZero_26 rfl (lv_at hl 2 rfl) ?_
    refine lv_iconst (v := (nI 1)) hxe hcd dX9_filteredOrZero_27 (by decide) ?_
    refine n_iadd S (a := i) (b := 1) dX9_filteredOrZero_28 ?_
    refine r_callv (F := (cE Z A g)) (r_runV hZ S hW (As := [.ref (A (0, 0)), .int (nI q), .int (nI (i + 1))]) (rest := []) (t_X4_send l hZ A g μ H.size sB_0 (q := q) (n := i + 1) hq (by omega) hc h8 ps hps) k_X9_363 (r_recv hW (x := (0, 17)) (in_r (by decide) (by decide)) rfl rfl) (hl.1) rfl rfl (Nat.le_of_ble_eq_true rfl) ⟨Nat.le_of_ble_eq_true rfl, Nat.le_of_ble_eq_true rfl⟩ ⟨Nat.le_of_ble_eq_true rfl, Nat.le_of_ble_eq_true rfl⟩ dX9_filteredOrZero_29) hW (fun u29 H locs hp29 hW => ?_)
    obtain ⟨M29, R29, hm29, hO29⟩ := hp29
    subst hm29
    refine lv_aload_n hxe hcd dX9_filteredOrZero_32 rfl (lv_at hl 0 rfl) ?_
    refine gf_X9_32 S hW dX9_filteredOrZero_33 ?_
    refine lv_iload_n hxe hcd dX9_filteredOrZero_36 rfl (lv_at hl 2 rfl) ?_
    refine r_calli0 (r_runV hZ S hW (As := [.int (nI i)]) (rest := []) (t_X4_given l hZ A g (up2 (up2 μ 0 18 M29) 0 19 R29) H.size (nI i)) k_X9_180 (r_recv hW (x := (0, 17)) (in_r (by decide) (by decide)) rfl rfl) (hl.1) rfl rfl (Nat.le_of_ble_eq_true rfl) ⟨Nat.le_of_ble_eq_true rfl, Nat.le_of_ble_eq_true rfl⟩ ⟨Nat.le_of_ble_eq_true rfl, Nat.le_of_ble_eq_true rfl⟩ dX9_filteredOrZero_37) hW (fun r37 H locs hp37 hW => ?_)
    have hp37 := hp37.symm
    subst hp37
    refine r_as (y := (flR (fun t => μ 0 5 (q * 160 + t)) (μ 0 2) (μ 0 3) nf i)) (by rw [rd_in (n := 160) (k := i) _ (by omega) (by decide), up2_s, hO29 i (by omega)]) ?_
    refine r_iret S hr hlk (F := (cE Z A g)) (u := (up2 (up2 μ 0 18 M29) 0 19 R29)) hW ?_ dX9_filteredOrZero_40
    exact Or.inl ⟨i, hi, rfl, rfl, M29, R29, rfl⟩
  · subst hp90
    refine lv_if_ne (tgt := 17) hxe hcd dX9_filteredOrZero_12 (by decide) (fun h => absurd h (by decide)) (fun _ => ?_)
    refine lv_iconst (v := (nI 0)) hxe hcd dX9_filteredOrZero_15 (by decide) ?_
    refine r_iret S hr hlk (F := (cE Z A g)) (u := μ) hW ?_ dX9_filteredOrZero_16
    exact Or.inr ⟨hp9, rfl, rfl⟩
