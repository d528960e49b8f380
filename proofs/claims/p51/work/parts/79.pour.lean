set_option maxHeartbeats 4000000 in
set_option maxRecDepth 100000 in
theorem t_X9_pourSong (l : Launch) {Z : ZT} (hZ : zOK Z) (A : Nat × Nat → Nat) (g : Nat → Bool) (μ : CM) (sz : Nat) {b0 b : Nat} (hb0 : sB g b0) (hb : tB g b) {q : Nat} (hq : q < 4) (v : Nat → Int32) (hVG : VG v) (hR : RP (μ b0) v) (hT : RT (μ b) v (ntV v) (lvN v)) : XMi l yX9_pourSong cX9_pourSong 8 (some .int) 5 [.ref (A (0, 14)), .ref (A (b0, 0)), .ref (A (b, 9)), .int (nI q)] Z (ids g) A (cE Z A g) μ sz (fun r u => r = nI (pourC v (ntV v) (ldV (flV v q (nfV v)) (lnV v q)) ((lnV v q + 7) / 8)) ∧ ∃ M R f9 f12 f13 : Nat → Int32, u = up2 (up2 (up2 (up2 (up2 μ 0 18 M) 0 19 R) b 9 f9) b 12 f12) b 13 f13 ∧ ∃ lv2, VT (pourN v (ntV v) (ldV (flV v q (nfV v)) (lnV v q)) ((lnV v q + 7) / 8)) (ntV v) (cpN v) lv2 ∧ RT (u b) (pourN v (ntV v) (ldV (flV v q (nfV v)) (lnV v q)) ((lnV v q + 7) / 8)) (ntV v) lv2) := by
  refine r_met (E := (cE Z A g μ)) (by decide +kernel) (Nat.le_of_ble_eq_true rfl) ?_
  intro p e s m below meth c ls S hr hlk hnm hsz hW hl
  have hxe := S.1
  have hcd := S.2.1
  subst hsz
  have hl : lv_has ls 8 [(0, .ref (A (0, 14))), (1, .ref (A (b0, 0))), (2, .ref (A (b, 9))), (3, .int (nI q))] := hl
  have h160 := VG_ln hVG hq
  have hpc := pourC_le v (ntV v) (ldV (flV v q (nfV v)) (lnV v q))
  refine lv_aload_n hxe hcd dX9_pourSong_0 rfl (lv_at hl 1 rfl) ?_
  refine gf_X9_122 S hW hb0 dX9_pourSong_1 ?_
  refine lv_iload_n hxe hcd dX9_pourSong_4 rfl (lv_at hl 3 rfl) ?_
  refine r_calli0 (r_runV hZ S hW (As := [.int (nI q)]) (rest := []) (t_X5_samplesOf l hZ A g μ s.heap.size hb0 (nI q)) k_X9_147 (r_recv hW (x := (b0, 4)) (in_s hb0 (by decide)) rfl rfl) (hl.1) rfl rfl (Nat.le_of_ble_eq_true rfl) ⟨Nat.le_of_ble_eq_true rfl, Nat.le_of_ble_eq_true rfl⟩ ⟨Nat.le_of_ble_eq_true rfl, Nat.le_of_ble_eq_true rfl⟩ dX9_pourSong_5) hW (fun r5 H locs hp5 hW => ?_)
  have hp5 := hp5.symm
  subst hp5
  refine r_as (y := (nI (lnV v q))) (by rw [rd_in (n := 4) (k := q) _ hq (by decide)]; exact RP_l7 hR hVG hq) ?_
  refine lv_istore (lv' := [(4, .int (nI (lnV v q))), (0, .ref (A (0, 14))), (1, .ref (A (b0, 0))), (2, .ref (A (b, 9))), (3, .int (nI q))]) hxe hcd dX9_pourSong_8 hl (by decide) rfl (fun ls hl => ?_)
  refine lv_aload_n hxe hcd dX9_pourSong_10 rfl (lv_at hl 1 rfl) ?_
  refine gf_X9_32 S hW dX9_pourSong_11 ?_
  refine lv_aload_n hxe hcd dX9_pourSong_14 rfl (lv_at hl 2 rfl) ?_
  refine lv_iload_n hxe hcd dX9_pourSong_15 rfl (lv_at hl 4 rfl) ?_
  refine lv_iload hxe hcd dX9_pourSong_16 (lv_at hl 0 rfl) ?_
  refine r_callv (F := (cE Z A g)) (r_runV hZ S hW (As := [.ref (A (b0, 0)), .int (nI q), .int (nI (lnV v q))]) (rest := []) (t_X4_send l hZ A g μ H.size hb0 (q := q) (n := lnV v q) (nf := nfV v) hq (VG_ln hVG hq) (RP_c hR hVG) hVG.1.2 (psV v) (RP_ps hR hVG)) k_X9_363 (r_recv hW (x := (0, 17)) (in_r (by decide) (by decide)) rfl rfl) (hl.1) rfl rfl (Nat.le_of_ble_eq_true rfl) ⟨Nat.le_of_ble_eq_true rfl, Nat.le_of_ble_eq_true rfl⟩ ⟨Nat.le_of_ble_eq_true rfl, Nat.le_of_ble_eq_true rfl⟩ dX9_pourSong_18) hW (fun u18 H locs hp18 hW => ?_)
  obtain ⟨M18, R18, hm18, hO18⟩ := hp18
  subst hm18
  have hO18 : ∀ j, j < lnV v q → R18 j = flV v q (nfV v) j := fun j hj => (hO18 j hj).trans (RP_fl hR hq (Nat.le_refl _) j hj)
  refine lv_aload_n hxe hcd dX9_pourSong_21 rfl (lv_at hl 2 rfl) ?_
  refine gf_X9_122 S hW hb0 dX9_pourSong_22 ?_
  refine lv_iload_n hxe hcd dX9_pourSong_25 rfl (lv_at hl 4 rfl) ?_
  refine r_calli0 (r_runV hZ S hW (As := [.int (nI q)]) (rest := []) (t_X5_framesOf l hZ A g (up2 (up2 μ 0 18 M18) 0 19 R18) H.size hb0 (q := q) (n := lnV v q) hq (by rw [up2_o (o2 := 7) (o := 19) (by decide), up2_o (o2 := 7) (o := 18) (by decide)]; exact RP_l7 hR hVG hq) (VG_ln hVG hq)) k_X9_237 (r_recv hW (x := (b0, 4)) (in_s hb0 (by decide)) rfl rfl) (hl.1) rfl rfl (Nat.le_of_ble_eq_true rfl) ⟨Nat.le_of_ble_eq_true rfl, Nat.le_of_ble_eq_true rfl⟩ ⟨Nat.le_of_ble_eq_true rfl, Nat.le_of_ble_eq_true rfl⟩ dX9_pourSong_26) hW (fun r26 H locs hp26 hW => ?_)
  have hp26 := hp26.symm
  subst hp26
  refine r_as (y := (nI ((lnV v q + 7) / 8))) (by rw [fr_dl]) ?_
  refine lv_istore (lv' := [(5, .int (nI ((lnV v q + 7) / 8))), (4, .int (nI (lnV v q))), (0, .ref (A (0, 14))), (1, .ref (A (b0, 0))), (2, .ref (A (b, 9))), (3, .int (nI q))]) hxe hcd dX9_pourSong_29 hl (by decide) rfl (fun ls hl => ?_)
  refine lv_iconst (v := (nI 0)) hxe hcd dX9_pourSong_31 (by decide) ?_
  refine lv_istore (lv' := [(6, .int (nI 0)), (5, .int (nI ((lnV v q + 7) / 8))), (4, .int (nI (lnV v q))), (0, .ref (A (0, 14))), (1, .ref (A (b0, 0))), (2, .ref (A (b, 9))), (3, .int (nI q))]) hxe hcd dX9_pourSong_32 hl (by decide) rfl (fun ls hl => ?_)
  refine lv_iconst (v := (nI 0)) hxe hcd dX9_pourSong_34 (by decide) ?_
  refine lv_istore (lv' := [(7, .int (nI 0)), (6, .int (nI 0)), (5, .int (nI ((lnV v q + 7) / 8))), (4, .int (nI (lnV v q))), (0, .ref (A (0, 14))), (1, .ref (A (b0, 0))), (2, .ref (A (b, 9))), (3, .int (nI q))]) hxe hcd dX9_pourSong_35 hl (by decide) rfl (fun ls hl => ?_)
  have hl : lv_has ls 8 [(7, .int (nI 0)), (6, .int (nI (pourC v (ntV v) (ldV (flV v q (nfV v)) (lnV v q)) 0))), (5, .int (nI ((lnV v q + 7) / 8))), (4, .int (nI (lnV v q))), (0, .ref (A (0, 14))), (1, .ref (A (b0, 0))), (2, .ref (A (b, 9))), (3, .int (nI q))] := hl
  have loop37 : ∀ (n_ : Nat) (k : Nat) (f9 f12 f13 : Nat → Int32) (lvk : Nat → Nat), ((lnV v q + 7) / 8) - k < n_ → (k ≤ ((lnV v q + 7) / 8)) → (VT (pourN v (ntV v) (ldV (flV v q (nfV v)) (lnV v q)) k) (ntV v) (cpN v) lvk) → (RT ((up2 (up2 (up2 (up2 (up2 μ 0 18 M18) 0 19 R18) b 9 f9) b 12 f12) b 13 f13) b) (pourN v (ntV v) (ldV (flV v q (nfV v)) (lnV v q)) k) (ntV v) lvk) → ∀ (H : Heap) (locs : List Loc) (ls : Array Slot), wX Z (ids g) A (cE Z A g (up2 (up2 (up2 (up2 (up2 μ 0 18 M18) 0 19 R18) b 9 f9) b 12 f12) b 13 f13)) (fA (ids g) A (cE Z A g μ) s.heap.size) s H locs → lv_has ls 8 [(0, .ref (A (0, 14))), (1, .ref (A (b0, 0))), (2, .ref (A (b, 9))), (3, .int (nI q)), (4, .int (nI (lnV v q))), (5, .int (nI ((lnV v q + 7) / 8))), (6, .int (nI (pourC v (ntV v) (ldV (flV v q (nfV v)) (lnV v q)) k))), (7, .int (nI k))] → W p l e (rmD 5 0 0) s m ([.ref (A (0, 14)), .ref (A (b0, 0)), .ref (A (b, 9)), .int (nI q)] : List Value).toArray below meth c H locs 0 0 (MQ below (va_Qi (fun r u => r = nI (pourC v (ntV v) (ldV (flV v q (nfV v)) (lnV v q)) ((lnV v q + 7) / 8)) ∧ ∃ M R f9 f12 f13 : Nat → Int32, u = up2 (up2 (up2 (up2 (up2 μ 0 18 M) 0 19 R) b 9 f9) b 12 f12) b 13 f13 ∧ ∃ lv2, VT (pourN v (ntV v) (ldV (flV v q (nfV v)) (lnV v q)) ((lnV v q + 7) / 8)) (ntV v) (cpN v) lv2 ∧ RT (u b) (pourN v (ntV v) (ldV (flV v q (nfV v)) (lnV v q)) ((lnV v q + 7) / 8)) (ntV v) lv2) (fun u t => qB Z (ids g) A ((cE Z A g) u) (fA (ids g) A (cE Z A g μ) s.heap.size) t) (fA (ids g) A (cE Z A g μ) s.heap.size)) ([.ref (A (0, 14)), .ref (A (b0, 0)), .ref (A (b, 9)), .int (nI q)] : List Value).toArray s 0 0 (fA (ids g) A (cE Z A g μ) s.heap.size)) (F0 m 37 ls []) := by
    intro n_
    induction n_ with
    | zero => intro k f9 f12 f13 lvk hm; exact absurd hm (Nat.not_lt_zero _)
    | succ n_ ih37 =>
      intro k f9 f12 f13 lvk hm hk hVk hRk H locs ls hW hl
      have hpk := hpc k
      refine lv_iload hxe hcd dX9_pourSong_37 (lv_at hl 7 rfl) ?_
      refine lv_iload hxe hcd dX9_pourSong_39 (lv_at hl 5 rfl) ?_
      refine n_ge S (a := k) (b := ((lnV v q + 7) / 8)) (by omega) (by omega) dX9_pourSong_41 (tgt := 71) (by decide) (fun c41 => ?_) (fun c41 => ?_)
      · refine lv_iload hxe hcd dX9_pourSong_71 (lv_at hl 6 rfl) ?_
        refine r_iret S hr hlk (F := (cE Z A g)) (u := (up2 (up2 (up2 (up2 (up2 μ 0 18 M18) 0 19 R18) b 9 f9) b 12 f12) b 13 f13)) hW ?_ dX9_pourSong_73
        have e : k = ((lnV v q + 7) / 8) := by omega
        rw [e] at hVk hRk
        rw [e]
        exact ⟨rfl, M18, R18, f9, f12, f13, rfl, lvk, hVk, hRk⟩
      · refine lv_aload_n hxe hcd dX9_pourSong_44 rfl (lv_at hl 2 rfl) ?_
        refine lv_aload_n hxe hcd dX9_pourSong_45 rfl (lv_at hl 0 rfl) ?_
        refine gf_X9_32 S hW dX9_pourSong_46 ?_
        refine lv_iload hxe hcd dX9_pourSong_49 (lv_at hl 7 rfl) ?_
        refine lv_iload hxe hcd dX9_pourSong_51 (lv_at hl 4 rfl) ?_
        refine r_calli0 (r_runV hZ S hW (As := [.int (nI k), .int (nI (lnV v q))]) (rest := [.ref (A (b, 9))]) (t_X4_loudnessOf l hZ A g (up2 (up2 (up2 (up2 (up2 μ 0 18 M18) 0 19 R18) b 9 f9) b 12 f12) b 13 f13) H.size (fr := k) (n := lnV v q) (by omega) (VG_ln hVG hq)) k_X9_367 (r_recv hW (x := (0, 17)) (in_r (by decide) (by decide)) rfl rfl) (hl.1) rfl rfl (Nat.le_of_ble_eq_true rfl) ⟨Nat.le_of_ble_eq_true rfl, Nat.le_of_ble_eq_true rfl⟩ ⟨Nat.le_of_ble_eq_true rfl, Nat.le_of_ble_eq_true rfl⟩ dX9_pourSong_53) hW (fun r53 H locs hp53 hW => ?_)
        have hp53 := hp53.symm
        subst hp53
        refine r_as (y := ((ldV (flV v q (nfV v)) (lnV v q)) k)) (by rw [TKM_r19]; exact ldV_congr hO18) ?_
        refine r_calli (F := (cE Z A g)) (r_runV hZ S hW (As := [.int ((ldV (flV v q (nfV v)) (lnV v q)) k)]) (rest := []) (t_X7_store l hZ A g (up2 (up2 (up2 (up2 (up2 μ 0 18 M18) 0 19 R18) b 9 f9) b 12 f12) b 13 f13) H.size hb (nt := ntV v) (hRk.1.1.trans ((pourN_lo hVG.2.2.2.2.2.2.2.1 hVG.2.1.2 (by omega) (by decide) (by decide) k).trans hVG.2.1.1)) hVG.2.1.2 lvk (RT_lv hRk hVk) (cpN v) (RT_cp hRk hVk) ((ldV (flV v q (nfV v)) (lnV v q)) k)) k_X9_370 (r_recv hW (x := (b, 9)) (in_t hb (by decide) (by decide)) rfl rfl) (hl.1) rfl rfl (Nat.le_of_ble_eq_true rfl) ⟨Nat.le_of_ble_eq_true rfl, Nat.le_of_ble_eq_true rfl⟩ ⟨Nat.le_of_ble_eq_true rfl, Nat.le_of_ble_eq_true rfl⟩ dX9_pourSong_56) hW (fun r56 u56 H locs hp56 hW => ?_)
        rw [bst_RT hRk _ (Nat.le_refl _)] at hp56
        rcases hp56 with ⟨hB, rfl, rfl⟩ | ⟨qt, hB, rfl, rfl⟩
        · refine lv_if_eq (tgt := 65) hxe hcd dX9_pourSong_59 (by decide) (fun _ => ?_) (fun h => absurd (by decide) h)
          refine lv_iinc (v := (nI (k + 1))) (lv' := [(7, .int (nI (k + 1))), (0, .ref (A (0, 14))), (1, .ref (A (b0, 0))), (2, .ref (A (b, 9))), (3, .int (nI q)), (4, .int (nI (lnV v q))), (5, .int (nI ((lnV v q + 7) / 8))), (6, .int (nI (pourC v (ntV v) (ldV (flV v q (nfV v)) (lnV v q)) k)))]) hxe hcd dX9_pourSong_65 hl (k := 7) rfl (nI_add k 1) (by decide) rfl (fun ls hl => ?_)
          refine lv_goto (tgt := 37) hxe hcd dX9_pourSong_68 (by decide) ?_
          have hst := RT_drop (k2 := (up2 (up2 (up2 (up2 (up2 μ 0 18 M18) 0 19 R18) b 9 (upd f9 6 (f9 6 + nI 1))) b 12 f12) b 13 f13) b) hRk hVk hB (by rw [TKM_r9, TKM_r9]) (fun o h1 h2 => by rcases (show o = 10 ∨ o = 11 ∨ o = 12 ∨ o = 13 by omega) with h | h | h | h <;> subst h <;> simp only [TKM_r12, TKM_r13, TKM_o (o := 10) (by decide), TKM_o (o := 11) (by decide)])
          have hl : lv_has ls 8 [(7, .int (nI (k + 1))), (6, .int (nI (pourC v (ntV v) (ldV (flV v q (nfV v)) (lnV v q)) (k + 1)))), (0, .ref (A (0, 14))), (1, .ref (A (b0, 0))), (2, .ref (A (b, 9))), (3, .int (nI q)), (4, .int (nI (lnV v q))), (5, .int (nI ((lnV v q + 7) / 8)))] := by
            rw [pourC_none hB]
            exact lv_sub hl [0, 7, 1, 2, 3, 4, 5, 6] rfl
          exact ih37 (k + 1) (upd f9 6 (f9 6 + nI 1)) f12 f13 lvk (by omega) (by omega) hst.2 hst.1 _ _ _ (by rw [TKM_9, TKM_r9] at hW; exact hW) (lv_sub hl [2, 3, 4, 5, 6, 7, 1, 0] rfl)
        · refine lv_if_eq (tgt := 65) hxe hcd dX9_pourSong_59 (by decide) (fun h => absurd h (by decide)) (fun _ => ?_)
          refine lv_iinc (v := (nI ((pourC v (ntV v) (ldV (flV v q (nfV v)) (lnV v q)) k) + 1))) (lv' := [(6, .int (nI ((pourC v (ntV v) (ldV (flV v q (nfV v)) (lnV v q)) k) + 1))), (0, .ref (A (0, 14))), (1, .ref (A (b0, 0))), (2, .ref (A (b, 9))), (3, .int (nI q)), (4, .int (nI (lnV v q))), (5, .int (nI ((lnV v q + 7) / 8))), (7, .int (nI k))]) hxe hcd dX9_pourSong_62 hl (k := 6) rfl (nI_add (pourC v (ntV v) (ldV (flV v q (nfV v)) (lnV v q)) k) 1) (by decide) rfl (fun ls hl => ?_)
          refine lv_iinc (v := (nI (k + 1))) (lv' := [(7, .int (nI (k + 1))), (6, .int (nI ((pourC v (ntV v) (ldV (flV v q (nfV v)) (lnV v q)) k) + 1))), (0, .ref (A (0, 14))), (1, .ref (A (b0, 0))), (2, .ref (A (b, 9))), (3, .int (nI q)), (4, .int (nI (lnV v q))), (5, .int (nI ((lnV v q + 7) / 8)))]) hxe hcd dX9_pourSong_65 hl (k := 7) rfl (nI_add k 1) (by decide) rfl (fun ls hl => ?_)
          refine lv_goto (tgt := 37) hxe hcd dX9_pourSong_68 (by decide) ?_
          have hst := RT_take (k2 := (up2 (up2 (up2 (up2 (up2 μ 0 18 M18) 0 19 R18) b 9 (upd f9 5 (f9 5 + nI 1))) b 12 (upd f12 qt (nI (lvk qt + 1)))) b 13 (upd f13 (qt * 9 + lvk qt) ((ldV (flV v q (nfV v)) (lnV v q)) k))) b) hRk hVk hB (by rw [TKM_r9, TKM_r9]) (by rw [TKM_r12, TKM_r12]) (by rw [TKM_r13, TKM_r13]) (by rw [TKM_o (by decide), TKM_o (by decide)]) (by rw [TKM_o (by decide), TKM_o (by decide)])
          have hl : lv_has ls 8 [(7, .int (nI (k + 1))), (6, .int (nI (pourC v (ntV v) (ldV (flV v q (nfV v)) (lnV v q)) (k + 1)))), (0, .ref (A (0, 14))), (1, .ref (A (b0, 0))), (2, .ref (A (b, 9))), (3, .int (nI q)), (4, .int (nI (lnV v q))), (5, .int (nI ((lnV v q + 7) / 8)))] := by
            rw [pourC_some hB]
            exact lv_sub hl [0, 1, 2, 3, 4, 5, 6, 7] rfl
          exact ih37 (k + 1) (upd f9 5 (f9 5 + nI 1)) (upd f12 qt (nI (lvk qt + 1))) (upd f13 (qt * 9 + lvk qt) ((ldV (flV v q (nfV v)) (lnV v q)) k)) (fun t => if t = qt then lvk qt + 1 else lvk t) (by omega) (by omega) hst.2 hst.1 _ _ _ (by rw [TKM_13, TKM_12, TKM_9, TKM_r13, TKM_r12, TKM_r9] at hW; exact hW) (lv_sub hl [2, 3, 4, 5, 6, 7, 1, 0] rfl)
  exact loop37 (((lnV v q + 7) / 8) + 1) 0 (μ b 9) (μ b 12) (μ b 13) (lvN v) (Nat.lt_succ_self _) (Nat.zero_le _) hVG.2.2.2.2.2.2.2.1 (RT_k hT (fun o h1 h2 => by rw [TKM_0, up2_o (by omega), up2_o (by omega)])) _ _ _ (by rw [TKM_0]; exact hW) (lv_sub hl [4, 5, 6, 7, 3, 2, 1, 0] rfl)
