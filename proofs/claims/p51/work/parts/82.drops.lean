set_option maxHeartbeats 4000000 in
set_option maxRecDepth 100000 in
theorem t_X9_dropsOnCopy (l : Launch) {Z : ZT} (hZ : zOK Z) (A : Nat × Nat → Nat) (g : Nat → Bool) (μ : CM) (sz : Nat) (v : Nat → Int32) (hVG : VG v) (hR : RP (μ 0) v) {q : Nat} (hq : q < 4) : XMi l yX9_dropsOnCopy cX9_dropsOnCopy 2 (some .int) 6 [.ref (A (0, 14)), .int (nI q)] Z (ids g) A (cE Z A g) μ sz (fun r u => r = nI (((lnV v q + 7) / 8) - pourC v (ntV v) (ldV (flV v q (nfV v)) (lnV v q)) ((lnV v q + 7) / 8)) ∧ SQ μ u) := by
  refine r_met (E := (cE Z A g μ)) (by decide +kernel) (Nat.le_of_ble_eq_true rfl) ?_
  intro p e s m below meth c ls S hr hlk hnm hsz hW hl
  have hxe := S.1
  have hcd := S.2.1
  subst hsz
  have hl : lv_has ls 2 [(0, .ref (A (0, 14))), (1, .int (nI q))] := hl
  have hpc := pourC_le v (ntV v) (ldV (flV v q (nfV v)) (lnV v q)) ((lnV v q + 7) / 8)
  refine lv_aload_n hxe hcd dX9_dropsOnCopy_0 rfl (lv_at hl 0 rfl) ?_
  refine gf_X9_39 S hW dX9_dropsOnCopy_1 ?_
  refine lv_aload_n hxe hcd dX9_dropsOnCopy_4 rfl (lv_at hl 0 rfl) ?_
  refine gf_X9_10 S hW dX9_dropsOnCopy_5 ?_
  refine gf_X9_193 S hW sB_0 dX9_dropsOnCopy_8 ?_
  refine r_callv (F := (cE Z A g)) (r_runV hZ S hW (As := [.ref (A (0, 9))]) (rest := []) (t_X7_copyFrom l hZ A g μ s.heap.size tB_11 (Or.inl sB_0) (by decide)) k_X9_373 (r_recv hW (x := (11, 9)) (in_t tB_11 (by decide) (by decide)) rfl rfl) (hl.1) rfl rfl (Nat.le_of_ble_eq_true rfl) ⟨Nat.le_of_ble_eq_true rfl, Nat.le_of_ble_eq_true rfl⟩ ⟨Nat.le_of_ble_eq_true rfl, Nat.le_of_ble_eq_true rfl⟩ dX9_dropsOnCopy_11) hW (fun u11 H locs hp11 hW => ?_)
  have hp11 := hp11.symm
  subst hp11
  refine lv_aload_n hxe hcd dX9_dropsOnCopy_14 rfl (lv_at hl 0 rfl) ?_
  refine gf_X9_10 S hW dX9_dropsOnCopy_15 ?_
  refine gf_X9_122 S hW sB_0 dX9_dropsOnCopy_18 ?_
  refine lv_iload_n hxe hcd dX9_dropsOnCopy_21 rfl (lv_at hl 1 rfl) ?_
  refine r_calli0 (r_runV hZ S hW (As := [.int (nI q)]) (rest := []) (t_X5_framesOf l hZ A g (cpTanks μ 11 0) H.size sB_0 (q := q) (n := lnV v q) hq (RP_l7 (RP_k (k2 := cpTanks μ 11 0 0) hR (fun o _ => cpT_o (by decide) o)) hVG hq) (VG_ln hVG hq)) k_X9_237 (r_recv hW (x := (0, 4)) (in_s sB_0 (by decide)) rfl rfl) (hl.1) rfl rfl (Nat.le_of_ble_eq_true rfl) ⟨Nat.le_of_ble_eq_true rfl, Nat.le_of_ble_eq_true rfl⟩ ⟨Nat.le_of_ble_eq_true rfl, Nat.le_of_ble_eq_true rfl⟩ dX9_dropsOnCopy_22) hW (fun r22 H locs hp22 hW => ?_)
  have hp22 := hp22.symm
  subst hp22
  refine r_as (y := (nI ((lnV v q + 7) / 8))) (by rw [fr_dl]) ?_
  refine lv_aload_n hxe hcd dX9_dropsOnCopy_25 rfl (lv_at hl 0 rfl) ?_
  refine lv_aload_n hxe hcd dX9_dropsOnCopy_26 rfl (lv_at hl 0 rfl) ?_
  refine gf_X9_10 S hW dX9_dropsOnCopy_27 ?_
  refine lv_aload_n hxe hcd dX9_dropsOnCopy_30 rfl (lv_at hl 0 rfl) ?_
  refine gf_X9_39 S hW dX9_dropsOnCopy_31 ?_
  refine lv_iload_n hxe hcd dX9_dropsOnCopy_34 rfl (lv_at hl 1 rfl) ?_
  refine r_calli (F := (cE Z A g)) (r_runV hZ S hW (As := [.ref (A (0, 0)), .ref (A (11, 9)), .int (nI q)]) (rest := [.int (nI ((lnV v q + 7) / 8))]) (t_X9_pourSong l hZ A g (cpTanks μ 11 0) H.size (b0 := 0) (b := 11) sB_0 tB_11 hq v hVG (RP_k (k2 := cpTanks μ 11 0 0) hR (fun o _ => cpT_o (by decide) o)) (cpT_b (by decide) hR hVG)) k_X9_208 (r_recv hW (x := (0, 14)) (in_r (by decide) (by decide)) rfl rfl) (hl.1) rfl rfl (Nat.le_of_ble_eq_true rfl) ⟨Nat.le_of_ble_eq_true rfl, Nat.le_of_ble_eq_true rfl⟩ ⟨Nat.le_of_ble_eq_true rfl, Nat.le_of_ble_eq_true rfl⟩ dX9_dropsOnCopy_35) hW (fun r35 u35 H locs hp35 hW => ?_)
  obtain ⟨hr9, M9, R9, f9, f12, f13, hm9, lv2, hV2, hT2⟩ := hp35
  subst hm9
  subst hr9
  refine n_isub S (a := ((lnV v q + 7) / 8)) (b := (pourC v (ntV v) (ldV (flV v q (nfV v)) (lnV v q)) ((lnV v q + 7) / 8))) (by omega) dX9_dropsOnCopy_38 ?_
  refine r_iret S hr hlk (F := (cE Z A g)) (u := (up2 (up2 (up2 (up2 (up2 (cpTanks μ 11 0) 0 18 M9) 0 19 R9) 11 9 f9) 11 12 f12) 11 13 f13)) hW ?_ dX9_dropsOnCopy_39
  exact ⟨rfl, SQ_TKM (SQ_cpT μ 0) _ _ _ _ _⟩
set_option maxHeartbeats 4000000 in
set_option maxRecDepth 100000 in
theorem t_X9_dropsFromLevels (l : Launch) {Z : ZT} (hZ : zOK Z) (A : Nat × Nat → Nat) (g : Nat → Bool) (μ : CM) (sz : Nat) (v : Nat → Int32) (hVG : VG v) (hR : RP (μ 0) v) {q : Nat} (hq : q < 4) : XMi l yX9_dropsFromLevels cX9_dropsFromLevels 7 (some .int) 6 [.ref (A (0, 14)), .int (nI q)] Z (ids g) A (cE Z A g) μ sz (fun r u => r = nI (((lnV v q + 7) / 8) - pourC v (ntV v) (ldV (flV v q (nfV v)) (lnV v q)) ((lnV v q + 7) / 8)) ∧ SQ μ u) := by
  refine r_met (E := (cE Z A g μ)) (by decide +kernel) (Nat.le_of_ble_eq_true rfl) ?_
  intro p e s m below meth c ls S hr hlk hnm hsz hW hl
  have hxe := S.1
  have hcd := S.2.1
  subst hsz
  have hl : lv_has ls 7 [(0, .ref (A (0, 14))), (1, .int (nI q))] := hl
  have hn4 := hVG.2.1.2
  have hVT := hVG.2.2.2.2.2.2.2.1
  have hpc := pourC_le v (ntV v) (ldV (flV v q (nfV v)) (lnV v q))
  have h160 := VG_ln hVG hq
  refine lv_iconst (v := (nI 0)) hxe hcd dX9_dropsFromLevels_0 (by decide) ?_
  refine lv_istore_n (lv' := [(2, .int (nI 0)), (0, .ref (A (0, 14))), (1, .int (nI q))]) hxe hcd dX9_dropsFromLevels_1 rfl hl (by decide) rfl (fun ls hl => ?_)
  have loop2 : ∀ (n_ : Nat) (i : Nat), ntV v - i < n_ → (i ≤ ntV v) → ∀ (H : Heap) (locs : List Loc) (ls : Array Slot), wX Z (ids g) A (cE Z A g (up2 μ 0 21 (cpR i (fun t => nI (cpN v t - lvN v t)) (μ 0 21)))) (fA (ids g) A (cE Z A g μ) s.heap.size) s H locs → lv_has ls 7 [(0, .ref (A (0, 14))), (1, .int (nI q)), (2, .int (nI i))] → W p l e (rmD 6 0 0) s m ([.ref (A (0, 14)), .int (nI q)] : List Value).toArray below meth c H locs 0 0 (MQ below (va_Qi (fun r u => r = nI (((lnV v q + 7) / 8) - pourC v (ntV v) (ldV (flV v q (nfV v)) (lnV v q)) ((lnV v q + 7) / 8)) ∧ SQ μ u) (fun u t => qB Z (ids g) A ((cE Z A g) u) (fA (ids g) A (cE Z A g μ) s.heap.size) t) (fA (ids g) A (cE Z A g μ) s.heap.size)) ([.ref (A (0, 14)), .int (nI q)] : List Value).toArray s 0 0 (fA (ids g) A (cE Z A g μ) s.heap.size)) (F0 m 2 ls []) := by
    intro n_
    induction n_ with
    | zero => intro i hm; exact absurd hm (Nat.not_lt_zero _)
    | succ n_ ih2 =>
      intro i hm hi H locs ls hW hl
      refine lv_iload_n hxe hcd dX9_dropsFromLevels_2 rfl (lv_at hl 2 rfl) ?_
      refine lv_aload_n hxe hcd dX9_dropsFromLevels_3 rfl (lv_at hl 0 rfl) ?_
      refine gf_X9_10 S hW dX9_dropsFromLevels_4 ?_
      refine gf_X9_193 S hW sB_0 dX9_dropsFromLevels_7 ?_
      refine gf_X9_218 S hW (Or.inl sB_0) dX9_dropsFromLevels_10 ?_
      refine r_as (y := (nI (ntV v))) (by rw [up2_o (o2 := 9) (o := 21) (by decide)]; exact hR.2.2.1.1.trans hVG.2.1.1) ?_
      refine n_ge S (a := i) (b := (ntV v)) (by omega) (by omega) dX9_dropsFromLevels_13 (tgt := 53) (by decide) (fun c13 => ?_) (fun c13 => ?_)
      · refine lv_aload_n hxe hcd dX9_dropsFromLevels_53 rfl (lv_at hl 0 rfl) ?_
        refine lv_iload_n hxe hcd dX9_dropsFromLevels_54 rfl (lv_at hl 1 rfl) ?_
        refine r_calli (F := (cE Z A g)) (r_runV hZ S hW (As := [.int (nI q)]) (rest := []) (t_X9_sendSong l hZ A g (up2 μ 0 21 (cpR i (fun t => nI (cpN v t - lvN v t)) (μ 0 21))) H.size (q := q) (n := lnV v q) (nf := nfV v) hq (RP_l7 (RP_k (k2 := (up2 μ 0 21 (cpR i (fun t => nI (cpN v t - lvN v t)) (μ 0 21))) 0) hR (fun o ho => by simp only [up2_o (show o ≠ 18 by omega), up2_o (show o ≠ 19 by omega), up2_o (show o ≠ 21 by omega)])) hVG hq) (VG_ln hVG hq) (RP_c (RP_k (k2 := (up2 μ 0 21 (cpR i (fun t => nI (cpN v t - lvN v t)) (μ 0 21))) 0) hR (fun o ho => by simp only [up2_o (show o ≠ 18 by omega), up2_o (show o ≠ 19 by omega), up2_o (show o ≠ 21 by omega)])) hVG) hVG.1.2 (psV v) (RP_ps (RP_k (k2 := (up2 μ 0 21 (cpR i (fun t => nI (cpN v t - lvN v t)) (μ 0 21))) 0) hR (fun o ho => by simp only [up2_o (show o ≠ 18 by omega), up2_o (show o ≠ 19 by omega), up2_o (show o ≠ 21 by omega)])) hVG)) k_X9_177 (r_recv hW (x := (0, 14)) (in_r (by decide) (by decide)) rfl rfl) (hl.1) rfl rfl (Nat.le_of_ble_eq_true rfl) ⟨Nat.le_of_ble_eq_true rfl, Nat.le_of_ble_eq_true rfl⟩ ⟨Nat.le_of_ble_eq_true rfl, Nat.le_of_ble_eq_true rfl⟩ dX9_dropsFromLevels_55) hW (fun r55 u55 H locs hp55 hW => ?_)
        obtain ⟨hr55, M55, R55, hm55, hO55⟩ := hp55
        subst hm55
        subst hr55
        have hO55 : ∀ j, j < lnV v q → R55 j = flV v q (nfV v) j := fun j hj => (hO55 j hj).trans (RP_fl (RP_k (k2 := (up2 μ 0 21 (cpR i (fun t => nI (cpN v t - lvN v t)) (μ 0 21))) 0) hR (fun o ho => by simp only [up2_o (show o ≠ 18 by omega), up2_o (show o ≠ 19 by omega), up2_o (show o ≠ 21 by omega)])) hq (Nat.le_refl _) j hj)
        refine lv_istore_n (lv' := [(2, .int (nI (lnV v q))), (0, .ref (A (0, 14))), (1, .int (nI q))]) hxe hcd dX9_dropsFromLevels_58 rfl hl (by decide) rfl (fun ls hl => ?_)
        refine lv_aload_n hxe hcd dX9_dropsFromLevels_59 rfl (lv_at hl 1 rfl) ?_
        refine gf_X9_10 S hW dX9_dropsFromLevels_60 ?_
        refine gf_X9_122 S hW sB_0 dX9_dropsFromLevels_63 ?_
        refine lv_iload_n hxe hcd dX9_dropsFromLevels_66 rfl (lv_at hl 2 rfl) ?_
        refine r_calli0 (r_runV hZ S hW (As := [.int (nI q)]) (rest := []) (t_X5_framesOf l hZ A g (up2 (up2 (up2 μ 0 21 (cpR i (fun t => nI (cpN v t - lvN v t)) (μ 0 21))) 0 18 M55) 0 19 R55) H.size sB_0 (q := q) (n := lnV v q) hq (RP_l7 (RP_k (k2 := (up2 (up2 (up2 μ 0 21 (cpR i (fun t => nI (cpN v t - lvN v t)) (μ 0 21))) 0 18 M55) 0 19 R55) 0) hR (fun o ho => by simp only [up2_o (show o ≠ 18 by omega), up2_o (show o ≠ 19 by omega), up2_o (show o ≠ 21 by omega)])) hVG hq) (VG_ln hVG hq)) k_X9_237 (r_recv hW (x := (0, 4)) (in_s sB_0 (by decide)) rfl rfl) (hl.1) rfl rfl (Nat.le_of_ble_eq_true rfl) ⟨Nat.le_of_ble_eq_true rfl, Nat.le_of_ble_eq_true rfl⟩ ⟨Nat.le_of_ble_eq_true rfl, Nat.le_of_ble_eq_true rfl⟩ dX9_dropsFromLevels_67) hW (fun r67 H locs hp67 hW => ?_)
        have hp67 := hp67.symm
        subst hp67
        refine lv_istore_n (lv' := [(3, .int (nI ((lnV v q + 8 - 1) / 8))), (2, .int (nI (lnV v q))), (0, .ref (A (0, 14))), (1, .int (nI q))]) hxe hcd dX9_dropsFromLevels_70 rfl hl (by decide) rfl (fun ls hl => ?_)
        refine lv_iconst (v := (nI 0)) hxe hcd dX9_dropsFromLevels_71 (by decide) ?_
        refine lv_istore (lv' := [(4, .int (nI 0)), (3, .int (nI ((lnV v q + 8 - 1) / 8))), (2, .int (nI (lnV v q))), (0, .ref (A (0, 14))), (1, .int (nI q))]) hxe hcd dX9_dropsFromLevels_72 hl (by decide) rfl (fun ls hl => ?_)
        refine lv_iconst (v := (nI 0)) hxe hcd dX9_dropsFromLevels_74 (by decide) ?_
        refine lv_istore (lv' := [(5, .int (nI 0)), (4, .int (nI 0)), (3, .int (nI ((lnV v q + 8 - 1) / 8))), (2, .int (nI (lnV v q))), (0, .ref (A (0, 14))), (1, .int (nI q))]) hxe hcd dX9_dropsFromLevels_75 hl (by decide) rfl (fun ls hl => ?_)
        have hl : lv_has ls 7 [(5, .int (nI 0)), (4, .int (nI (0 - pourC v (ntV v) (ldV (flV v q (nfV v)) (lnV v q)) 0))), (3, .int (nI ((lnV v q + 7) / 8))), (2, .int (nI (lnV v q))), (0, .ref (A (0, 14))), (1, .int (nI q))] := hl
        have loop77 : ∀ (n_ : Nat) (k : Nat) (f21 : Nat → Int32) (lvk : Nat → Nat), ((lnV v q + 7) / 8) - k < n_ → (k ≤ ((lnV v q + 7) / 8)) → (VT (pourN v (ntV v) (ldV (flV v q (nfV v)) (lnV v q)) k) (ntV v) (cpN v) lvk) → (∀ t, t < ntV v → f21 t = nI (cpN v t - lvk t)) → ∀ (H : Heap) (locs : List Loc) (ls : Array Slot), wX Z (ids g) A (cE Z A g (up2 (up2 (up2 μ 0 21 f21) 0 18 M55) 0 19 R55)) (fA (ids g) A (cE Z A g μ) s.heap.size) s H locs → lv_has ls 7 [(0, .ref (A (0, 14))), (1, .int (nI q)), (2, .int (nI (lnV v q))), (3, .int (nI ((lnV v q + 7) / 8))), (4, .int (nI (k - pourC v (ntV v) (ldV (flV v q (nfV v)) (lnV v q)) k))), (5, .int (nI k))] → W p l e (rmD 6 0 0) s m ([.ref (A (0, 14)), .int (nI q)] : List Value).toArray below meth c H locs 0 0 (MQ below (va_Qi (fun r u => r = nI (((lnV v q + 7) / 8) - pourC v (ntV v) (ldV (flV v q (nfV v)) (lnV v q)) ((lnV v q + 7) / 8)) ∧ SQ μ u) (fun u t => qB Z (ids g) A ((cE Z A g) u) (fA (ids g) A (cE Z A g μ) s.heap.size) t) (fA (ids g) A (cE Z A g μ) s.heap.size)) ([.ref (A (0, 14)), .int (nI q)] : List Value).toArray s 0 0 (fA (ids g) A (cE Z A g μ) s.heap.size)) (F0 m 77 ls []) := by
          intro n_
          induction n_ with
          | zero => intro k f21 lvk hm; exact absurd hm (Nat.not_lt_zero _)
          | succ n_ ih77 =>
            intro k f21 lvk hm hk hVk hRm H locs ls hW hl
            have hpk := hpc k
            refine lv_iload hxe hcd dX9_dropsFromLevels_77 (lv_at hl 5 rfl) ?_
            refine lv_iload_n hxe hcd dX9_dropsFromLevels_79 rfl (lv_at hl 3 rfl) ?_
            refine n_ge S (a := k) (b := ((lnV v q + 7) / 8)) (by omega) (by omega) dX9_dropsFromLevels_80 (tgt := 137) (by decide) (fun c80 => ?_) (fun c80 => ?_)
            · refine lv_iload hxe hcd dX9_dropsFromLevels_137 (lv_at hl 4 rfl) ?_
              refine r_iret S hr hlk (F := (cE Z A g)) (u := (up2 (up2 (up2 μ 0 21 f21) 0 18 M55) 0 19 R55)) hW ?_ dX9_dropsFromLevels_139
              rw [show k = ((lnV v q + 7) / 8) by omega]
              exact ⟨rfl, SQ_tr (SQ_up (SQ_rfl μ) (Or.inr ⟨rfl, by decide, by decide⟩) _) (SQ_18 _ _ _)⟩
            · refine lv_aload_n hxe hcd dX9_dropsFromLevels_83 rfl (lv_at hl 0 rfl) ?_
              refine lv_aload_n hxe hcd dX9_dropsFromLevels_84 rfl (lv_at hl 0 rfl) ?_
              refine gf_X9_32 S hW dX9_dropsFromLevels_85 ?_
              refine lv_iload hxe hcd dX9_dropsFromLevels_88 (lv_at hl 5 rfl) ?_
              refine lv_iload_n hxe hcd dX9_dropsFromLevels_90 rfl (lv_at hl 2 rfl) ?_
              refine r_calli0 (r_runV hZ S hW (As := [.int (nI k), .int (nI (lnV v q))]) (rest := [.ref (A (0, 14))]) (t_X4_loudnessOf l hZ A g (up2 (up2 (up2 μ 0 21 f21) 0 18 M55) 0 19 R55) H.size (fr := k) (n := lnV v q) (by omega) (VG_ln hVG hq)) k_X9_367 (r_recv hW (x := (0, 17)) (in_r (by decide) (by decide)) rfl rfl) (hl.1) rfl rfl (Nat.le_of_ble_eq_true rfl) ⟨Nat.le_of_ble_eq_true rfl, Nat.le_of_ble_eq_true rfl⟩ ⟨Nat.le_of_ble_eq_true rfl, Nat.le_of_ble_eq_true rfl⟩ dX9_dropsFromLevels_91) hW (fun r91 H locs hp91 hW => ?_)
              have hp91 := hp91.symm
              subst hp91
              refine r_as (y := ((ldV (flV v q (nfV v)) (lnV v q)) k)) (by rw [up2_s]; exact ldV_congr hO55) ?_
              refine r_calli0 (r_runV hZ S hW (As := [.int ((ldV (flV v q (nfV v)) (lnV v q)) k)]) (rest := []) (t_X9_roomiestFor l hZ A g (up2 (up2 (up2 μ 0 21 f21) 0 18 M55) 0 19 R55) H.size v hVG (RP_k (k2 := (up2 (up2 (up2 μ 0 21 f21) 0 18 M55) 0 19 R55) 0) hR (fun o ho => by simp only [up2_o (show o ≠ 18 by omega), up2_o (show o ≠ 19 by omega), up2_o (show o ≠ 21 by omega)])) (pourN v (ntV v) (ldV (flV v q (nfV v)) (lnV v q)) k) lvk hVk (fun t ht => pourN_tu hVT hn4 ht k) (fun t ht => by rw [up2_o (o2 := 21) (o := 19) (by decide), up2_o (o2 := 21) (o := 18) (by decide), up2_s]; exact hRm t ht) ((ldV (flV v q (nfV v)) (lnV v q)) k)) k_X9_380 (r_recv hW (x := (0, 14)) (in_r (by decide) (by decide)) rfl rfl) (hl.1) rfl rfl (Nat.le_of_ble_eq_true rfl) ⟨Nat.le_of_ble_eq_true rfl, Nat.le_of_ble_eq_true rfl⟩ ⟨Nat.le_of_ble_eq_true rfl, Nat.le_of_ble_eq_true rfl⟩ dX9_dropsFromLevels_94) hW (fun r94 H locs hp94 hW => ?_)
              have hp94 := hp94.symm
              subst hp94
              rcases hB : bstV (pourN v (ntV v) (ldV (flV v q (nfV v)) (lnV v q)) k) ((ldV (flV v q (nfV v)) (lnV v q)) k) (ntV v) with _ | qt
              · refine r_as (y := (-1)) oI_none ?_
                refine lv_istore (lv' := [(6, .int (-1)), (0, .ref (A (0, 14))), (1, .int (nI q)), (2, .int (nI (lnV v q))), (3, .int (nI ((lnV v q + 7) / 8))), (4, .int (nI (k - pourC v (ntV v) (ldV (flV v q (nfV v)) (lnV v q)) k))), (5, .int (nI k))]) hxe hcd dX9_dropsFromLevels_97 hl (by decide) rfl (fun ls hl => ?_)
                refine lv_iload hxe hcd dX9_dropsFromLevels_99 (lv_at hl 0 rfl) ?_
                refine lv_iconst (v := (-1)) hxe hcd dX9_dropsFromLevels_101 (by decide) ?_
                refine lv_icmp_ne (tgt := 111) hxe hcd dX9_dropsFromLevels_102 (by decide) (fun h => absurd h (by decide)) (fun _ => ?_)
                refine lv_iinc (v := (nI ((k - pourC v (ntV v) (ldV (flV v q (nfV v)) (lnV v q)) k) + 1))) (lv' := [(4, .int (nI ((k - pourC v (ntV v) (ldV (flV v q (nfV v)) (lnV v q)) k) + 1))), (6, .int (-1)), (0, .ref (A (0, 14))), (1, .int (nI q)), (2, .int (nI (lnV v q))), (3, .int (nI ((lnV v q + 7) / 8))), (5, .int (nI k))]) hxe hcd dX9_dropsFromLevels_105 hl (k := 5) rfl (nI_add (k - pourC v (ntV v) (ldV (flV v q (nfV v)) (lnV v q)) k) 1) (by decide) rfl (fun ls hl => ?_)
                refine lv_goto (tgt := 131) hxe hcd dX9_dropsFromLevels_108 (by decide) ?_
                refine lv_iinc (v := (nI (k + 1))) (lv' := [(5, .int (nI (k + 1))), (4, .int (nI ((k - pourC v (ntV v) (ldV (flV v q (nfV v)) (lnV v q)) k) + 1))), (6, .int (-1)), (0, .ref (A (0, 14))), (1, .int (nI q)), (2, .int (nI (lnV v q))), (3, .int (nI ((lnV v q + 7) / 8)))]) hxe hcd dX9_dropsFromLevels_131 hl (k := 6) rfl (nI_add k 1) (by decide) rfl (fun ls hl => ?_)
                refine lv_goto (tgt := 77) hxe hcd dX9_dropsFromLevels_134 (by decide) ?_
                have hl : lv_has ls 7 [(5, .int (nI (k + 1))), (4, .int (nI (k + 1 - pourC v (ntV v) (ldV (flV v q (nfV v)) (lnV v q)) (k + 1)))), (0, .ref (A (0, 14))), (1, .int (nI q)), (2, .int (nI (lnV v q))), (3, .int (nI ((lnV v q + 7) / 8)))] := by
                  rw [show k + 1 - pourC v (ntV v) (ldV (flV v q (nfV v)) (lnV v q)) (k + 1) = k - pourC v (ntV v) (ldV (flV v q (nfV v)) (lnV v q)) k + 1 by rw [pourC_none hB]; omega]
                  exact lv_sub hl [0, 1, 3, 4, 5, 6] rfl
                exact ih77 (k + 1) f21 lvk (by omega) (by omega) (VT_drop hVk hB) hRm _ _ _ hW (lv_sub hl [2, 3, 4, 5, 1, 0] rfl)
              · refine r_as (y := (nI qt)) (oI_some qt) ?_
                have hbq := bstV_lt hVk hB
                have hcq := hVk qt (by omega)
                refine lv_istore (lv' := [(6, .int (nI qt)), (0, .ref (A (0, 14))), (1, .int (nI q)), (2, .int (nI (lnV v q))), (3, .int (nI ((lnV v q + 7) / 8))), (4, .int (nI (k - pourC v (ntV v) (ldV (flV v q (nfV v)) (lnV v q)) k))), (5, .int (nI k))]) hxe hcd dX9_dropsFromLevels_97 hl (by decide) rfl (fun ls hl => ?_)
                refine lv_iload hxe hcd dX9_dropsFromLevels_99 (lv_at hl 0 rfl) ?_
                refine lv_iconst (v := (-1)) hxe hcd dX9_dropsFromLevels_101 (by decide) ?_
                refine lv_icmp_ne (tgt := 111) hxe hcd dX9_dropsFromLevels_102 (by decide) (fun c102 => ?_) (fun c102 => absurd c102 (nI_m1 (by omega)))
                refine lv_aload_n hxe hcd dX9_dropsFromLevels_111 rfl (lv_at hl 1 rfl) ?_
                refine gf_X9_43 S hW dX9_dropsFromLevels_112 ?_
                refine lv_iload hxe hcd dX9_dropsFromLevels_115 (lv_at hl 0 rfl) ?_
                refine lv_aload_n hxe hcd dX9_dropsFromLevels_117 rfl (lv_at hl 1 rfl) ?_
                refine gf_X9_43 S hW dX9_dropsFromLevels_118 ?_
                refine lv_iload hxe hcd dX9_dropsFromLevels_121 (lv_at hl 0 rfl) ?_
                refine r_calli0 (r_runS hZ S hW (As := [.ref (A (0, 21)), .int (nI qt)]) (rest := [.int (nI qt), .ref (A (0, 21))]) (t_X9_read l hZ A g (up2 (up2 (up2 μ 0 21 f21) 0 18 M55) 0 19 R55) H.size (b := 0) (o := 21) (n := 4) rfl (in_r (by decide) (by decide)) (nI qt)) k_X9_383 (hl.1) rfl rfl (Nat.le_of_ble_eq_true rfl) ⟨Nat.le_of_ble_eq_true rfl, Nat.le_of_ble_eq_true rfl⟩ ⟨Nat.le_of_ble_eq_true rfl, Nat.le_of_ble_eq_true rfl⟩ dX9_dropsFromLevels_123) hW (fun r123 H locs hp123 hW => ?_)
                have hp123 := hp123.symm
                subst hp123
                refine r_as (y := (nI (cpN v qt - lvk qt))) (by rw [rd_in (n := 4) (k := qt) _ (by omega) (by decide), up2_o (o2 := 21) (o := 19) (by decide), up2_o (o2 := 21) (o := 18) (by decide), up2_s, hRm qt (by omega)]) ?_
                refine lv_iconst (v := (nI 1)) hxe hcd dX9_dropsFromLevels_126 (by decide) ?_
                refine n_isub S (a := (cpN v qt - lvk qt)) (b := 1) (by omega) dX9_dropsFromLevels_127 ?_
                refine r_callv (F := (cE Z A g)) (r_runS hZ S hW (As := [.ref (A (0, 21)), .int (nI qt), .int (nI ((cpN v qt - lvk qt) - 1))]) (rest := []) (t_X9_write l hZ A g (up2 (up2 (up2 μ 0 21 f21) 0 18 M55) 0 19 R55) H.size (b := 0) (o := 21) (n := 4) rfl (in_r (by decide) (by decide)) (nI qt) (nI ((cpN v qt - lvk qt) - 1))) k_X9_376 (hl.1) rfl rfl (Nat.le_of_ble_eq_true rfl) ⟨Nat.le_of_ble_eq_true rfl, Nat.le_of_ble_eq_true rfl⟩ ⟨Nat.le_of_ble_eq_true rfl, Nat.le_of_ble_eq_true rfl⟩ dX9_dropsFromLevels_128) hW (fun u128 H locs hp128 hW => ?_)
                have hp128 := hp128.symm
                subst hp128
                refine lv_iinc (v := (nI (k + 1))) (lv' := [(5, .int (nI (k + 1))), (6, .int (nI qt)), (0, .ref (A (0, 14))), (1, .int (nI q)), (2, .int (nI (lnV v q))), (3, .int (nI ((lnV v q + 7) / 8))), (4, .int (nI (k - pourC v (ntV v) (ldV (flV v q (nfV v)) (lnV v q)) k)))]) hxe hcd dX9_dropsFromLevels_131 hl (k := 6) rfl (nI_add k 1) (by decide) rfl (fun ls hl => ?_)
                refine lv_goto (tgt := 77) hxe hcd dX9_dropsFromLevels_134 (by decide) ?_
                have hl : lv_has ls 7 [(5, .int (nI (k + 1))), (4, .int (nI (k + 1 - pourC v (ntV v) (ldV (flV v q (nfV v)) (lnV v q)) (k + 1)))), (0, .ref (A (0, 14))), (1, .int (nI q)), (2, .int (nI (lnV v q))), (3, .int (nI ((lnV v q + 7) / 8)))] := by
                  rw [show k + 1 - pourC v (ntV v) (ldV (flV v q (nfV v)) (lnV v q)) (k + 1) = k - pourC v (ntV v) (ldV (flV v q (nfV v)) (lnV v q)) k by rw [pourC_some hB]; omega]
                  exact lv_sub hl [0, 6, 2, 3, 4, 5] rfl
                exact ih77 (k + 1) (upd f21 qt (nI (cpN v qt - lvk qt - 1))) (fun t => if t = qt then lvk qt + 1 else lvk t) (by omega) (by omega) (VT_take hVk hB) (fun t ht => if e9 : t = qt then (by subst e9; rw [upd_s]; simp only [if_true]; try rw [Nat.sub_sub]) else (by rw [upd_o e9]; simp only [if_neg e9]; exact hRm t ht)) _ _ _ (by rw [up2_o (o2 := 21) (o := 19) (by decide), up2_o (o2 := 21) (o := 18) (by decide), up2_s, wr_in (n := 4) (k := qt) _ _ (by omega) (by decide), up2_c (o := 19) (o2 := 21) (by decide), up2_c (o := 18) (o2 := 21) (by decide), up2_2] at hW; exact hW) (lv_sub hl [2, 3, 4, 5, 1, 0] rfl)
        exact loop77 (((lnV v q + 7) / 8) + 1) 0 (cpR i (fun t => nI (cpN v t - lvN v t)) (μ 0 21)) (lvN v) (Nat.lt_succ_self _) (Nat.zero_le _) hVT (fun t ht => by rw [cpR, if_pos (by omega)]) _ _ _ hW (lv_sub hl [4, 5, 3, 2, 1, 0] rfl)
      · have hvt := hVT i (by omega)
        refine lv_aload_n hxe hcd dX9_dropsFromLevels_16 rfl (lv_at hl 0 rfl) ?_
        refine gf_X9_43 S hW dX9_dropsFromLevels_17 ?_
        refine lv_iload_n hxe hcd dX9_dropsFromLevels_20 rfl (lv_at hl 2 rfl) ?_
        refine lv_aload_n hxe hcd dX9_dropsFromLevels_21 rfl (lv_at hl 0 rfl) ?_
        refine gf_X9_10 S hW dX9_dropsFromLevels_22 ?_
        refine gf_X9_193 S hW sB_0 dX9_dropsFromLevels_25 ?_
        refine lv_iload_n hxe hcd dX9_dropsFromLevels_28 rfl (lv_at hl 2 rfl) ?_
        refine r_calli0 (r_runV hZ S hW (As := [.int (nI i)]) (rest := [.int (nI i), .ref (A (0, 21))]) (t_X7_capacityOf l hZ A g (up2 μ 0 21 (cpR i (fun t => nI (cpN v t - lvN v t)) (μ 0 21))) H.size (Or.inl sB_0) (nI i)) k_X9_222 (r_recv hW (x := (0, 9)) (in_s sB_0 (by decide)) rfl rfl) (hl.1) rfl rfl (Nat.le_of_ble_eq_true rfl) ⟨Nat.le_of_ble_eq_true rfl, Nat.le_of_ble_eq_true rfl⟩ ⟨Nat.le_of_ble_eq_true rfl, Nat.le_of_ble_eq_true rfl⟩ dX9_dropsFromLevels_29) hW (fun r29 H locs hp29 hW => ?_)
        have hp29 := hp29.symm
        subst hp29
        refine r_as (y := (nI (cpN v i))) (by rw [rd_in (n := 4) (k := i) _ (by omega) (by decide), up2_o (o2 := 10) (o := 21) (by decide), (hR.2.2.2 i (by omega)).1]; exact hvt.1) ?_
        refine lv_aload_n hxe hcd dX9_dropsFromLevels_32 rfl (lv_at hl 0 rfl) ?_
        refine gf_X9_10 S hW dX9_dropsFromLevels_33 ?_
        refine gf_X9_193 S hW sB_0 dX9_dropsFromLevels_36 ?_
        refine lv_iload_n hxe hcd dX9_dropsFromLevels_39 rfl (lv_at hl 2 rfl) ?_
        refine r_calli0 (r_runV hZ S hW (As := [.int (nI i)]) (rest := [.int (nI (cpN v i)), .int (nI i), .ref (A (0, 21))]) (t_X7_levelOf l hZ A g (up2 μ 0 21 (cpR i (fun t => nI (cpN v t - lvN v t)) (μ 0 21))) H.size (Or.inl sB_0) (nI i)) k_X9_228 (r_recv hW (x := (0, 9)) (in_s sB_0 (by decide)) rfl rfl) (hl.1) rfl rfl (Nat.le_of_ble_eq_true rfl) ⟨Nat.le_of_ble_eq_true rfl, Nat.le_of_ble_eq_true rfl⟩ ⟨Nat.le_of_ble_eq_true rfl, Nat.le_of_ble_eq_true rfl⟩ dX9_dropsFromLevels_40) hW (fun r40 H locs hp40 hW => ?_)
        have hp40 := hp40.symm
        subst hp40
        refine r_as (y := (nI (lvN v i))) (by rw [rd_in (n := 4) (k := i) _ (by omega) (by decide), up2_o (o2 := 12) (o := 21) (by decide), (hR.2.2.2 i (by omega)).2.2.1]; exact hvt.2.1) ?_
        refine n_isub S (a := (cpN v i)) (b := (lvN v i)) (by omega) dX9_dropsFromLevels_43 ?_
        refine r_callv (F := (cE Z A g)) (r_runS hZ S hW (As := [.ref (A (0, 21)), .int (nI i), .int (nI ((cpN v i) - (lvN v i)))]) (rest := []) (t_X9_write l hZ A g (up2 μ 0 21 (cpR i (fun t => nI (cpN v t - lvN v t)) (μ 0 21))) H.size (b := 0) (o := 21) (n := 4) rfl (in_r (by decide) (by decide)) (nI i) (nI ((cpN v i) - (lvN v i)))) k_X9_376 (hl.1) rfl rfl (Nat.le_of_ble_eq_true rfl) ⟨Nat.le_of_ble_eq_true rfl, Nat.le_of_ble_eq_true rfl⟩ ⟨Nat.le_of_ble_eq_true rfl, Nat.le_of_ble_eq_true rfl⟩ dX9_dropsFromLevels_44) hW (fun u44 H locs hp44 hW => ?_)
        have hp44 := hp44.symm
        subst hp44
        refine lv_iinc (v := (nI (i + 1))) (lv' := [(2, .int (nI (i + 1))), (0, .ref (A (0, 14))), (1, .int (nI q))]) hxe hcd dX9_dropsFromLevels_47 hl (k := 2) rfl (nI_add i 1) (by decide) rfl (fun ls hl => ?_)
        refine lv_goto (tgt := 2) hxe hcd dX9_dropsFromLevels_50 (by decide) ?_
        exact ih2 (i + 1) (by omega) (by omega) _ _ _ (by rw [up2_s, up2_2, wr_in (n := 4) (k := i) _ _ (by omega) (by decide), cpR_step (fun t => nI (cpN v t - lvN v t))] at hW; exact hW) (lv_sub hl [1, 2, 0] rfl)
  exact loop2 (ntV v + 1) 0 (Nat.lt_succ_self _) (Nat.zero_le _) _ _ _ (by rw [cpR_0, up2_id]; exact hW) (lv_sub hl [1, 2, 0] rfl)
