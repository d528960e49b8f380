set_option maxHeartbeats 4000000 in
set_option maxRecDepth 100000 in
theorem t_X10_meanLevel (l : Launch) {Z : ZT} (hZ : zOK Z) (B : Nat → Nat) (ν : MM) (sz : Nat) (ln : Nat → Nat) (hln : ∀ q, q < 4 → ν 1 (25 + q) = nI (ln q) ∧ ln q ≤ 160) {nf : Nat} (hnf : ν 1 0 = nI nf) (hnf8 : nf ≤ 8) (ps : Nat → Nat) (hps : ∀ f, f < nf → ν 1 (13 + f) = nI (ps f) ∧ ps f ≤ 999 ∧ KP (ν 1 (5 + f)) (nI (ps f))) (x : Int32) : XMd l yX10_meanLevel cX10_meanLevel 4 (some .double) 4 [.ref (B 0), .int x] Z mds B (mE Z B) ν sz (fun r u => (¬ IX x 4 ∧ r = FP.dconst0 ∧ u = up1 ν 0 (upd (ν 0) 0 (nI 1))) ∨ (∃ q, q < 4 ∧ x = nI q ∧ ln q = 0 ∧ r = FP.dconst0 ∧ u = up1 ν 0 (upd (ν 0) 0 (nI 2))) ∨ (∃ q, q < 4 ∧ x = nI q ∧ 0 < ln q ∧ r = FP.ddiv (FP.i2d (isum (fun k => iabs ((flV (ν 1) q nf) k)) (ln q))) (FP.i2d (nI (ln q))) ∧ ∃ o2 g2 : Nat → Int32, u = up1 (up1 (up1 ν 0 (upd (ν 0) 0 (nI 0))) 6 o2) 7 g2)) := by
  refine r_met (E := (mE Z B ν)) (by decide +kernel) (Nat.le_of_ble_eq_true rfl) ?_
  intro p e s m below meth c ls S hr hlk hnm hsz hW hl
  have hxe := S.1
  have hcd := S.2.1
  subst hsz
  have hl : lv_has ls 4 [(0, .ref (B 0)), (1, .int x)] := hl
  refine lv_aload_n hxe hcd dX10_meanLevel_0 rfl (lv_at hl 0 rfl) ?_
  refine lv_iload_n hxe hcd dX10_meanLevel_1 rfl (lv_at hl 1 rfl) ?_
  refine r_calli0 (r_runS hZ S hW (As := [.int x]) (rest := [.ref (B 0)]) (t_X10_isSong l hZ mds B (mE Z B ν) s.heap.size x) k_X10_105 (hl.1) rfl rfl (Nat.le_of_ble_eq_true rfl) ⟨Nat.le_of_ble_eq_true rfl, Nat.le_of_ble_eq_true rfl⟩ ⟨Nat.le_of_ble_eq_true rfl, Nat.le_of_ble_eq_true rfl⟩ dX10_meanLevel_2) hW (fun r2 H locs hp2 hW => ?_)
  rcases hp2 with ⟨hp20, hp2⟩ | ⟨hp20, hp2⟩
  · subst hp20
    refine lv_if_ne (tgt := 12) hxe hcd dX10_meanLevel_5 (by decide) (fun _ => ?_) (fun h => absurd h (by decide))
    obtain ⟨q, hq, rfl⟩ := hp2
    have hlq := hln q hq
    refine lv_aload_n hxe hcd dX10_meanLevel_12 rfl (lv_at hl 0 rfl) ?_
    refine gf_X10_16 S hW dX10_meanLevel_13 ?_
    refine lv_bipush (v := (nI 25)) hxe hcd dX10_meanLevel_16 (by decide) ?_
    refine lv_iload_n hxe hcd dX10_meanLevel_18 rfl (lv_at hl 1 rfl) ?_
    refine n_iadd S (a := 25) (b := q) dX10_meanLevel_19 ?_
    refine gm_ald S hW (i := 1) (k := (25 + q)) (n := 1357) (by decide) (by decide) rfl (by omega) dX10_meanLevel_20 ?_
    refine r_as (y := (nI (ln q))) (hlq.1) ?_
    refine n_ifne S (a := (ln q)) (by omega) dX10_meanLevel_21 (tgt := 28) (by decide) (fun c21 => ?_) (fun c21 => ?_)
    · refine lv_iconst (v := (nI 0)) hxe hcd dX10_meanLevel_28 (by decide) ?_
      refine gp_X10_53 S hW dX10_meanLevel_29 (fun H locs hW => ?_)
      refine lv_aload_n hxe hcd dX10_meanLevel_32 rfl (lv_at hl 0 rfl) ?_
      refine gf_X10_53 S hW dX10_meanLevel_33 ?_
      refine r_as (y := (nI 0)) (by rw [up1_s, upd_s]) ?_
      refine lv_if_eq (tgt := 41) hxe hcd dX10_meanLevel_36 (by decide) (fun _ => ?_) (fun h => absurd (by decide) h)
      refine lv_aload_n hxe hcd dX10_meanLevel_41 rfl (lv_at hl 0 rfl) ?_
      refine lv_iload_n hxe hcd dX10_meanLevel_42 rfl (lv_at hl 1 rfl) ?_
      refine r_callv (F := (mE Z B)) (r_runV hZ S hW (As := [.int (nI q)]) (rest := []) (t_X10_filters l hZ B (up1 ν 0 (upd (ν 0) 0 (nI 0))) H.size (q := q) (n := ln q) (by assumption) (hln q (by assumption)).1 (hln q (by assumption)).2 hnf hnf8 ps hps) k_X10_130 (r_recv hW (x := 0) (List.mem_range.mpr (by decide)) rfl rfl) (hl.1) rfl rfl (Nat.le_of_ble_eq_true rfl) ⟨Nat.le_of_ble_eq_true rfl, Nat.le_of_ble_eq_true rfl⟩ ⟨Nat.le_of_ble_eq_true rfl, Nat.le_of_ble_eq_true rfl⟩ dX10_meanLevel_43) hW (fun u43 H locs hp43 hW => ?_)
      obtain ⟨o43, g43, hm43, hO43⟩ := hp43
      subst hm43
      have hO43 : ∀ j, j < ln q → o43 j = (flV (ν 1) q nf) j := hO43
      refine lv_iconst (v := (nI 0)) hxe hcd dX10_meanLevel_46 (by decide) ?_
      refine lv_istore_n (lv' := [(2, .int (nI 0)), (0, .ref (B 0)), (1, .int (nI q))]) hxe hcd dX10_meanLevel_47 rfl hl (by decide) rfl (fun ls hl => ?_)
      refine lv_iconst (v := (nI 0)) hxe hcd dX10_meanLevel_48 (by decide) ?_
      refine lv_istore_n (lv' := [(3, .int (nI 0)), (2, .int (nI 0)), (0, .ref (B 0)), (1, .int (nI q))]) hxe hcd dX10_meanLevel_49 rfl hl (by decide) rfl (fun ls hl => ?_)
      have loop50 : ∀ (n_ : Nat) (i : Nat), ln q - i < n_ → (i ≤ ln q) → ∀ (H : Heap) (locs : List Loc) (ls : Array Slot), wX Z mds B (mE Z B (up1 (up1 (up1 ν 0 (upd (ν 0) 0 (nI 0))) 6 o43) 7 g43)) (fA mds B (mE Z B ν) s.heap.size) s H locs → lv_has ls 4 [(0, .ref (B 0)), (1, .int (nI q)), (2, .int (isum (fun k => iabs ((flV (ν 1) q nf) k)) i)), (3, .int (nI i))] → W p l e (rmD 4 0 0) s m ([.ref (B 0), .int (nI q)] : List Value).toArray below meth c H locs 0 0 (MQ below (va_Qd (fun r u => (¬ IX (nI q) 4 ∧ r = FP.dconst0 ∧ u = up1 ν 0 (upd (ν 0) 0 (nI 1))) ∨ (∃ q_z, q_z < 4 ∧ (nI q) = nI q_z ∧ ln q_z = 0 ∧ r = FP.dconst0 ∧ u = up1 ν 0 (upd (ν 0) 0 (nI 2))) ∨ (∃ q_z, q_z < 4 ∧ (nI q) = nI q_z ∧ 0 < ln q_z ∧ r = FP.ddiv (FP.i2d (isum (fun k => iabs ((flV (ν 1) q_z nf) k)) (ln q_z))) (FP.i2d (nI (ln q_z))) ∧ ∃ o2 g2 : Nat → Int32, u = up1 (up1 (up1 ν 0 (upd (ν 0) 0 (nI 0))) 6 o2) 7 g2)) (fun u t => qB Z mds B ((mE Z B) u) (fA mds B (mE Z B ν) s.heap.size) t) (fA mds B (mE Z B ν) s.heap.size)) ([.ref (B 0), .int (nI q)] : List Value).toArray s 0 0 (fA mds B (mE Z B ν) s.heap.size)) (F0 m 50 ls []) := by
        intro n_
        induction n_ with
        | zero => intro i hm; exact absurd hm (Nat.not_lt_zero _)
        | succ n_ ih50 =>
          intro i hm hi H locs ls hW hl
          refine lv_iload_n hxe hcd dX10_meanLevel_50 rfl (lv_at hl 3 rfl) ?_
          refine lv_aload_n hxe hcd dX10_meanLevel_51 rfl (lv_at hl 0 rfl) ?_
          refine gf_X10_16 S hW dX10_meanLevel_52 ?_
          refine lv_bipush (v := (nI 25)) hxe hcd dX10_meanLevel_55 (by decide) ?_
          refine lv_iload_n hxe hcd dX10_meanLevel_57 rfl (lv_at hl 1 rfl) ?_
          refine n_iadd S (a := 25) (b := q) dX10_meanLevel_58 ?_
          refine gm_ald S hW (i := 1) (k := (25 + q)) (n := 1357) (by decide) (by decide) rfl (by omega) dX10_meanLevel_59 ?_
          refine r_as (y := (nI (ln q))) (hlq.1) ?_
          refine n_ge S (a := i) (b := (ln q)) (by omega) (by omega) dX10_meanLevel_60 (tgt := 81) (by decide) (fun c60 => ?_) (fun c60 => ?_)
          · refine lv_iload_n hxe hcd dX10_meanLevel_81 rfl (lv_at hl 2 rfl) ?_
            refine lv_i2d hxe hcd dX10_meanLevel_82 ?_
            refine lv_aload_n hxe hcd dX10_meanLevel_83 rfl (lv_at hl 0 rfl) ?_
            refine gf_X10_16 S hW dX10_meanLevel_84 ?_
            refine lv_bipush (v := (nI 25)) hxe hcd dX10_meanLevel_87 (by decide) ?_
            refine lv_iload_n hxe hcd dX10_meanLevel_89 rfl (lv_at hl 1 rfl) ?_
            refine n_iadd S (a := 25) (b := q) dX10_meanLevel_90 ?_
            refine gm_ald S hW (i := 1) (k := (25 + q)) (n := 1357) (by decide) (by decide) rfl (by omega) dX10_meanLevel_91 ?_
            refine r_as (y := (nI (ln q))) (hlq.1) ?_
            refine lv_i2d hxe hcd dX10_meanLevel_92 ?_
            refine lv_ddiv hxe hcd dX10_meanLevel_93 (ddiv_ok _ (by omega) (by omega)) ?_
            refine r_dret S hr hlk (F := (mE Z B)) (u := (up1 (up1 (up1 ν 0 (upd (ν 0) 0 (nI 0))) 6 o43) 7 g43)) hW ?_ dX10_meanLevel_94
            refine Or.inr (Or.inr ⟨q, hq, rfl, by omega, ?_, o43, g43, rfl⟩)
            rw [show i = ln q by omega]
          · refine lv_iload_n hxe hcd dX10_meanLevel_63 rfl (lv_at hl 2 rfl) ?_
            refine lv_aload_n hxe hcd dX10_meanLevel_64 rfl (lv_at hl 0 rfl) ?_
            refine gf_X10_32 S hW dX10_meanLevel_65 ?_
            refine lv_iload_n hxe hcd dX10_meanLevel_68 rfl (lv_at hl 3 rfl) ?_
            refine gm_ald S hW (i := 6) (k := i) (n := 160) (by decide) (by decide) rfl (by omega) dX10_meanLevel_69 ?_
            refine r_as (y := (flV (ν 1) q nf i)) (by rw [up1_o (j := 6) (i := 7) (by decide), up1_s]; exact hO43 i (by omega)) ?_
            refine r_calli0 (r_runS hZ S hW (As := [.int (flV (ν 1) q nf i)]) (rest := [.int (isum (fun k => iabs ((flV (ν 1) q nf) k)) i)]) (t_X10_size l hZ mds B (mE Z B (up1 (up1 (up1 ν 0 (upd (ν 0) 0 (nI 0))) 6 o43) 7 g43)) H.size (flV (ν 1) q nf i)) k_X10_99 (hl.1) rfl rfl (Nat.le_of_ble_eq_true rfl) ⟨Nat.le_of_ble_eq_true rfl, Nat.le_of_ble_eq_true rfl⟩ ⟨Nat.le_of_ble_eq_true rfl, Nat.le_of_ble_eq_true rfl⟩ dX10_meanLevel_70) hW (fun r70 H locs hp70 hW => ?_)
            have hp70 := hp70.symm
            subst hp70
            refine lv_iadd hxe hcd dX10_meanLevel_73 ?_
            refine lv_istore_n (lv' := [(2, .int ((isum (fun k => iabs ((flV (ν 1) q nf) k)) i) + (iabs (flV (ν 1) q nf i)))), (0, .ref (B 0)), (1, .int (nI q)), (3, .int (nI i))]) hxe hcd dX10_meanLevel_74 rfl hl (by decide) rfl (fun ls hl => ?_)
            refine lv_iinc (v := (nI (i + 1))) (lv' := [(3, .int (nI (i + 1))), (2, .int ((isum (fun k => iabs ((flV (ν 1) q nf) k)) i) + (iabs (flV (ν 1) q nf i)))), (0, .ref (B 0)), (1, .int (nI q))]) hxe hcd dX10_meanLevel_75 hl (k := 3) rfl (nI_add i 1) (by decide) rfl (fun ls hl => ?_)
            refine lv_goto (tgt := 50) hxe hcd dX10_meanLevel_78 (by decide) ?_
            have hl : lv_has ls 4 [(3, .int (nI (i + 1))), (2, .int (isum (fun k => iabs ((flV (ν 1) q nf) k)) (i + 1))), (0, .ref (B 0)), (1, .int (nI q))] := by
              rw [isum]
              exact lv_sub hl [0, 1, 2, 3] rfl
            exact ih50 (i + 1) (by omega) (by omega) _ _ _ hW (lv_sub hl [2, 3, 1, 0] rfl)
      exact loop50 ((ln q) + 1) 0 (Nat.lt_succ_self _) (Nat.zero_le _) _ _ _ hW (lv_sub hl [2, 3, 1, 0] rfl)
    · refine lv_iconst (v := (nI 2)) hxe hcd dX10_meanLevel_24 (by decide) ?_
      refine lv_goto (tgt := 29) hxe hcd dX10_meanLevel_25 (by decide) ?_
      refine gp_X10_53 S hW dX10_meanLevel_29 (fun H locs hW => ?_)
      refine lv_aload_n hxe hcd dX10_meanLevel_32 rfl (lv_at hl 0 rfl) ?_
      refine gf_X10_53 S hW dX10_meanLevel_33 ?_
      refine r_as (y := (nI 2)) (by rw [up1_s, upd_s]) ?_
      refine lv_if_eq (tgt := 41) hxe hcd dX10_meanLevel_36 (by decide) (fun h => absurd h (by decide)) (fun _ => ?_)
      refine lv_dconst0 hxe hcd dX10_meanLevel_39 ?_
      refine r_dret S hr hlk (F := (mE Z B)) (u := (up1 ν 0 (upd (ν 0) 0 (nI 2)))) hW ?_ dX10_meanLevel_40
      exact Or.inr (Or.inl ⟨q, hq, rfl, c21, rfl, rfl⟩)
  · subst hp20
    refine lv_if_ne (tgt := 12) hxe hcd dX10_meanLevel_5 (by decide) (fun h => absurd h (by decide)) (fun _ => ?_)
    refine lv_iconst (v := (nI 1)) hxe hcd dX10_meanLevel_8 (by decide) ?_
    refine lv_goto (tgt := 29) hxe hcd dX10_meanLevel_9 (by decide) ?_
    refine gp_X10_53 S hW dX10_meanLevel_29 (fun H locs hW => ?_)
    refine lv_aload_n hxe hcd dX10_meanLevel_32 rfl (lv_at hl 0 rfl) ?_
    refine gf_X10_53 S hW dX10_meanLevel_33 ?_
    refine r_as (y := (nI 1)) (by rw [up1_s, upd_s]) ?_
    refine lv_if_eq (tgt := 41) hxe hcd dX10_meanLevel_36 (by decide) (fun h => absurd h (by decide)) (fun _ => ?_)
    refine lv_dconst0 hxe hcd dX10_meanLevel_39 ?_
    refine r_dret S hr hlk (F := (mE Z B)) (u := (up1 ν 0 (upd (ν 0) 0 (nI 1)))) hW ?_ dX10_meanLevel_40
    exact Or.inl ⟨hp2, rfl, rfl⟩
set_option maxHeartbeats 4000000 in
set_option maxRecDepth 100000 in
theorem t_X10_filledShare (l : Launch) {Z : ZT} (hZ : zOK Z) (B : Nat → Nat) (ν : MM) (sz : Nat) {nt : Nat} (hnt : ν 1 1 = nI nt) (hnt4 : nt ≤ 4) (cp lv : Nat → Nat) (hV : VT (ν 1) nt cp lv) (hcp : ∀ t, t < nt → 1 ≤ cp t) : XMf l yX10_filledShare cX10_filledShare 4 (some .float) 1 [.ref (B 0)] Z mds B (mE Z B) ν sz (fun r u => (nt = 0 ∧ r = FP.fconst0 ∧ u = up1 ν 0 (upd (ν 0) 0 (nI 1))) ∨ (0 < nt ∧ r = FP.fdiv (FP.i2f (nI (sumN lv nt))) (FP.i2f (nI (sumN cp nt))) ∧ u = up1 ν 0 (upd (ν 0) 0 (nI 0)))) := by
  refine r_met (E := (mE Z B ν)) (by decide +kernel) (Nat.le_of_ble_eq_true rfl) ?_
  intro p e s m below meth c ls S hr hlk hnm hsz hW hl
  have hxe := S.1
  have hcd := S.2.1
  subst hsz
  have hl : lv_has ls 4 [(0, .ref (B 0))] := hl
  refine lv_aload_n hxe hcd dX10_filledShare_0 rfl (lv_at hl 0 rfl) ?_
  refine lv_aload_n hxe hcd dX10_filledShare_1 rfl (lv_at hl 0 rfl) ?_
  refine gf_X10_16 S hW dX10_filledShare_2 ?_
  refine lv_iconst (v := (nI 1)) hxe hcd dX10_filledShare_5 (by decide) ?_
  refine gm_ald S hW (i := 1) (k := 1) (n := 1357) (by decide) (by decide) rfl (by omega) dX10_filledShare_6 ?_
  refine r_as (y := (nI nt)) (hnt) ?_
  refine n_ifne S (a := nt) (by omega) dX10_filledShare_7 (tgt := 14) (by decide) (fun c7 => ?_) (fun c7 => ?_)
  · refine lv_iconst (v := (nI 0)) hxe hcd dX10_filledShare_14 (by decide) ?_
    refine gp_X10_53 S hW dX10_filledShare_15 (fun H locs hW => ?_)
    refine lv_iconst (v := (nI 0)) hxe hcd dX10_filledShare_18 (by decide) ?_
    refine lv_istore_n (lv' := [(1, .int (nI 0)), (0, .ref (B 0))]) hxe hcd dX10_filledShare_19 rfl hl (by decide) rfl (fun ls hl => ?_)
    refine lv_iconst (v := (nI 0)) hxe hcd dX10_filledShare_20 (by decide) ?_
    refine lv_istore_n (lv' := [(2, .int (nI 0)), (1, .int (nI 0)), (0, .ref (B 0))]) hxe hcd dX10_filledShare_21 rfl hl (by decide) rfl (fun ls hl => ?_)
    refine lv_iconst (v := (nI 0)) hxe hcd dX10_filledShare_22 (by decide) ?_
    refine lv_istore_n (lv' := [(3, .int (nI 0)), (2, .int (nI 0)), (1, .int (nI 0)), (0, .ref (B 0))]) hxe hcd dX10_filledShare_23 rfl hl (by decide) rfl (fun ls hl => ?_)
    have loop24 : ∀ (n_ : Nat) (i : Nat), nt - i < n_ → (i ≤ nt) → ∀ (H : Heap) (locs : List Loc) (ls : Array Slot), wX Z mds B (mE Z B (up1 ν 0 (upd (ν 0) 0 (nI 0)))) (fA mds B (mE Z B ν) s.heap.size) s H locs → lv_has ls 4 [(0, .ref (B 0)), (1, .int (nI (sumN lv i))), (2, .int (nI (sumN cp i))), (3, .int (nI i))] → W p l e (rmD 1 0 0) s m ([.ref (B 0)] : List Value).toArray below meth c H locs 0 0 (MQ below (va_Qf (fun r u => (nt = 0 ∧ r = FP.fconst0 ∧ u = up1 ν 0 (upd (ν 0) 0 (nI 1))) ∨ (0 < nt ∧ r = FP.fdiv (FP.i2f (nI (sumN lv nt))) (FP.i2f (nI (sumN cp nt))) ∧ u = up1 ν 0 (upd (ν 0) 0 (nI 0)))) (fun u t => qB Z mds B ((mE Z B) u) (fA mds B (mE Z B ν) s.heap.size) t) (fA mds B (mE Z B ν) s.heap.size)) ([.ref (B 0)] : List Value).toArray s 0 0 (fA mds B (mE Z B ν) s.heap.size)) (F0 m 24 ls []) := by
      intro n_
      induction n_ with
      | zero => intro i hm; exact absurd hm (Nat.not_lt_zero _)
      | succ n_ ih24 =>
        intro i hm hi H locs ls hW hl
        refine lv_iload_n hxe hcd dX10_filledShare_24 rfl (lv_at hl 3 rfl) ?_
        refine lv_aload_n hxe hcd dX10_filledShare_25 rfl (lv_at hl 0 rfl) ?_
        refine gf_X10_16 S hW dX10_filledShare_26 ?_
        refine lv_iconst (v := (nI 1)) hxe hcd dX10_filledShare_29 (by decide) ?_
        refine gm_ald S hW (i := 1) (k := 1) (n := 1357) (by decide) (by decide) rfl (by omega) dX10_filledShare_30 ?_
        refine r_as (y := (nI nt)) (hnt) ?_
        refine n_ge S (a := i) (b := nt) (by omega) (by omega) dX10_filledShare_31 (tgt := 66) (by decide) (fun c31 => ?_) (fun c31 => ?_)
        · refine lv_aload_n hxe hcd dX10_filledShare_66 rfl (lv_at hl 0 rfl) ?_
          refine gf_X10_53 S hW dX10_filledShare_67 ?_
          refine r_as (y := (nI 0)) (by rw [up1_s, upd_s]) ?_
          refine lv_if_ne (tgt := 81) hxe hcd dX10_filledShare_70 (by decide) (fun h => absurd h (by decide)) (fun _ => ?_)
          refine lv_iload_n hxe hcd dX10_filledShare_73 rfl (lv_at hl 1 rfl) ?_
          refine lv_i2f hxe hcd dX10_filledShare_74 ?_
          refine lv_iload_n hxe hcd dX10_filledShare_75 rfl (lv_at hl 2 rfl) ?_
          refine lv_i2f hxe hcd dX10_filledShare_76 ?_
          have hle := sumN_le (f := lv) (b := 9) (n := nt) (fun t ht => by have := hV t ht; omega)
          have hlc := sumN_le (f := cp) (b := 9) (n := nt) (fun t ht => by have := hV t ht; omega)
          have hlp := sumN_pos hcp (show 0 < nt by omega)
          have hin : i = nt := by omega
          subst hin
          refine lv_fdiv hxe hcd dX10_filledShare_77 (fdiv_ok (by omega) hlp (by omega)) ?_
          refine lv_goto (tgt := 82) hxe hcd dX10_filledShare_78 (by decide) ?_
          refine r_fret S hr hlk (F := (mE Z B)) (u := (up1 ν 0 (upd (ν 0) 0 (nI 0)))) hW ?_ dX10_filledShare_82
          exact Or.inr ⟨by omega, rfl, rfl⟩
        · refine lv_iload_n hxe hcd dX10_filledShare_34 rfl (lv_at hl 1 rfl) ?_
          refine lv_aload_n hxe hcd dX10_filledShare_35 rfl (lv_at hl 0 rfl) ?_
          refine gf_X10_16 S hW dX10_filledShare_36 ?_
          refine lv_iload_n hxe hcd dX10_filledShare_39 rfl (lv_at hl 3 rfl) ?_
          refine lv_iconst (v := (nI 2)) hxe hcd dX10_filledShare_40 (by decide) ?_
          refine r_calli0 (r_runS hZ S hW (As := [.int (nI i), .int (nI 2)]) (rest := [.ref (B 1), .int (nI (sumN lv i))]) (t_X10_of l hZ mds B (mE Z B (up1 ν 0 (upd (ν 0) 0 (nI 0)))) H.size (t := i) (w := 2)) k_X10_144 (hl.1) rfl rfl (Nat.le_of_ble_eq_true rfl) ⟨Nat.le_of_ble_eq_true rfl, Nat.le_of_ble_eq_true rfl⟩ ⟨Nat.le_of_ble_eq_true rfl, Nat.le_of_ble_eq_true rfl⟩ dX10_filledShare_41) hW (fun r41 H locs hp41 hW => ?_)
          have hp41 := hp41.symm
          subst hp41
          refine gm_ald S hW (i := 1) (k := (29 + 12 * i + 2)) (n := 1357) (by decide) (by decide) rfl (by omega) dX10_filledShare_44 ?_
          refine r_as (y := (nI (lv i))) ((hV i (by omega)).2.1) ?_
          refine n_iadd S (a := (sumN lv i)) (b := (lv i)) dX10_filledShare_45 ?_
          refine lv_istore_n (lv' := [(1, .int (nI ((sumN lv i) + (lv i)))), (0, .ref (B 0)), (2, .int (nI (sumN cp i))), (3, .int (nI i))]) hxe hcd dX10_filledShare_46 rfl hl (by decide) rfl (fun ls hl => ?_)
          refine lv_iload_n hxe hcd dX10_filledShare_47 rfl (lv_at hl 2 rfl) ?_
          refine lv_aload_n hxe hcd dX10_filledShare_48 rfl (lv_at hl 1 rfl) ?_
          refine gf_X10_16 S hW dX10_filledShare_49 ?_
          refine lv_iload_n hxe hcd dX10_filledShare_52 rfl (lv_at hl 3 rfl) ?_
          refine lv_iconst (v := (nI 0)) hxe hcd dX10_filledShare_53 (by decide) ?_
          refine r_calli0 (r_runS hZ S hW (As := [.int (nI i), .int (nI 0)]) (rest := [.ref (B 1), .int (nI (sumN cp i))]) (t_X10_of l hZ mds B (mE Z B (up1 ν 0 (upd (ν 0) 0 (nI 0)))) H.size (t := i) (w := 0)) k_X10_144 (hl.1) rfl rfl (Nat.le_of_ble_eq_true rfl) ⟨Nat.le_of_ble_eq_true rfl, Nat.le_of_ble_eq_true rfl⟩ ⟨Nat.le_of_ble_eq_true rfl, Nat.le_of_ble_eq_true rfl⟩ dX10_filledShare_54) hW (fun r54 H locs hp54 hW => ?_)
          have hp54 := hp54.symm
          subst hp54
          refine gm_ald S hW (i := 1) (k := (29 + 12 * i + 0)) (n := 1357) (by decide) (by decide) rfl (by omega) dX10_filledShare_57 ?_
          refine r_as (y := (nI (cp i))) ((hV i (by omega)).1) ?_
          refine n_iadd S (a := (sumN cp i)) (b := (cp i)) dX10_filledShare_58 ?_
          refine lv_istore_n (lv' := [(2, .int (nI ((sumN cp i) + (cp i)))), (1, .int (nI ((sumN lv i) + (lv i)))), (0, .ref (B 0)), (3, .int (nI i))]) hxe hcd dX10_filledShare_59 rfl hl (by decide) rfl (fun ls hl => ?_)
          refine lv_iinc (v := (nI (i + 1))) (lv' := [(3, .int (nI (i + 1))), (2, .int (nI ((sumN cp i) + (cp i)))), (1, .int (nI ((sumN lv i) + (lv i)))), (0, .ref (B 0))]) hxe hcd dX10_filledShare_60 hl (k := 3) rfl (nI_add i 1) (by decide) rfl (fun ls hl => ?_)
          refine lv_goto (tgt := 24) hxe hcd dX10_filledShare_63 (by decide) ?_
          have hl : lv_has ls 4 [(3, .int (nI (i + 1))), (2, .int (nI (sumN cp (i + 1)))), (1, .int (nI (sumN lv (i + 1)))), (0, .ref (B 0))] := by
            rw [sumN, sumN]
            exact lv_sub hl [0, 1, 2, 3] rfl
          exact ih24 (i + 1) (by omega) (by omega) _ _ _ hW (lv_sub hl [3, 2, 1, 0] rfl)
    exact loop24 (nt + 1) 0 (Nat.lt_succ_self _) (Nat.zero_le _) _ _ _ hW (lv_sub hl [3, 2, 1, 0] rfl)
  · refine lv_iconst (v := (nI 1)) hxe hcd dX10_filledShare_10 (by decide) ?_
    refine lv_goto (tgt := 15) hxe hcd dX10_filledShare_11 (by decide) ?_
    refine gp_X10_53 S hW dX10_filledShare_15 (fun H locs hW => ?_)
    refine lv_iconst (v := (nI 0)) hxe hcd dX10_filledShare_18 (by decide) ?_
    refine lv_istore_n (lv' := [(1, .int (nI 0)), (0, .ref (B 0))]) hxe hcd dX10_filledShare_19 rfl hl (by decide) rfl (fun ls hl => ?_)
    refine lv_iconst (v := (nI 0)) hxe hcd dX10_filledShare_20 (by decide) ?_
    refine lv_istore_n (lv' := [(2, .int (nI 0)), (1, .int (nI 0)), (0, .ref (B 0))]) hxe hcd dX10_filledShare_21 rfl hl (by decide) rfl (fun ls hl => ?_)
    refine lv_iconst (v := (nI 0)) hxe hcd dX10_filledShare_22 (by decide) ?_
    refine lv_istore_n (lv' := [(3, .int (nI 0)), (2, .int (nI 0)), (1, .int (nI 0)), (0, .ref (B 0))]) hxe hcd dX10_filledShare_23 rfl hl (by decide) rfl (fun ls hl => ?_)
    have loop24 : ∀ (n_ : Nat) (i : Nat), nt - i < n_ → (i ≤ nt) → ∀ (H : Heap) (locs : List Loc) (ls : Array Slot), wX Z mds B (mE Z B (up1 ν 0 (upd (ν 0) 0 (nI 1)))) (fA mds B (mE Z B ν) s.heap.size) s H locs → lv_has ls 4 [(0, .ref (B 0)), (1, .int (nI (sumN lv i))), (2, .int (nI (sumN cp i))), (3, .int (nI i))] → W p l e (rmD 1 0 0) s m ([.ref (B 0)] : List Value).toArray below meth c H locs 0 0 (MQ below (va_Qf (fun r u => (nt = 0 ∧ r = FP.fconst0 ∧ u = up1 ν 0 (upd (ν 0) 0 (nI 1))) ∨ (0 < nt ∧ r = FP.fdiv (FP.i2f (nI (sumN lv nt))) (FP.i2f (nI (sumN cp nt))) ∧ u = up1 ν 0 (upd (ν 0) 0 (nI 0)))) (fun u t => qB Z mds B ((mE Z B) u) (fA mds B (mE Z B ν) s.heap.size) t) (fA mds B (mE Z B ν) s.heap.size)) ([.ref (B 0)] : List Value).toArray s 0 0 (fA mds B (mE Z B ν) s.heap.size)) (F0 m 24 ls []) := by
      intro n_
      induction n_ with
      | zero => intro i hm; exact absurd hm (Nat.not_lt_zero _)
      | succ n_ ih24 =>
        intro i hm hi H locs ls hW hl
        refine lv_iload_n hxe hcd dX10_filledShare_24 rfl (lv_at hl 3 rfl) ?_
        refine lv_aload_n hxe hcd dX10_filledShare_25 rfl (lv_at hl 0 rfl) ?_
        refine gf_X10_16 S hW dX10_filledShare_26 ?_
        refine lv_iconst (v := (nI 1)) hxe hcd dX10_filledShare_29 (by decide) ?_
        refine gm_ald S hW (i := 1) (k := 1) (n := 1357) (by decide) (by decide) rfl (by omega) dX10_filledShare_30 ?_
        refine r_as (y := (nI nt)) (hnt) ?_
        refine n_ge S (a := i) (b := nt) (by omega) (by omega) dX10_filledShare_31 (tgt := 66) (by decide) (fun c31 => ?_) (fun c31 => ?_)
        · refine lv_aload_n hxe hcd dX10_filledShare_66 rfl (lv_at hl 0 rfl) ?_
          refine gf_X10_53 S hW dX10_filledShare_67 ?_
          refine r_as (y := (nI 1)) (by rw [up1_s, upd_s]) ?_
          refine lv_if_ne (tgt := 81) hxe hcd dX10_filledShare_70 (by decide) (fun _ => ?_) (fun h => absurd h (by decide))
          refine lv_fconst0 hxe hcd dX10_filledShare_81 ?_
          refine r_fret S hr hlk (F := (mE Z B)) (u := (up1 ν 0 (upd (ν 0) 0 (nI 1)))) hW ?_ dX10_filledShare_82
          exact Or.inl ⟨c7, rfl, rfl⟩
        · refine lv_iload_n hxe hcd dX10_filledShare_34 rfl (lv_at hl 1 rfl) ?_
          refine lv_aload_n hxe hcd dX10_filledShare_35 rfl (lv_at hl 0 rfl) ?_
          refine gf_X10_16 S hW dX10_filledShare_36 ?_
          refine lv_iload_n hxe hcd dX10_filledShare_39 rfl (lv_at hl 3 rfl) ?_
          refine lv_iconst (v := (nI 2)) hxe hcd dX10_filledShare_40 (by decide) ?_
          refine r_calli0 (r_runS hZ S hW (As := [.int (nI i), .int (nI 2)]) (rest := [.ref (B 1), .int (nI (sumN lv i))]) (t_X10_of l hZ mds B (mE Z B (up1 ν 0 (upd (ν 0) 0 (nI 1)))) H.size (t := i) (w := 2)) k_X10_144 (hl.1) rfl rfl (Nat.le_of_ble_eq_true rfl) ⟨Nat.le_of_ble_eq_true rfl, Nat.le_of_ble_eq_true rfl⟩ ⟨Nat.le_of_ble_eq_true rfl, Nat.le_of_ble_eq_true rfl⟩ dX10_filledShare_41) hW (fun r41 H locs hp41 hW => ?_)
          have hp41 := hp41.symm
          subst hp41
          refine gm_ald S hW (i := 1) (k := (29 + 12 * i + 2)) (n := 1357) (by decide) (by decide) rfl (by omega) dX10_filledShare_44 ?_
          refine r_as (y := (nI (lv i))) ((hV i (by omega)).2.1) ?_
          refine n_iadd S (a := (sumN lv i)) (b := (lv i)) dX10_filledShare_45 ?_
          refine lv_istore_n (lv' := [(1, .int (nI ((sumN lv i) + (lv i)))), (0, .ref (B 0)), (2, .int (nI (sumN cp i))), (3, .int (nI i))]) hxe hcd dX10_filledShare_46 rfl hl (by decide) rfl (fun ls hl => ?_)
          refine lv_iload_n hxe hcd dX10_filledShare_47 rfl (lv_at hl 2 rfl) ?_
          refine lv_aload_n hxe hcd dX10_filledShare_48 rfl (lv_at hl 1 rfl) ?_
          refine gf_X10_16 S hW dX10_filledShare_49 ?_
          refine lv_iload_n hxe hcd dX10_filledShare_52 rfl (lv_at hl 3 rfl) ?_
          refine lv_iconst (v := (nI 0)) hxe hcd dX10_filledShare_53 (by decide) ?_
          refine r_calli0 (r_runS hZ S hW (As := [.int (nI i), .int (nI 0)]) (rest := [.ref (B 1), .int (nI (sumN cp i))]) (t_X10_of l hZ mds B (mE Z B (up1 ν 0 (upd (ν 0) 0 (nI 1)))) H.size (t := i) (w := 0)) k_X10_144 (hl.1) rfl rfl (Nat.le_of_ble_eq_true rfl) ⟨Nat.le_of_ble_eq_true rfl, Nat.le_of_ble_eq_true rfl⟩ ⟨Nat.le_of_ble_eq_true rfl, Nat.le_of_ble_eq_true rfl⟩ dX10_filledShare_54) hW (fun r54 H locs hp54 hW => ?_)
          have hp54 := hp54.symm
          subst hp54
          refine gm_ald S hW (i := 1) (k := (29 + 12 * i + 0)) (n := 1357) (by decide) (by decide) rfl (by omega) dX10_filledShare_57 ?_
          refine r_as (y := (nI (cp i))) ((hV i (by omega)).1) ?_
          refine n_iadd S (a := (sumN cp i)) (b := (cp i)) dX10_filledShare_58 ?_
          refine lv_istore_n (lv' := [(2, .int (nI ((sumN cp i) + (cp i)))), (1, .int (nI ((sumN lv i) + (lv i)))), (0, .ref (B 0)), (3, .int (nI i))]) hxe hcd dX10_filledShare_59 rfl hl (by decide) rfl (fun ls hl => ?_)
          refine lv_iinc (v := (nI (i + 1))) (lv' := [(3, .int (nI (i + 1))), (2, .int (nI ((sumN cp i) + (cp i)))), (1, .int (nI ((sumN lv i) + (lv i)))), (0, .ref (B 0))]) hxe hcd dX10_filledShare_60 hl (k := 3) rfl (nI_add i 1) (by decide) rfl (fun ls hl => ?_)
          refine lv_goto (tgt := 24) hxe hcd dX10_filledShare_63 (by decide) ?_
          have hl : lv_has ls 4 [(3, .int (nI (i + 1))), (2, .int (nI (sumN cp (i + 1)))), (1, .int (nI (sumN lv (i + 1)))), (0, .ref (B 0))] := by
            rw [sumN, sumN]
            exact lv_sub hl [0, 1, 2, 3] rfl
          exact ih24 (i + 1) (by omega) (by omega) _ _ _ hW (lv_sub hl [3, 2, 1, 0] rfl)
    exact loop24 (nt + 1) 0 (Nat.lt_succ_self _) (Nat.zero_le _) _ _ _ hW (lv_sub hl [3, 2, 1, 0] rfl)
