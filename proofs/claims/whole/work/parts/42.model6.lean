set_option maxHeartbeats 4000000 in
set_option maxRecDepth 100000 in
theorem t_X10_power (l : Launch) {Z : ZT} (hZ : zOK Z) (B : Nat → Nat) (ν : MM) (sz : Nat) {q n : Nat} (hq : q < 4) (hn : ν 1 (25 + q) = nI n) (hn2 : n ≤ 160) {nf : Nat} (hnf : ν 1 0 = nI nf) (hnf8 : nf ≤ 8) (ps : Nat → Nat) (hps : ∀ f, f < nf → ν 1 (13 + f) = nI (ps f) ∧ ps f ≤ 999 ∧ KP (ν 1 (5 + f)) (nI (ps f))) : XMl l yX10_power cX10_power 5 (some .long) 3 [.ref (B 0), .int (nI q)] Z mds B (mE Z B) ν sz (fun r u => r = sqS (flV (ν 1) q nf) n ∧ ∃ o2 g2 : Nat → Int32, u = up1 (up1 ν 6 o2) 7 g2) := by
  refine r_met (E := (mE Z B ν)) (by decide +kernel) (Nat.le_of_ble_eq_true rfl) ?_
  intro p e s m below meth c ls S hr hlk hnm hsz hW hl
  have hxe := S.1
  have hcd := S.2.1
  subst hsz
  have hl : lv_has ls 5 [(0, .ref (B 0)), (1, .int (nI q))] := hl
  refine lv_aload_n hxe hcd dX10_power_0 rfl (lv_at hl 0 rfl) ?_
  refine lv_iload_n hxe hcd dX10_power_1 rfl (lv_at hl 1 rfl) ?_
  refine r_callv (F := (mE Z B)) (r_runV hZ S hW (As := [.int (nI q)]) (rest := []) (t_X10_filters l hZ B ν s.heap.size (q := q) (n := n) (by assumption) hn hn2 hnf hnf8 ps hps) k_X10_130 (r_recv hW (x := 0) (List.mem_range.mpr (by decide)) rfl rfl) (hl.1) rfl rfl (Nat.le_of_ble_eq_true rfl) ⟨Nat.le_of_ble_eq_true rfl, Nat.le_of_ble_eq_true rfl⟩ ⟨Nat.le_of_ble_eq_true rfl, Nat.le_of_ble_eq_true rfl⟩ dX10_power_2) hW (fun u2 H locs hp2 hW => ?_)
  obtain ⟨o2, g2, hm2, hO2⟩ := hp2
  subst hm2
  have hO2 : ∀ j, j < n → o2 j = (flV (ν 1) q nf) j := hO2
  refine lv_lconst (v := 0) hxe hcd dX10_power_5 (by decide) ?_
  refine lv_lstore_n (lv' := [(2, .long (0 : Int64)), (0, .ref (B 0)), (1, .int (nI q))]) hxe hcd dX10_power_6 rfl hl (by decide) rfl (fun ls hl => ?_)
  refine lv_iconst (v := (nI 0)) hxe hcd dX10_power_7 (by decide) ?_
  refine lv_istore (lv' := [(4, .int (nI 0)), (2, .long (0 : Int64)), (0, .ref (B 0)), (1, .int (nI q))]) hxe hcd dX10_power_8 hl (by decide) rfl (fun ls hl => ?_)
  have loop10 : ∀ (n_ : Nat) (i : Nat), n - i < n_ → (i ≤ n) → ∀ (H : Heap) (locs : List Loc) (ls : Array Slot), wX Z mds B (mE Z B (up1 (up1 ν 6 o2) 7 g2)) (fA mds B (mE Z B ν) s.heap.size) s H locs → lv_has ls 5 [(0, .ref (B 0)), (1, .int (nI q)), (2, .long (sqS (flV (ν 1) q nf) i)), (4, .int (nI i))] → W p l e (rmD 3 0 0) s m ([.ref (B 0), .int (nI q)] : List Value).toArray below meth c H locs 0 0 (MQ below (va_Ql (fun r u => r = sqS (flV (ν 1) q nf) n ∧ ∃ o2 g2 : Nat → Int32, u = up1 (up1 ν 6 o2) 7 g2) (fun u t => qB Z mds B ((mE Z B) u) (fA mds B (mE Z B ν) s.heap.size) t) (fA mds B (mE Z B ν) s.heap.size)) ([.ref (B 0), .int (nI q)] : List Value).toArray s 0 0 (fA mds B (mE Z B ν) s.heap.size)) (F0 m 10 ls []) := by
    intro n_
    induction n_ with
    | zero => intro i hm; exact absurd hm (Nat.not_lt_zero _)
    | succ n_ ih10 =>
      intro i hm hi H locs ls hW hl
      refine lv_iload hxe hcd dX10_power_10 (lv_at hl 3 rfl) ?_
      refine lv_aload_n hxe hcd dX10_power_12 rfl (lv_at hl 0 rfl) ?_
      refine gf_X10_16 S hW dX10_power_13 ?_
      refine lv_bipush (v := (nI 25)) hxe hcd dX10_power_16 (by decide) ?_
      refine lv_iload_n hxe hcd dX10_power_18 rfl (lv_at hl 1 rfl) ?_
      refine n_iadd S (a := 25) (b := q) dX10_power_19 ?_
      refine gm_ald S hW (i := 1) (k := (25 + q)) (n := 1357) (by decide) (by decide) rfl (by omega) dX10_power_20 ?_
      refine r_as (y := (nI n)) (by rw [up1_o (j := 1) (i := 7) (by decide), up1_o (j := 1) (i := 6) (by decide), hn]) ?_
      refine n_ge S (a := i) (b := n) (by omega) (by omega) dX10_power_21 (tgt := 50) (by decide) (fun c21 => ?_) (fun c21 => ?_)
      · refine lv_lload_n hxe hcd dX10_power_50 rfl (lv_at hl 2 rfl) ?_
        refine r_lret S hr hlk (F := (mE Z B)) (u := (up1 (up1 ν 6 o2) 7 g2)) hW ?_ dX10_power_51
        rw [show i = n by omega]
        exact ⟨rfl, o2, g2, rfl⟩
      · refine lv_lload_n hxe hcd dX10_power_24 rfl (lv_at hl 2 rfl) ?_
        refine lv_aload_n hxe hcd dX10_power_25 rfl (lv_at hl 0 rfl) ?_
        refine gf_X10_32 S hW dX10_power_26 ?_
        refine lv_iload hxe hcd dX10_power_29 (lv_at hl 3 rfl) ?_
        refine gm_ald S hW (i := 6) (k := i) (n := 160) (by decide) (by decide) rfl (by omega) dX10_power_31 ?_
        refine r_as (y := (flV (ν 1) q nf i)) (by rw [up1_o (j := 6) (i := 7) (by decide), up1_s]; exact hO2 i (by omega)) ?_
        refine lv_i2l (v := (flV (ν 1) q nf i).toInt64) hxe hcd dX10_power_32 rfl ?_
        refine lv_aload_n hxe hcd dX10_power_33 rfl (lv_at hl 0 rfl) ?_
        refine gf_X10_32 S hW dX10_power_34 ?_
        refine lv_iload hxe hcd dX10_power_37 (lv_at hl 3 rfl) ?_
        refine gm_ald S hW (i := 6) (k := i) (n := 160) (by decide) (by decide) rfl (by omega) dX10_power_39 ?_
        refine r_as (y := (flV (ν 1) q nf i)) (by rw [up1_o (j := 6) (i := 7) (by decide), up1_s]; exact hO2 i (by omega)) ?_
        refine lv_i2l (v := (flV (ν 1) q nf i).toInt64) hxe hcd dX10_power_40 rfl ?_
        refine lv_lmul hxe hcd dX10_power_41 ?_
        refine lv_ladd hxe hcd dX10_power_42 ?_
        refine lv_lstore_n (lv' := [(2, .long ((sqS (flV (ν 1) q nf) i) + (((flV (ν 1) q nf i).toInt64) * ((flV (ν 1) q nf i).toInt64)))), (0, .ref (B 0)), (1, .int (nI q)), (4, .int (nI i))]) hxe hcd dX10_power_43 rfl hl (by decide) rfl (fun ls hl => ?_)
        refine lv_iinc (v := (nI (i + 1))) (lv' := [(4, .int (nI (i + 1))), (2, .long ((sqS (flV (ν 1) q nf) i) + (((flV (ν 1) q nf i).toInt64) * ((flV (ν 1) q nf i).toInt64)))), (0, .ref (B 0)), (1, .int (nI q))]) hxe hcd dX10_power_44 hl (k := 3) rfl (nI_add i 1) (by decide) rfl (fun ls hl => ?_)
        refine lv_goto (tgt := 10) hxe hcd dX10_power_47 (by decide) ?_
        have hl : lv_has ls 5 [(4, .int (nI (i + 1))), (2, .long (sqS (flV (ν 1) q nf) (i + 1))), (0, .ref (B 0)), (1, .int (nI q))] := by
          rw [sqS]
          exact lv_sub hl [0, 1, 2, 3] rfl
        exact ih10 (i + 1) (by omega) (by omega) _ _ _ hW (lv_sub hl [2, 3, 1, 0] rfl)
  exact loop10 (n + 1) 0 (Nat.lt_succ_self _) (Nat.zero_le _) _ _ _ hW (lv_sub hl [2, 3, 1, 0] rfl)
set_option maxHeartbeats 4000000 in
set_option maxRecDepth 100000 in
theorem t_X10_sample (l : Launch) {Z : ZT} (hZ : zOK Z) (B : Nat → Nat) (ν : MM) (sz : Nat) (ln : Nat → Nat) (hln : ∀ q, q < 4 → ν 1 (25 + q) = nI (ln q) ∧ ln q ≤ 160) {nf : Nat} (hnf : ν 1 0 = nI nf) (hnf8 : nf ≤ 8) (ps : Nat → Nat) (hps : ∀ f, f < nf → ν 1 (13 + f) = nI (ps f) ∧ ps f ≤ 999 ∧ KP (ν 1 (5 + f)) (nI (ps f))) (x y : Int32) : XMi l yX10_sample cX10_sample 3 (some .int) 4 [.ref (B 0), .int x, .int y] Z mds B (mE Z B) ν sz (fun r u => (∃ q i, q < 4 ∧ x = nI q ∧ i < ln q ∧ y = nI i ∧ r = (flV (ν 1) q nf) i ∧ ∃ o2 g2 : Nat → Int32, u = up1 (up1 (up1 ν 0 (upd (ν 0) 0 (nI 0))) 6 o2) 7 g2) ∨ (¬ IX x 4 ∧ r = nI 0 ∧ u = up1 ν 0 (upd (ν 0) 0 (nI 1))) ∨ (∃ q, q < 4 ∧ x = nI q ∧ ¬ IX y (ln q) ∧ r = nI 0 ∧ u = up1 ν 0 (upd (ν 0) 0 (nI 2)))) := by
  refine r_met (E := (mE Z B ν)) (by decide +kernel) (Nat.le_of_ble_eq_true rfl) ?_
  intro p e s m below meth c ls S hr hlk hnm hsz hW hl
  have hxe := S.1
  have hcd := S.2.1
  subst hsz
  have hl : lv_has ls 3 [(0, .ref (B 0)), (1, .int x), (2, .int y)] := hl
  refine lv_aload_n hxe hcd dX10_sample_0 rfl (lv_at hl 0 rfl) ?_
  refine lv_iload_n hxe hcd dX10_sample_1 rfl (lv_at hl 1 rfl) ?_
  refine lv_iload_n hxe hcd dX10_sample_2 rfl (lv_at hl 2 rfl) ?_
  refine r_calli (F := (mE Z B)) (r_runV hZ S hW (As := [.int x, .int y]) (rest := []) (t_X10_looks l hZ B ν s.heap.size ln hln x y) k_X10_121 (r_recv hW (x := 0) (List.mem_range.mpr (by decide)) rfl rfl) (hl.1) rfl rfl (Nat.le_of_ble_eq_true rfl) ⟨Nat.le_of_ble_eq_true rfl, Nat.le_of_ble_eq_true rfl⟩ ⟨Nat.le_of_ble_eq_true rfl, Nat.le_of_ble_eq_true rfl⟩ dX10_sample_3) hW (fun r3 u3 H locs hp3 hW => ?_)
  rcases hp3 with ⟨q, hq, ex, hp3, rfl, rfl⟩ | ⟨hp3, rfl, rfl⟩ | ⟨q, hq, ex, hp3, rfl, rfl⟩
  · have hlq := hln q hq
    refine lv_if_eq (tgt := 11) hxe hcd dX10_sample_6 (by decide) (fun _ => ?_) (fun h => absurd (by decide) h)
    subst ex
    obtain ⟨i, hi, rfl⟩ := hp3
    refine lv_aload_n hxe hcd dX10_sample_11 rfl (lv_at hl 0 rfl) ?_
    refine lv_iload_n hxe hcd dX10_sample_12 rfl (lv_at hl 1 rfl) ?_
    refine r_callv (F := (mE Z B)) (r_runV hZ S hW (As := [.int (nI q)]) (rest := []) (t_X10_filters l hZ B (up1 ν 0 (upd (ν 0) 0 (nI 0))) H.size (q := q) (n := ln q) (by assumption) (hln q (by assumption)).1 (hln q (by assumption)).2 hnf hnf8 ps hps) k_X10_130 (r_recv hW (x := 0) (List.mem_range.mpr (by decide)) rfl rfl) (hl.1) rfl rfl (Nat.le_of_ble_eq_true rfl) ⟨Nat.le_of_ble_eq_true rfl, Nat.le_of_ble_eq_true rfl⟩ ⟨Nat.le_of_ble_eq_true rfl, Nat.le_of_ble_eq_true rfl⟩ dX10_sample_13) hW (fun u13 H locs hp13 hW => ?_)
    obtain ⟨o13, g13, hm13, hO13⟩ := hp13
    subst hm13
    have hO13 : ∀ j, j < ln q → o13 j = (flV (ν 1) q nf) j := hO13
    refine lv_aload_n hxe hcd dX10_sample_16 rfl (lv_at hl 0 rfl) ?_
    refine gf_X10_32 S hW dX10_sample_17 ?_
    refine lv_iload_n hxe hcd dX10_sample_20 rfl (lv_at hl 2 rfl) ?_
    refine gm_ald S hW (i := 6) (k := i) (n := 160) (by decide) (by decide) rfl (by omega) dX10_sample_21 ?_
    refine r_as (y := (flV (ν 1) q nf i)) (by rw [up1_o (j := 6) (i := 7) (by decide), up1_s]; exact hO13 i (by omega)) ?_
    refine r_iret S hr hlk (F := (mE Z B)) (u := (up1 (up1 (up1 ν 0 (upd (ν 0) 0 (nI 0))) 6 o13) 7 g13)) hW ?_ dX10_sample_22
    exact Or.inl ⟨q, i, hq, rfl, hi, rfl, rfl, o13, g13, rfl⟩
  · refine lv_if_eq (tgt := 11) hxe hcd dX10_sample_6 (by decide) (fun h => absurd h (by decide)) (fun _ => ?_)
    refine lv_iconst (v := (nI 0)) hxe hcd dX10_sample_9 (by decide) ?_
    refine r_iret S hr hlk (F := (mE Z B)) (u := (up1 ν 0 (upd (ν 0) 0 (nI 1)))) hW ?_ dX10_sample_10
    exact Or.inr (Or.inl ⟨hp3, rfl, rfl⟩)
  · have hlq := hln q hq
    refine lv_if_eq (tgt := 11) hxe hcd dX10_sample_6 (by decide) (fun h => absurd h (by decide)) (fun _ => ?_)
    refine lv_iconst (v := (nI 0)) hxe hcd dX10_sample_9 (by decide) ?_
    refine r_iret S hr hlk (F := (mE Z B)) (u := (up1 ν 0 (upd (ν 0) 0 (nI 2)))) hW ?_ dX10_sample_10
    exact Or.inr (Or.inr ⟨q, hq, ex, hp3, rfl, rfl⟩)
set_option maxHeartbeats 4000000 in
set_option maxRecDepth 100000 in
theorem t_X10_sampleByFilter (l : Launch) {Z : ZT} (hZ : zOK Z) (B : Nat → Nat) (ν : MM) (sz : Nat) (ln : Nat → Nat) (hln : ∀ q, q < 4 → ν 1 (25 + q) = nI (ln q) ∧ ln q ≤ 160) {nf : Nat} (hnf : ν 1 0 = nI nf) (hnf8 : nf ≤ 8) (ps : Nat → Nat) (hps : ∀ f, f < nf → ν 1 (13 + f) = nI (ps f) ∧ ps f ≤ 999 ∧ KP (ν 1 (5 + f)) (nI (ps f))) (x y : Int32) : XMi l yX10_sampleByFilter cX10_sampleByFilter 3 (some .int) 5 [.ref (B 0), .int x, .int y] Z mds B (mE Z B) ν sz (fun r u => (∃ q i, q < 4 ∧ x = nI q ∧ i < ln q ∧ y = nI i ∧ r = (flV (ν 1) q nf) i ∧ ∃ o2 g2 : Nat → Int32, u = up1 (up1 (up1 ν 0 (upd (ν 0) 0 (nI 0))) 6 o2) 7 g2) ∨ (¬ IX x 4 ∧ r = nI 0 ∧ u = up1 ν 0 (upd (ν 0) 0 (nI 1))) ∨ (∃ q, q < 4 ∧ x = nI q ∧ ¬ IX y (ln q) ∧ r = nI 0 ∧ u = up1 ν 0 (upd (ν 0) 0 (nI 2)))) := by
  refine r_met (E := (mE Z B ν)) (by decide +kernel) (Nat.le_of_ble_eq_true rfl) ?_
  intro p e s m below meth c ls S hr hlk hnm hsz hW hl
  have hxe := S.1
  have hcd := S.2.1
  subst hsz
  have hl : lv_has ls 3 [(0, .ref (B 0)), (1, .int x), (2, .int y)] := hl
  refine lv_aload_n hxe hcd dX10_sampleByFilter_0 rfl (lv_at hl 0 rfl) ?_
  refine lv_iload_n hxe hcd dX10_sampleByFilter_1 rfl (lv_at hl 1 rfl) ?_
  refine lv_iload_n hxe hcd dX10_sampleByFilter_2 rfl (lv_at hl 2 rfl) ?_
  refine r_calli (F := (mE Z B)) (r_runV hZ S hW (As := [.int x, .int y]) (rest := []) (t_X10_sample l hZ B ν s.heap.size ln hln hnf hnf8 ps hps x y) k_X10_134 (r_recv hW (x := 0) (List.mem_range.mpr (by decide)) rfl rfl) (hl.1) rfl rfl (Nat.le_of_ble_eq_true rfl) ⟨Nat.le_of_ble_eq_true rfl, Nat.le_of_ble_eq_true rfl⟩ ⟨Nat.le_of_ble_eq_true rfl, Nat.le_of_ble_eq_true rfl⟩ dX10_sampleByFilter_3) hW (fun r3 u3 H locs hp3 hW => ?_)
  refine r_iret S hr hlk (F := (mE Z B)) (u := u3) hW ?_ dX10_sampleByFilter_6
  exact hp3
set_option maxHeartbeats 4000000 in
set_option maxRecDepth 100000 in
theorem t_X10_mixedSample (l : Launch) {Z : ZT} (hZ : zOK Z) (B : Nat → Nat) (ν : MM) (sz : Nat) (ln : Nat → Nat) (hln : ∀ q, q < 4 → ν 1 (25 + q) = nI (ln q) ∧ ln q ≤ 160) {nf : Nat} (hnf : ν 1 0 = nI nf) (hnf8 : nf ≤ 8) (ps : Nat → Nat) (hps : ∀ f, f < nf → ν 1 (13 + f) = nI (ps f) ∧ ps f ≤ 999 ∧ KP (ν 1 (5 + f)) (nI (ps f))) (x y z : Int32) : XMi l yX10_mixedSample cX10_mixedSample 5 (some .int) 4 [.ref (B 0), .int x, .int y, .int z] Z mds B (mE Z B) ν sz (fun r u => (¬ (IX x 4 ∧ IX y 4) ∧ r = nI 0 ∧ u = up1 ν 0 (upd (ν 0) 0 (nI 1))) ∨ (∃ q1 q2, q1 < 4 ∧ q2 < 4 ∧ x = nI q1 ∧ y = nI q2 ∧ ¬ IX z (ln q1) ∧ ¬ IX z (ln q2) ∧ r = nI 0 ∧ u = up1 ν 0 (upd (ν 0) 0 (nI 2))) ∨ (∃ q1 q2 i, q1 < 4 ∧ q2 < 4 ∧ x = nI q1 ∧ y = nI q2 ∧ z = nI i ∧ (i < ln q1 ∨ i < ln q2) ∧ r = ((if i < ln q1 then (flV (ν 1) q1 nf) i else 0) + (if i < ln q2 then (flV (ν 1) q2 nf) i else 0)) / nI 2 ∧ ∃ o2 g2 : Nat → Int32, u = up1 (up1 (up1 ν 0 (upd (ν 0) 0 (nI 0))) 6 o2) 7 g2)) := by
  refine r_met (E := (mE Z B ν)) (by decide +kernel) (Nat.le_of_ble_eq_true rfl) ?_
  intro p e s m below meth c ls S hr hlk hnm hsz hW hl
  have hxe := S.1
  have hcd := S.2.1
  subst hsz
  have hl : lv_has ls 5 [(0, .ref (B 0)), (1, .int x), (2, .int y), (3, .int z)] := hl
  refine lv_iload_n hxe hcd dX10_mixedSample_0 rfl (lv_at hl 1 rfl) ?_
  refine r_calli0 (r_runS hZ S hW (As := [.int x]) (rest := []) (t_X10_isSong l hZ mds B (mE Z B ν) s.heap.size x) k_X10_105 (hl.1) rfl rfl (Nat.le_of_ble_eq_true rfl) ⟨Nat.le_of_ble_eq_true rfl, Nat.le_of_ble_eq_true rfl⟩ ⟨Nat.le_of_ble_eq_true rfl, Nat.le_of_ble_eq_true rfl⟩ dX10_mixedSample_1) hW (fun r1 H locs hp1 hW => ?_)
  rcases hp1 with ⟨hp10, hp1⟩ | ⟨hp10, hp1⟩
  · subst hp10
    refine lv_if_eq (tgt := 14) hxe hcd dX10_mixedSample_4 (by decide) (fun h => absurd h (by decide)) (fun _ => ?_)
    refine lv_iload_n hxe hcd dX10_mixedSample_7 rfl (lv_at hl 2 rfl) ?_
    refine r_calli0 (r_runS hZ S hW (As := [.int y]) (rest := []) (t_X10_isSong l hZ mds B (mE Z B ν) H.size y) k_X10_105 (hl.1) rfl rfl (Nat.le_of_ble_eq_true rfl) ⟨Nat.le_of_ble_eq_true rfl, Nat.le_of_ble_eq_true rfl⟩ ⟨Nat.le_of_ble_eq_true rfl, Nat.le_of_ble_eq_true rfl⟩ dX10_mixedSample_8) hW (fun r8 H locs hp8 hW => ?_)
    rcases hp8 with ⟨hp80, hp8⟩ | ⟨hp80, hp8⟩
    · subst hp80
      refine lv_if_ne (tgt := 20) hxe hcd dX10_mixedSample_11 (by decide) (fun _ => ?_) (fun h => absurd h (by decide))
      obtain ⟨q1, hq1, rfl⟩ := hp1
      obtain ⟨q2, hq2, rfl⟩ := hp8
      refine lv_aload_n hxe hcd dX10_mixedSample_20 rfl (lv_at hl 0 rfl) ?_
      refine lv_aload_n hxe hcd dX10_mixedSample_21 rfl (lv_at hl 0 rfl) ?_
      refine lv_iload_n hxe hcd dX10_mixedSample_22 rfl (lv_at hl 1 rfl) ?_
      refine lv_iload_n hxe hcd dX10_mixedSample_23 rfl (lv_at hl 3 rfl) ?_
      refine r_calli0 (r_runV hZ S hW (As := [.int (nI q1), .int z]) (rest := [.ref (B 0)]) (t_X10_isSample l hZ B ν H.size (q := q1) (n := ln q1) (by assumption) ((hln _ (by assumption)).1) (hln _ (by assumption)).2 z) k_X10_118 (r_recv hW (x := 0) (List.mem_range.mpr (by decide)) rfl rfl) (hl.1) rfl rfl (Nat.le_of_ble_eq_true rfl) ⟨Nat.le_of_ble_eq_true rfl, Nat.le_of_ble_eq_true rfl⟩ ⟨Nat.le_of_ble_eq_true rfl, Nat.le_of_ble_eq_true rfl⟩ dX10_mixedSample_24) hW (fun r24 H locs hp24 hW => ?_)
      rcases hp24 with ⟨hp240, hp24⟩ | ⟨hp240, hp24⟩
      · subst hp240
        refine lv_if_ne (tgt := 39) hxe hcd dX10_mixedSample_27 (by decide) (fun _ => ?_) (fun h => absurd h (by decide))
        refine lv_iconst (v := (nI 0)) hxe hcd dX10_mixedSample_39 (by decide) ?_
        refine lv_goto (tgt := 44) hxe hcd dX10_mixedSample_40 (by decide) ?_
        refine gp_X10_53 S hW dX10_mixedSample_44 (fun H locs hW => ?_)
        refine lv_aload_n hxe hcd dX10_mixedSample_47 rfl (lv_at hl 0 rfl) ?_
        refine gf_X10_53 S hW dX10_mixedSample_48 ?_
        refine r_as (y := (nI 0)) (by rw [up1_s, upd_s]) ?_
        refine lv_if_eq (tgt := 56) hxe hcd dX10_mixedSample_51 (by decide) (fun _ => ?_) (fun h => absurd (by decide) h)
        obtain ⟨i, hi, rfl⟩ := hp24
        have hlq1 := hln q1 hq1
        have hlq2 := hln q2 hq2
        refine lv_iconst (v := (nI 0)) hxe hcd dX10_mixedSample_56 (by decide) ?_
        refine lv_istore (lv' := [(4, .int (nI 0)), (0, .ref (B 0)), (1, .int (nI q1)), (2, .int (nI q2)), (3, .int (nI i))]) hxe hcd dX10_mixedSample_57 hl (by decide) rfl (fun ls hl => ?_)
        refine lv_aload_n hxe hcd dX10_mixedSample_59 rfl (lv_at hl 1 rfl) ?_
        refine lv_iload_n hxe hcd dX10_mixedSample_60 rfl (lv_at hl 2 rfl) ?_
        refine lv_iload_n hxe hcd dX10_mixedSample_61 rfl (lv_at hl 4 rfl) ?_
        refine r_calli0 (r_runV hZ S hW (As := [.int (nI q1), .int (nI i)]) (rest := []) (t_X10_isSample l hZ B (up1 ν 0 (upd (ν 0) 0 (nI 0))) H.size (q := q1) (n := ln q1) (by assumption) ((hln _ (by assumption)).1) (hln _ (by assumption)).2 (nI i)) k_X10_118 (r_recv hW (x := 0) (List.mem_range.mpr (by decide)) rfl rfl) (hl.1) rfl rfl (Nat.le_of_ble_eq_true rfl) ⟨Nat.le_of_ble_eq_true rfl, Nat.le_of_ble_eq_true rfl⟩ ⟨Nat.le_of_ble_eq_true rfl, Nat.le_of_ble_eq_true rfl⟩ dX10_mixedSample_62) hW (fun r62 H locs hp62 hW => ?_)
        rcases hp62 with ⟨hp620, hp62⟩ | ⟨hp620, hp62⟩
        · subst hp620
          refine lv_if_eq (tgt := 84) hxe hcd dX10_mixedSample_65 (by decide) (fun h => absurd h (by decide)) (fun _ => ?_)
          refine lv_aload_n hxe hcd dX10_mixedSample_68 rfl (lv_at hl 1 rfl) ?_
          refine lv_iload_n hxe hcd dX10_mixedSample_69 rfl (lv_at hl 2 rfl) ?_
          refine r_callv (F := (mE Z B)) (r_runV hZ S hW (As := [.int (nI q1)]) (rest := []) (t_X10_filters l hZ B (up1 ν 0 (upd (ν 0) 0 (nI 0))) H.size (q := q1) (n := ln q1) (by assumption) (hln q1 (by assumption)).1 (hln q1 (by assumption)).2 hnf hnf8 ps hps) k_X10_130 (r_recv hW (x := 0) (List.mem_range.mpr (by decide)) rfl rfl) (hl.1) rfl rfl (Nat.le_of_ble_eq_true rfl) ⟨Nat.le_of_ble_eq_true rfl, Nat.le_of_ble_eq_true rfl⟩ ⟨Nat.le_of_ble_eq_true rfl, Nat.le_of_ble_eq_true rfl⟩ dX10_mixedSample_70) hW (fun u70 H locs hp70 hW => ?_)
          obtain ⟨o70, g70, hm70, hO70⟩ := hp70
          subst hm70
          have hO70 : ∀ j, j < ln q1 → o70 j = (flV (ν 1) q1 nf) j := hO70
          refine lv_iload hxe hcd dX10_mixedSample_73 (lv_at hl 0 rfl) ?_
          refine lv_aload_n hxe hcd dX10_mixedSample_75 rfl (lv_at hl 1 rfl) ?_
          refine gf_X10_32 S hW dX10_mixedSample_76 ?_
          refine lv_iload_n hxe hcd dX10_mixedSample_79 rfl (lv_at hl 4 rfl) ?_
          refine gm_ald S hW (i := 6) (k := i) (n := 160) (by decide) (by decide) rfl (by omega) dX10_mixedSample_80 ?_
          refine r_as (y := (flV (ν 1) q1 nf i)) (by rw [up1_o (j := 6) (i := 7) (by decide), up1_s]; exact hO70 i (by omega)) ?_
          refine lv_iadd hxe hcd dX10_mixedSample_81 ?_
          refine lv_istore (lv' := [(4, .int ((nI 0) + (flV (ν 1) q1 nf i))), (0, .ref (B 0)), (1, .int (nI q1)), (2, .int (nI q2)), (3, .int (nI i))]) hxe hcd dX10_mixedSample_82 hl (by decide) rfl (fun ls hl => ?_)
          refine lv_aload_n hxe hcd dX10_mixedSample_84 rfl (lv_at hl 1 rfl) ?_
          refine lv_iload_n hxe hcd dX10_mixedSample_85 rfl (lv_at hl 3 rfl) ?_
          refine lv_iload_n hxe hcd dX10_mixedSample_86 rfl (lv_at hl 4 rfl) ?_
          refine r_calli0 (r_runV hZ S hW (As := [.int (nI q2), .int (nI i)]) (rest := []) (t_X10_isSample l hZ B (up1 (up1 (up1 ν 0 (upd (ν 0) 0 (nI 0))) 6 o70) 7 g70) H.size (q := q2) (n := ln q2) (by assumption) ((hln _ (by assumption)).1) (hln _ (by assumption)).2 (nI i)) k_X10_118 (r_recv hW (x := 0) (List.mem_range.mpr (by decide)) rfl rfl) (hl.1) rfl rfl (Nat.le_of_ble_eq_true rfl) ⟨Nat.le_of_ble_eq_true rfl, Nat.le_of_ble_eq_true rfl⟩ ⟨Nat.le_of_ble_eq_true rfl, Nat.le_of_ble_eq_true rfl⟩ dX10_mixedSample_87) hW (fun r87 H locs hp87 hW => ?_)
          rcases hp87 with ⟨hp870, hp87⟩ | ⟨hp870, hp87⟩
          · subst hp870
            refine lv_if_eq (tgt := 109) hxe hcd dX10_mixedSample_90 (by decide) (fun h => absurd h (by decide)) (fun _ => ?_)
            refine lv_aload_n hxe hcd dX10_mixedSample_93 rfl (lv_at hl 1 rfl) ?_
            refine lv_iload_n hxe hcd dX10_mixedSample_94 rfl (lv_at hl 3 rfl) ?_
            refine r_callv (F := (mE Z B)) (r_runV hZ S hW (As := [.int (nI q2)]) (rest := []) (t_X10_filters l hZ B (up1 (up1 (up1 ν 0 (upd (ν 0) 0 (nI 0))) 6 o70) 7 g70) H.size (q := q2) (n := ln q2) (by assumption) (hln q2 (by assumption)).1 (hln q2 (by assumption)).2 hnf hnf8 ps hps) k_X10_130 (r_recv hW (x := 0) (List.mem_range.mpr (by decide)) rfl rfl) (hl.1) rfl rfl (Nat.le_of_ble_eq_true rfl) ⟨Nat.le_of_ble_eq_true rfl, Nat.le_of_ble_eq_true rfl⟩ ⟨Nat.le_of_ble_eq_true rfl, Nat.le_of_ble_eq_true rfl⟩ dX10_mixedSample_95) hW (fun u95 H locs hp95 hW => ?_)
            obtain ⟨o95, g95, hm95, hO95⟩ := hp95
            subst hm95
            have hO95 : ∀ j, j < ln q2 → o95 j = (flV (ν 1) q2 nf) j := hO95
            refine lv_iload hxe hcd dX10_mixedSample_98 (lv_at hl 0 rfl) ?_
            refine lv_aload_n hxe hcd dX10_mixedSample_100 rfl (lv_at hl 1 rfl) ?_
            refine gf_X10_32 S hW dX10_mixedSample_101 ?_
            refine lv_iload_n hxe hcd dX10_mixedSample_104 rfl (lv_at hl 4 rfl) ?_
            refine gm_ald S hW (i := 6) (k := i) (n := 160) (by decide) (by decide) rfl (by omega) dX10_mixedSample_105 ?_
            refine r_as (y := (flV (ν 1) q2 nf i)) (by rw [up1_o (j := 6) (i := 7) (by decide), up1_s]; exact hO95 i (by have h2 := (IX_nI (by omega) (by omega)).mp hp87; omega)) ?_
            refine lv_iadd hxe hcd dX10_mixedSample_106 ?_
            refine lv_istore (lv' := [(4, .int (((nI 0) + (flV (ν 1) q1 nf i)) + (flV (ν 1) q2 nf i))), (0, .ref (B 0)), (1, .int (nI q1)), (2, .int (nI q2)), (3, .int (nI i))]) hxe hcd dX10_mixedSample_107 hl (by decide) rfl (fun ls hl => ?_)
            refine lv_iload hxe hcd dX10_mixedSample_109 (lv_at hl 0 rfl) ?_
            refine lv_iconst (v := (nI 2)) hxe hcd dX10_mixedSample_111 (by decide) ?_
            refine lv_idiv hxe hcd dX10_mixedSample_112 (by decide) ?_
            refine r_iret S hr hlk (F := (mE Z B)) (u := (up1 (up1 (up1 (up1 (up1 ν 0 (upd (ν 0) 0 (nI 0))) 6 o70) 7 g70) 6 o95) 7 g95)) hW ?_ dX10_mixedSample_113
            have h2 := (IX_nI (by omega) (by omega)).mp hp87
            refine Or.inr (Or.inr ⟨q1, q2, i, hq1, hq2, rfl, rfl, rfl, Or.inl hi, ?_, o95, g95, ?_⟩)
            · rw [if_pos hi, if_pos h2, nI_0, Int32.zero_add]
            · rw [up67]
          · subst hp870
            refine lv_if_eq (tgt := 109) hxe hcd dX10_mixedSample_90 (by decide) (fun _ => ?_) (fun h => absurd (by decide) h)
            refine lv_iload hxe hcd dX10_mixedSample_109 (lv_at hl 0 rfl) ?_
            refine lv_iconst (v := (nI 2)) hxe hcd dX10_mixedSample_111 (by decide) ?_
            refine lv_idiv hxe hcd dX10_mixedSample_112 (by decide) ?_
            refine r_iret S hr hlk (F := (mE Z B)) (u := (up1 (up1 (up1 ν 0 (upd (ν 0) 0 (nI 0))) 6 o70) 7 g70)) hW ?_ dX10_mixedSample_113
            have h2 : ¬ i < ln q2 := fun h => hp87 ((IX_nI (by omega) (by omega)).mpr h)
            refine Or.inr (Or.inr ⟨q1, q2, i, hq1, hq2, rfl, rfl, rfl, Or.inl hi, ?_, o70, g70, rfl⟩)
            rw [if_pos hi, if_neg h2, nI_0, Int32.zero_add, Int32.add_zero]
        · exact absurd ⟨i, hi, rfl⟩ hp62
      · subst hp240
        refine lv_if_ne (tgt := 39) hxe hcd dX10_mixedSample_27 (by decide) (fun h => absurd h (by decide)) (fun _ => ?_)
        refine lv_aload_n hxe hcd dX10_mixedSample_30 rfl (lv_at hl 0 rfl) ?_
        refine lv_iload_n hxe hcd dX10_mixedSample_31 rfl (lv_at hl 2 rfl) ?_
        refine lv_iload_n hxe hcd dX10_mixedSample_32 rfl (lv_at hl 3 rfl) ?_
        refine r_calli0 (r_runV hZ S hW (As := [.int (nI q2), .int z]) (rest := [.ref (B 0)]) (t_X10_isSample l hZ B ν H.size (q := q2) (n := ln q2) (by assumption) ((hln _ (by assumption)).1) (hln _ (by assumption)).2 z) k_X10_118 (r_recv hW (x := 0) (List.mem_range.mpr (by decide)) rfl rfl) (hl.1) rfl rfl (Nat.le_of_ble_eq_true rfl) ⟨Nat.le_of_ble_eq_true rfl, Nat.le_of_ble_eq_true rfl⟩ ⟨Nat.le_of_ble_eq_true rfl, Nat.le_of_ble_eq_true rfl⟩ dX10_mixedSample_33) hW (fun r33 H locs hp33 hW => ?_)
        rcases hp33 with ⟨hp330, hp33⟩ | ⟨hp330, hp33⟩
        · subst hp330
          refine lv_if_eq (tgt := 43) hxe hcd dX10_mixedSample_36 (by decide) (fun h => absurd h (by decide)) (fun _ => ?_)
          refine lv_iconst (v := (nI 0)) hxe hcd dX10_mixedSample_39 (by decide) ?_
          refine lv_goto (tgt := 44) hxe hcd dX10_mixedSample_40 (by decide) ?_
          refine gp_X10_53 S hW dX10_mixedSample_44 (fun H locs hW => ?_)
          refine lv_aload_n hxe hcd dX10_mixedSample_47 rfl (lv_at hl 0 rfl) ?_
          refine gf_X10_53 S hW dX10_mixedSample_48 ?_
          refine r_as (y := (nI 0)) (by rw [up1_s, upd_s]) ?_
          refine lv_if_eq (tgt := 56) hxe hcd dX10_mixedSample_51 (by decide) (fun _ => ?_) (fun h => absurd (by decide) h)
          obtain ⟨i, hi, rfl⟩ := hp33
          have hlq1 := hln q1 hq1
          have hlq2 := hln q2 hq2
          refine lv_iconst (v := (nI 0)) hxe hcd dX10_mixedSample_56 (by decide) ?_
          refine lv_istore (lv' := [(4, .int (nI 0)), (0, .ref (B 0)), (1, .int (nI q1)), (2, .int (nI q2)), (3, .int (nI i))]) hxe hcd dX10_mixedSample_57 hl (by decide) rfl (fun ls hl => ?_)
          refine lv_aload_n hxe hcd dX10_mixedSample_59 rfl (lv_at hl 1 rfl) ?_
          refine lv_iload_n hxe hcd dX10_mixedSample_60 rfl (lv_at hl 2 rfl) ?_
          refine lv_iload_n hxe hcd dX10_mixedSample_61 rfl (lv_at hl 4 rfl) ?_
          refine r_calli0 (r_runV hZ S hW (As := [.int (nI q1), .int (nI i)]) (rest := []) (t_X10_isSample l hZ B (up1 ν 0 (upd (ν 0) 0 (nI 0))) H.size (q := q1) (n := ln q1) (by assumption) ((hln _ (by assumption)).1) (hln _ (by assumption)).2 (nI i)) k_X10_118 (r_recv hW (x := 0) (List.mem_range.mpr (by decide)) rfl rfl) (hl.1) rfl rfl (Nat.le_of_ble_eq_true rfl) ⟨Nat.le_of_ble_eq_true rfl, Nat.le_of_ble_eq_true rfl⟩ ⟨Nat.le_of_ble_eq_true rfl, Nat.le_of_ble_eq_true rfl⟩ dX10_mixedSample_62) hW (fun r62 H locs hp62 hW => ?_)
          rcases hp62 with ⟨hp620, hp62⟩ | ⟨hp620, hp62⟩
          · exact absurd hp62 hp24
          · subst hp620
            refine lv_if_eq (tgt := 84) hxe hcd dX10_mixedSample_65 (by decide) (fun _ => ?_) (fun h => absurd (by decide) h)
            refine lv_aload_n hxe hcd dX10_mixedSample_84 rfl (lv_at hl 1 rfl) ?_
            refine lv_iload_n hxe hcd dX10_mixedSample_85 rfl (lv_at hl 3 rfl) ?_
            refine lv_iload_n hxe hcd dX10_mixedSample_86 rfl (lv_at hl 4 rfl) ?_
            refine r_calli0 (r_runV hZ S hW (As := [.int (nI q2), .int (nI i)]) (rest := []) (t_X10_isSample l hZ B (up1 ν 0 (upd (ν 0) 0 (nI 0))) H.size (q := q2) (n := ln q2) (by assumption) ((hln _ (by assumption)).1) (hln _ (by assumption)).2 (nI i)) k_X10_118 (r_recv hW (x := 0) (List.mem_range.mpr (by decide)) rfl rfl) (hl.1) rfl rfl (Nat.le_of_ble_eq_true rfl) ⟨Nat.le_of_ble_eq_true rfl, Nat.le_of_ble_eq_true rfl⟩ ⟨Nat.le_of_ble_eq_true rfl, Nat.le_of_ble_eq_true rfl⟩ dX10_mixedSample_87) hW (fun r87 H locs hp87 hW => ?_)
            rcases hp87 with ⟨hp870, hp87⟩ | ⟨hp870, hp87⟩
            · subst hp870
              refine lv_if_eq (tgt := 109) hxe hcd dX10_mixedSample_90 (by decide) (fun h => absurd h (by decide)) (fun _ => ?_)
              refine lv_aload_n hxe hcd dX10_mixedSample_93 rfl (lv_at hl 1 rfl) ?_
              refine lv_iload_n hxe hcd dX10_mixedSample_94 rfl (lv_at hl 3 rfl) ?_
              refine r_callv (F := (mE Z B)) (r_runV hZ S hW (As := [.int (nI q2)]) (rest := []) (t_X10_filters l hZ B (up1 ν 0 (upd (ν 0) 0 (nI 0))) H.size (q := q2) (n := ln q2) (by assumption) (hln q2 (by assumption)).1 (hln q2 (by assumption)).2 hnf hnf8 ps hps) k_X10_130 (r_recv hW (x := 0) (List.mem_range.mpr (by decide)) rfl rfl) (hl.1) rfl rfl (Nat.le_of_ble_eq_true rfl) ⟨Nat.le_of_ble_eq_true rfl, Nat.le_of_ble_eq_true rfl⟩ ⟨Nat.le_of_ble_eq_true rfl, Nat.le_of_ble_eq_true rfl⟩ dX10_mixedSample_95) hW (fun u95 H locs hp95 hW => ?_)
              obtain ⟨o95, g95, hm95, hO95⟩ := hp95
              subst hm95
              have hO95 : ∀ j, j < ln q2 → o95 j = (flV (ν 1) q2 nf) j := hO95
              refine lv_iload hxe hcd dX10_mixedSample_98 (lv_at hl 0 rfl) ?_
              refine lv_aload_n hxe hcd dX10_mixedSample_100 rfl (lv_at hl 1 rfl) ?_
              refine gf_X10_32 S hW dX10_mixedSample_101 ?_
              refine lv_iload_n hxe hcd dX10_mixedSample_104 rfl (lv_at hl 4 rfl) ?_
              refine gm_ald S hW (i := 6) (k := i) (n := 160) (by decide) (by decide) rfl (by omega) dX10_mixedSample_105 ?_
              refine r_as (y := (flV (ν 1) q2 nf i)) (by rw [up1_o (j := 6) (i := 7) (by decide), up1_s]; exact hO95 i (by omega)) ?_
              refine lv_iadd hxe hcd dX10_mixedSample_106 ?_
              refine lv_istore (lv' := [(4, .int ((nI 0) + (flV (ν 1) q2 nf i))), (0, .ref (B 0)), (1, .int (nI q1)), (2, .int (nI q2)), (3, .int (nI i))]) hxe hcd dX10_mixedSample_107 hl (by decide) rfl (fun ls hl => ?_)
              refine lv_iload hxe hcd dX10_mixedSample_109 (lv_at hl 0 rfl) ?_
              refine lv_iconst (v := (nI 2)) hxe hcd dX10_mixedSample_111 (by decide) ?_
              refine lv_idiv hxe hcd dX10_mixedSample_112 (by decide) ?_
              refine r_iret S hr hlk (F := (mE Z B)) (u := (up1 (up1 (up1 ν 0 (upd (ν 0) 0 (nI 0))) 6 o95) 7 g95)) hW ?_ dX10_mixedSample_113
              have h1 : ¬ i < ln q1 := fun h => hp24 ((IX_nI (by omega) (by omega)).mpr h)
              refine Or.inr (Or.inr ⟨q1, q2, i, hq1, hq2, rfl, rfl, rfl, Or.inr hi, ?_, o95, g95, rfl⟩)
              rw [if_neg h1, if_pos hi, nI_0]
            · exact absurd ⟨i, hi, rfl⟩ hp87
        · subst hp330
          refine lv_if_eq (tgt := 43) hxe hcd dX10_mixedSample_36 (by decide) (fun _ => ?_) (fun h => absurd (by decide) h)
          refine lv_iconst (v := (nI 2)) hxe hcd dX10_mixedSample_43 (by decide) ?_
          refine gp_X10_53 S hW dX10_mixedSample_44 (fun H locs hW => ?_)
          refine lv_aload_n hxe hcd dX10_mixedSample_47 rfl (lv_at hl 0 rfl) ?_
          refine gf_X10_53 S hW dX10_mixedSample_48 ?_
          refine r_as (y := (nI 2)) (by rw [up1_s, upd_s]) ?_
          refine lv_if_eq (tgt := 56) hxe hcd dX10_mixedSample_51 (by decide) (fun h => absurd h (by decide)) (fun _ => ?_)
          refine lv_iconst (v := (nI 0)) hxe hcd dX10_mixedSample_54 (by decide) ?_
          refine r_iret S hr hlk (F := (mE Z B)) (u := (up1 ν 0 (upd (ν 0) 0 (nI 2)))) hW ?_ dX10_mixedSample_55
          exact Or.inr (Or.inl ⟨q1, q2, hq1, hq2, rfl, rfl, hp24, hp33, rfl, rfl⟩)
    · subst hp80
      refine lv_if_ne (tgt := 20) hxe hcd dX10_mixedSample_11 (by decide) (fun h => absurd h (by decide)) (fun _ => ?_)
      refine lv_aload_n hxe hcd dX10_mixedSample_14 rfl (lv_at hl 0 rfl) ?_
      refine lv_iconst (v := (nI 1)) hxe hcd dX10_mixedSample_15 (by decide) ?_
      refine r_calli (F := (mE Z B)) (r_runV hZ S hW (As := [.int (nI 1)]) (rest := []) (t_X10_fail l hZ B ν H.size (nI 1)) k_X10_71 (r_recv hW (x := 0) (List.mem_range.mpr (by decide)) rfl rfl) (hl.1) rfl rfl (Nat.le_of_ble_eq_true rfl) ⟨Nat.le_of_ble_eq_true rfl, Nat.le_of_ble_eq_true rfl⟩ ⟨Nat.le_of_ble_eq_true rfl, Nat.le_of_ble_eq_true rfl⟩ dX10_mixedSample_16) hW (fun r16 u16 H locs hp16 hW => ?_)
      obtain ⟨hp16, hp16m⟩ := hp16
      have hp16 := hp16.symm
      subst hp16
      have hp16m := hp16m.symm
      subst hp16m
      refine r_iret S hr hlk (F := (mE Z B)) (u := (up1 ν 0 (upd (ν 0) 0 (nI 1)))) hW ?_ dX10_mixedSample_19
      exact Or.inl ⟨fun h => hp8 h.2, rfl, rfl⟩
  · subst hp10
    refine lv_if_eq (tgt := 14) hxe hcd dX10_mixedSample_4 (by decide) (fun _ => ?_) (fun h => absurd (by decide) h)
    refine lv_aload_n hxe hcd dX10_mixedSample_14 rfl (lv_at hl 0 rfl) ?_
    refine lv_iconst (v := (nI 1)) hxe hcd dX10_mixedSample_15 (by decide) ?_
    refine r_calli (F := (mE Z B)) (r_runV hZ S hW (As := [.int (nI 1)]) (rest := []) (t_X10_fail l hZ B ν H.size (nI 1)) k_X10_71 (r_recv hW (x := 0) (List.mem_range.mpr (by decide)) rfl rfl) (hl.1) rfl rfl (Nat.le_of_ble_eq_true rfl) ⟨Nat.le_of_ble_eq_true rfl, Nat.le_of_ble_eq_true rfl⟩ ⟨Nat.le_of_ble_eq_true rfl, Nat.le_of_ble_eq_true rfl⟩ dX10_mixedSample_16) hW (fun r16 u16 H locs hp16 hW => ?_)
    obtain ⟨hp16, hp16m⟩ := hp16
    have hp16 := hp16.symm
    subst hp16
    have hp16m := hp16m.symm
    subst hp16m
    refine r_iret S hr hlk (F := (mE Z B)) (u := (up1 ν 0 (upd (ν 0) 0 (nI 1)))) hW ?_ dX10_mixedSample_19
    exact Or.inl ⟨fun h => hp1 h.1, rfl, rfl⟩
set_option maxHeartbeats 4000000 in
set_option maxRecDepth 100000 in
theorem t_X10_peak (l : Launch) {Z : ZT} (hZ : zOK Z) (B : Nat → Nat) (ν : MM) (sz : Nat) (ln : Nat → Nat) (hln : ∀ q, q < 4 → ν 1 (25 + q) = nI (ln q) ∧ ln q ≤ 160) {nf : Nat} (hnf : ν 1 0 = nI nf) (hnf8 : nf ≤ 8) (ps : Nat → Nat) (hps : ∀ f, f < nf → ν 1 (13 + f) = nI (ps f) ∧ ps f ≤ 999 ∧ KP (ν 1 (5 + f)) (nI (ps f))) (x : Int32) : XMi l yX10_peak cX10_peak 2 (some .int) 4 [.ref (B 0), .int x] Z mds B (mE Z B) ν sz (fun r u => (¬ IX x 4 ∧ r = nI 0 ∧ u = up1 ν 0 (upd (ν 0) 0 (nI 1))) ∨ (∃ q, q < 4 ∧ x = nI q ∧ ln q = 0 ∧ r = nI 0 ∧ u = up1 ν 0 (upd (ν 0) 0 (nI 2))) ∨ (∃ q, q < 4 ∧ x = nI q ∧ 0 < ln q ∧ r = maxR (fun k => iabs ((flV (ν 1) q nf) k)) (ln q) ∧ ∃ o2 g2 : Nat → Int32, u = up1 (up1 (up1 ν 0 (upd (ν 0) 0 (nI 0))) 6 o2) 7 g2)) := by
  refine r_met (E := (mE Z B ν)) (by decide +kernel) (Nat.le_of_ble_eq_true rfl) ?_
  intro p e s m below meth c ls S hr hlk hnm hsz hW hl
  have hxe := S.1
  have hcd := S.2.1
  subst hsz
  have hl : lv_has ls 2 [(0, .ref (B 0)), (1, .int x)] := hl
  refine lv_aload_n hxe hcd dX10_peak_0 rfl (lv_at hl 0 rfl) ?_
  refine lv_iload_n hxe hcd dX10_peak_1 rfl (lv_at hl 1 rfl) ?_
  refine r_calli0 (r_runS hZ S hW (As := [.int x]) (rest := [.ref (B 0)]) (t_X10_isSong l hZ mds B (mE Z B ν) s.heap.size x) k_X10_105 (hl.1) rfl rfl (Nat.le_of_ble_eq_true rfl) ⟨Nat.le_of_ble_eq_true rfl, Nat.le_of_ble_eq_true rfl⟩ ⟨Nat.le_of_ble_eq_true rfl, Nat.le_of_ble_eq_true rfl⟩ dX10_peak_2) hW (fun r2 H locs hp2 hW => ?_)
  rcases hp2 with ⟨hp20, hp2⟩ | ⟨hp20, hp2⟩
  · subst hp20
    refine lv_if_ne (tgt := 12) hxe hcd dX10_peak_5 (by decide) (fun _ => ?_) (fun h => absurd h (by decide))
    obtain ⟨q, hq, rfl⟩ := hp2
    have hlq := hln q hq
    refine lv_aload_n hxe hcd dX10_peak_12 rfl (lv_at hl 0 rfl) ?_
    refine gf_X10_16 S hW dX10_peak_13 ?_
    refine lv_bipush (v := (nI 25)) hxe hcd dX10_peak_16 (by decide) ?_
    refine lv_iload_n hxe hcd dX10_peak_18 rfl (lv_at hl 1 rfl) ?_
    refine n_iadd S (a := 25) (b := q) dX10_peak_19 ?_
    refine gm_ald S hW (i := 1) (k := (25 + q)) (n := 1357) (by decide) (by decide) rfl (by omega) dX10_peak_20 ?_
    refine r_as (y := (nI (ln q))) (hlq.1) ?_
    refine n_ifne S (a := (ln q)) (by omega) dX10_peak_21 (tgt := 28) (by decide) (fun c21 => ?_) (fun c21 => ?_)
    · refine lv_iconst (v := (nI 0)) hxe hcd dX10_peak_28 (by decide) ?_
      refine gp_X10_53 S hW dX10_peak_29 (fun H locs hW => ?_)
      refine lv_aload_n hxe hcd dX10_peak_32 rfl (lv_at hl 0 rfl) ?_
      refine gf_X10_53 S hW dX10_peak_33 ?_
      refine r_as (y := (nI 0)) (by rw [up1_s, upd_s]) ?_
      refine lv_if_eq (tgt := 41) hxe hcd dX10_peak_36 (by decide) (fun _ => ?_) (fun h => absurd (by decide) h)
      refine lv_aload_n hxe hcd dX10_peak_41 rfl (lv_at hl 0 rfl) ?_
      refine lv_iload_n hxe hcd dX10_peak_42 rfl (lv_at hl 1 rfl) ?_
      refine r_callv (F := (mE Z B)) (r_runV hZ S hW (As := [.int (nI q)]) (rest := []) (t_X10_filters l hZ B (up1 ν 0 (upd (ν 0) 0 (nI 0))) H.size (q := q) (n := ln q) (by assumption) (hln q (by assumption)).1 (hln q (by assumption)).2 hnf hnf8 ps hps) k_X10_130 (r_recv hW (x := 0) (List.mem_range.mpr (by decide)) rfl rfl) (hl.1) rfl rfl (Nat.le_of_ble_eq_true rfl) ⟨Nat.le_of_ble_eq_true rfl, Nat.le_of_ble_eq_true rfl⟩ ⟨Nat.le_of_ble_eq_true rfl, Nat.le_of_ble_eq_true rfl⟩ dX10_peak_43) hW (fun u43 H locs hp43 hW => ?_)
      obtain ⟨o43, g43, hm43, hO43⟩ := hp43
      subst hm43
      have hO43 : ∀ j, j < ln q → o43 j = (flV (ν 1) q nf) j := hO43
      refine lv_aload_n hxe hcd dX10_peak_46 rfl (lv_at hl 0 rfl) ?_
      refine lv_iconst (v := (nI 0)) hxe hcd dX10_peak_47 (by decide) ?_
      refine lv_aload_n hxe hcd dX10_peak_48 rfl (lv_at hl 0 rfl) ?_
      refine gf_X10_16 S hW dX10_peak_49 ?_
      refine lv_bipush (v := (nI 25)) hxe hcd dX10_peak_52 (by decide) ?_
      refine lv_iload_n hxe hcd dX10_peak_54 rfl (lv_at hl 1 rfl) ?_
      refine n_iadd S (a := 25) (b := q) dX10_peak_55 ?_
      refine gm_ald S hW (i := 1) (k := (25 + q)) (n := 1357) (by decide) (by decide) rfl (by omega) dX10_peak_56 ?_
      refine r_as (y := (nI (ln q))) (hlq.1) ?_
      refine r_calli0 (r_runV hZ S hW (As := [.int (nI 0), .int (nI (ln q))]) (rest := []) (t_X10_loud l hZ B (up1 (up1 (up1 ν 0 (upd (ν 0) 0 (nI 0))) 6 o43) 7 g43) H.size (a := 0) (b0 := (ln q)) (by omega) (by omega)) k_X10_137 (r_recv hW (x := 0) (List.mem_range.mpr (by decide)) rfl rfl) (hl.1) rfl rfl (Nat.le_of_ble_eq_true rfl) ⟨Nat.le_of_ble_eq_true rfl, Nat.le_of_ble_eq_true rfl⟩ ⟨Nat.le_of_ble_eq_true rfl, Nat.le_of_ble_eq_true rfl⟩ dX10_peak_57) hW (fun r57 H locs hp57 hW => ?_)
      have hp57 := hp57.symm
      subst hp57
      refine r_as (y := (maxR (fun k => iabs ((flV (ν 1) q nf) k)) (ln q))) (by rw [Nat.sub_zero]; exact maxR_congr (fun j hj => by rw [up1_o (j := 6) (i := 7) (by decide), up1_s, Nat.zero_add, hO43 j (by omega)])) ?_
      refine r_iret S hr hlk (F := (mE Z B)) (u := (up1 (up1 (up1 ν 0 (upd (ν 0) 0 (nI 0))) 6 o43) 7 g43)) hW ?_ dX10_peak_60
      exact Or.inr (Or.inr ⟨q, hq, rfl, by omega, rfl, o43, g43, rfl⟩)
    · refine lv_iconst (v := (nI 2)) hxe hcd dX10_peak_24 (by decide) ?_
      refine lv_goto (tgt := 29) hxe hcd dX10_peak_25 (by decide) ?_
      refine gp_X10_53 S hW dX10_peak_29 (fun H locs hW => ?_)
      refine lv_aload_n hxe hcd dX10_peak_32 rfl (lv_at hl 0 rfl) ?_
      refine gf_X10_53 S hW dX10_peak_33 ?_
      refine r_as (y := (nI 2)) (by rw [up1_s, upd_s]) ?_
      refine lv_if_eq (tgt := 41) hxe hcd dX10_peak_36 (by decide) (fun h => absurd h (by decide)) (fun _ => ?_)
      refine lv_iconst (v := (nI 0)) hxe hcd dX10_peak_39 (by decide) ?_
      refine r_iret S hr hlk (F := (mE Z B)) (u := (up1 ν 0 (upd (ν 0) 0 (nI 2)))) hW ?_ dX10_peak_40
      exact Or.inr (Or.inl ⟨q, hq, rfl, c21, rfl, rfl⟩)
  · subst hp20
    refine lv_if_ne (tgt := 12) hxe hcd dX10_peak_5 (by decide) (fun h => absurd h (by decide)) (fun _ => ?_)
    refine lv_iconst (v := (nI 1)) hxe hcd dX10_peak_8 (by decide) ?_
    refine lv_goto (tgt := 29) hxe hcd dX10_peak_9 (by decide) ?_
    refine gp_X10_53 S hW dX10_peak_29 (fun H locs hW => ?_)
    refine lv_aload_n hxe hcd dX10_peak_32 rfl (lv_at hl 0 rfl) ?_
    refine gf_X10_53 S hW dX10_peak_33 ?_
    refine r_as (y := (nI 1)) (by rw [up1_s, upd_s]) ?_
    refine lv_if_eq (tgt := 41) hxe hcd dX10_peak_36 (by decide) (fun h => absurd h (by decide)) (fun _ => ?_)
    refine lv_iconst (v := (nI 0)) hxe hcd dX10_peak_39 (by decide) ?_
    refine r_iret S hr hlk (F := (mE Z B)) (u := (up1 ν 0 (upd (ν 0) 0 (nI 1)))) hW ?_ dX10_peak_40
    exact Or.inl ⟨hp2, rfl, rfl⟩
set_option maxHeartbeats 4000000 in
set_option maxRecDepth 100000 in
theorem t_X10_energy (l : Launch) {Z : ZT} (hZ : zOK Z) (B : Nat → Nat) (ν : MM) (sz : Nat) (ln : Nat → Nat) (hln : ∀ q, q < 4 → ν 1 (25 + q) = nI (ln q) ∧ ln q ≤ 160) {nf : Nat} (hnf : ν 1 0 = nI nf) (hnf8 : nf ≤ 8) (ps : Nat → Nat) (hps : ∀ f, f < nf → ν 1 (13 + f) = nI (ps f) ∧ ps f ≤ 999 ∧ KP (ν 1 (5 + f)) (nI (ps f))) (x : Int32) : XMl l yX10_energy cX10_energy 2 (some .long) 4 [.ref (B 0), .int x] Z mds B (mE Z B) ν sz (fun r u => (¬ IX x 4 ∧ r = 0 ∧ u = up1 ν 0 (upd (ν 0) 0 (nI 1))) ∨ (∃ q, q < 4 ∧ x = nI q ∧ r = sqS (flV (ν 1) q nf) (ln q) ∧ ∃ o2 g2 : Nat → Int32, u = up1 (up1 (up1 ν 0 (upd (ν 0) 0 (nI 0))) 6 o2) 7 g2)) := by
  refine r_met (E := (mE Z B ν)) (by decide +kernel) (Nat.le_of_ble_eq_true rfl) ?_
  intro p e s m below meth c ls S hr hlk hnm hsz hW hl
  have hxe := S.1
  have hcd := S.2.1
  subst hsz
  have hl : lv_has ls 2 [(0, .ref (B 0)), (1, .int x)] := hl
  refine lv_aload_n hxe hcd dX10_energy_0 rfl (lv_at hl 0 rfl) ?_
  refine lv_iload_n hxe hcd dX10_energy_1 rfl (lv_at hl 1 rfl) ?_
  refine r_calli0 (r_runS hZ S hW (As := [.int x]) (rest := [.ref (B 0)]) (t_X10_isSong l hZ mds B (mE Z B ν) s.heap.size x) k_X10_105 (hl.1) rfl rfl (Nat.le_of_ble_eq_true rfl) ⟨Nat.le_of_ble_eq_true rfl, Nat.le_of_ble_eq_true rfl⟩ ⟨Nat.le_of_ble_eq_true rfl, Nat.le_of_ble_eq_true rfl⟩ dX10_energy_2) hW (fun r2 H locs hp2 hW => ?_)
  rcases hp2 with ⟨hp20, hp2⟩ | ⟨hp20, hp2⟩
  · subst hp20
    refine lv_if_eq (tgt := 12) hxe hcd dX10_energy_5 (by decide) (fun h => absurd h (by decide)) (fun _ => ?_)
    refine lv_iconst (v := (nI 0)) hxe hcd dX10_energy_8 (by decide) ?_
    refine lv_goto (tgt := 13) hxe hcd dX10_energy_9 (by decide) ?_
    refine gp_X10_53 S hW dX10_energy_13 (fun H locs hW => ?_)
    refine lv_aload_n hxe hcd dX10_energy_16 rfl (lv_at hl 0 rfl) ?_
    refine gf_X10_53 S hW dX10_energy_17 ?_
    refine r_as (y := (nI 0)) (by rw [up1_s, upd_s]) ?_
    refine lv_if_ne (tgt := 31) hxe hcd dX10_energy_20 (by decide) (fun h => absurd h (by decide)) (fun _ => ?_)
    obtain ⟨q, hq, rfl⟩ := hp2
    have hlq := hln q hq
    refine lv_aload_n hxe hcd dX10_energy_23 rfl (lv_at hl 0 rfl) ?_
    refine lv_iload_n hxe hcd dX10_energy_24 rfl (lv_at hl 1 rfl) ?_
    refine r_calll (F := (mE Z B)) (r_runV hZ S hW (As := [.int (nI q)]) (rest := []) (t_X10_power l hZ B (up1 ν 0 (upd (ν 0) 0 (nI 0))) H.size (q := q) (n := ln q) (by assumption) (hln q (by assumption)).1 (hln q (by assumption)).2 hnf hnf8 ps hps) k_X10_140 (r_recv hW (x := 0) (List.mem_range.mpr (by decide)) rfl rfl) (hl.1) rfl rfl (Nat.le_of_ble_eq_true rfl) ⟨Nat.le_of_ble_eq_true rfl, Nat.le_of_ble_eq_true rfl⟩ ⟨Nat.le_of_ble_eq_true rfl, Nat.le_of_ble_eq_true rfl⟩ dX10_energy_25) hW (fun r25 u25 H locs hp25 hW => ?_)
    obtain ⟨hr25, o25, g25, hm25⟩ := hp25
    subst hm25
    have hr25 : r25 = sqS (flV (ν 1) q nf) (ln q) := hr25
    subst hr25
    refine lv_goto (tgt := 32) hxe hcd dX10_energy_28 (by decide) ?_
    refine r_lret S hr hlk (F := (mE Z B)) (u := (up1 (up1 (up1 ν 0 (upd (ν 0) 0 (nI 0))) 6 o25) 7 g25)) hW ?_ dX10_energy_32
    exact Or.inr ⟨q, hq, rfl, rfl, o25, g25, rfl⟩
  · subst hp20
    refine lv_if_eq (tgt := 12) hxe hcd dX10_energy_5 (by decide) (fun _ => ?_) (fun h => absurd (by decide) h)
    refine lv_iconst (v := (nI 1)) hxe hcd dX10_energy_12 (by decide) ?_
    refine gp_X10_53 S hW dX10_energy_13 (fun H locs hW => ?_)
    refine lv_aload_n hxe hcd dX10_energy_16 rfl (lv_at hl 0 rfl) ?_
    refine gf_X10_53 S hW dX10_energy_17 ?_
    refine r_as (y := (nI 1)) (by rw [up1_s, upd_s]) ?_
    refine lv_if_ne (tgt := 31) hxe hcd dX10_energy_20 (by decide) (fun _ => ?_) (fun h => absurd h (by decide))
    refine lv_lconst (v := 0) hxe hcd dX10_energy_31 (by decide) ?_
    refine r_lret S hr hlk (F := (mE Z B)) (u := (up1 ν 0 (upd (ν 0) 0 (nI 1)))) hW ?_ dX10_energy_32
    exact Or.inl ⟨hp2, rfl, rfl⟩
set_option maxHeartbeats 4000000 in
set_option maxRecDepth 100000 in
theorem t_X10_signChanges (l : Launch) {Z : ZT} (hZ : zOK Z) (B : Nat → Nat) (ν : MM) (sz : Nat) (ln : Nat → Nat) (hln : ∀ q, q < 4 → ν 1 (25 + q) = nI (ln q) ∧ ln q ≤ 160) {nf : Nat} (hnf : ν 1 0 = nI nf) (hnf8 : nf ≤ 8) (ps : Nat → Nat) (hps : ∀ f, f < nf → ν 1 (13 + f) = nI (ps f) ∧ ps f ≤ 999 ∧ KP (ν 1 (5 + f)) (nI (ps f))) (x : Int32) : XMi l yX10_signChanges cX10_signChanges 5 (some .int) 4 [.ref (B 0), .int x] Z mds B (mE Z B) ν sz (fun r u => (¬ IX x 4 ∧ r = nI 0 ∧ u = up1 ν 0 (upd (ν 0) 0 (nI 1))) ∨ (∃ q, q < 4 ∧ x = nI q ∧ r = nI (chgN (flV (ν 1) q nf) (ln q)) ∧ ∃ o2 g2 : Nat → Int32, u = up1 (up1 (up1 ν 0 (upd (ν 0) 0 (nI 0))) 6 o2) 7 g2)) := by
  refine r_met (E := (mE Z B ν)) (by decide +kernel) (Nat.le_of_ble_eq_true rfl) ?_
  intro p e s m below meth c ls S hr hlk hnm hsz hW hl
  have hxe := S.1
  have hcd := S.2.1
  subst hsz
  have hl : lv_has ls 5 [(0, .ref (B 0)), (1, .int x)] := hl
  refine lv_aload_n hxe hcd dX10_signChanges_0 rfl (lv_at hl 0 rfl) ?_
  refine lv_iload_n hxe hcd dX10_signChanges_1 rfl (lv_at hl 1 rfl) ?_
  refine r_calli0 (r_runS hZ S hW (As := [.int x]) (rest := [.ref (B 0)]) (t_X10_isSong l hZ mds B (mE Z B ν) s.heap.size x) k_X10_105 (hl.1) rfl rfl (Nat.le_of_ble_eq_true rfl) ⟨Nat.le_of_ble_eq_true rfl, Nat.le_of_ble_eq_true rfl⟩ ⟨Nat.le_of_ble_eq_true rfl, Nat.le_of_ble_eq_true rfl⟩ dX10_signChanges_2) hW (fun r2 H locs hp2 hW => ?_)
  rcases hp2 with ⟨hp20, hp2⟩ | ⟨hp20, hp2⟩
  · subst hp20
    refine lv_if_eq (tgt := 12) hxe hcd dX10_signChanges_5 (by decide) (fun h => absurd h (by decide)) (fun _ => ?_)
    refine lv_iconst (v := (nI 0)) hxe hcd dX10_signChanges_8 (by decide) ?_
    refine lv_goto (tgt := 13) hxe hcd dX10_signChanges_9 (by decide) ?_
    refine gp_X10_53 S hW dX10_signChanges_13 (fun H locs hW => ?_)
    refine lv_aload_n hxe hcd dX10_signChanges_16 rfl (lv_at hl 0 rfl) ?_
    refine gf_X10_53 S hW dX10_signChanges_17 ?_
    refine r_as (y := (nI 0)) (by rw [up1_s, upd_s]) ?_
    refine lv_if_eq (tgt := 25) hxe hcd dX10_signChanges_20 (by decide) (fun _ => ?_) (fun h => absurd (by decide) h)
    obtain ⟨q, hq, rfl⟩ := hp2
    have hlq := hln q hq
    refine lv_aload_n hxe hcd dX10_signChanges_25 rfl (lv_at hl 0 rfl) ?_
    refine lv_iload_n hxe hcd dX10_signChanges_26 rfl (lv_at hl 1 rfl) ?_
    refine r_callv (F := (mE Z B)) (r_runV hZ S hW (As := [.int (nI q)]) (rest := []) (t_X10_filters l hZ B (up1 ν 0 (upd (ν 0) 0 (nI 0))) H.size (q := q) (n := ln q) (by assumption) (hln q (by assumption)).1 (hln q (by assumption)).2 hnf hnf8 ps hps) k_X10_130 (r_recv hW (x := 0) (List.mem_range.mpr (by decide)) rfl rfl) (hl.1) rfl rfl (Nat.le_of_ble_eq_true rfl) ⟨Nat.le_of_ble_eq_true rfl, Nat.le_of_ble_eq_true rfl⟩ ⟨Nat.le_of_ble_eq_true rfl, Nat.le_of_ble_eq_true rfl⟩ dX10_signChanges_27) hW (fun u27 H locs hp27 hW => ?_)
    obtain ⟨o27, g27, hm27, hO27⟩ := hp27
    subst hm27
    have hO27 : ∀ j, j < ln q → o27 j = (flV (ν 1) q nf) j := hO27
    refine lv_iconst (v := (nI 0)) hxe hcd dX10_signChanges_30 (by decide) ?_
    refine lv_istore_n (lv' := [(2, .int (nI 0)), (0, .ref (B 0)), (1, .int (nI q))]) hxe hcd dX10_signChanges_31 rfl hl (by decide) rfl (fun ls hl => ?_)
    refine lv_iconst (v := (nI 0)) hxe hcd dX10_signChanges_32 (by decide) ?_
    refine lv_istore_n (lv' := [(3, .int (nI 0)), (2, .int (nI 0)), (0, .ref (B 0)), (1, .int (nI q))]) hxe hcd dX10_signChanges_33 rfl hl (by decide) rfl (fun ls hl => ?_)
    refine lv_iconst (v := (nI 0)) hxe hcd dX10_signChanges_34 (by decide) ?_
    refine lv_istore (lv' := [(4, .int (nI 0)), (3, .int (nI 0)), (2, .int (nI 0)), (0, .ref (B 0)), (1, .int (nI q))]) hxe hcd dX10_signChanges_35 hl (by decide) rfl (fun ls hl => ?_)
    have loop37 : ∀ (n_ : Nat) (i : Nat), ln q - i < n_ → (i ≤ ln q) → ∀ (H : Heap) (locs : List Loc) (ls : Array Slot), wX Z mds B (mE Z B (up1 (up1 (up1 ν 0 (upd (ν 0) 0 (nI 0))) 6 o27) 7 g27)) (fA mds B (mE Z B ν) s.heap.size) s H locs → lv_has ls 5 [(0, .ref (B 0)), (1, .int (nI q)), (2, .int (nI (chgN (flV (ν 1) q nf) i))), (3, .int (lastN (flV (ν 1) q nf) i)), (4, .int (nI i))] → W p l e (rmD 4 0 0) s m ([.ref (B 0), .int (nI q)] : List Value).toArray below meth c H locs 0 0 (MQ below (va_Qi (fun r u => (¬ IX (nI q) 4 ∧ r = nI 0 ∧ u = up1 ν 0 (upd (ν 0) 0 (nI 1))) ∨ (∃ q_z, q_z < 4 ∧ (nI q) = nI q_z ∧ r = nI (chgN (flV (ν 1) q_z nf) (ln q_z)) ∧ ∃ o2 g2 : Nat → Int32, u = up1 (up1 (up1 ν 0 (upd (ν 0) 0 (nI 0))) 6 o2) 7 g2)) (fun u t => qB Z mds B ((mE Z B) u) (fA mds B (mE Z B ν) s.heap.size) t) (fA mds B (mE Z B ν) s.heap.size)) ([.ref (B 0), .int (nI q)] : List Value).toArray s 0 0 (fA mds B (mE Z B ν) s.heap.size)) (F0 m 37 ls []) := by
      intro n_
      induction n_ with
      | zero => intro i hm; exact absurd hm (Nat.not_lt_zero _)
      | succ n_ ih37 =>
        intro i hm hi H locs ls hW hl
        refine lv_iload hxe hcd dX10_signChanges_37 (lv_at hl 4 rfl) ?_
        refine lv_aload_n hxe hcd dX10_signChanges_39 rfl (lv_at hl 0 rfl) ?_
        refine gf_X10_16 S hW dX10_signChanges_40 ?_
        refine lv_bipush (v := (nI 25)) hxe hcd dX10_signChanges_43 (by decide) ?_
        refine lv_iload_n hxe hcd dX10_signChanges_45 rfl (lv_at hl 1 rfl) ?_
        refine n_iadd S (a := 25) (b := q) dX10_signChanges_46 ?_
        refine gm_ald S hW (i := 1) (k := (25 + q)) (n := 1357) (by decide) (by decide) rfl (by omega) dX10_signChanges_47 ?_
        refine r_as (y := (nI (ln q))) (hlq.1) ?_
        refine n_ge S (a := i) (b := (ln q)) (by omega) (by omega) dX10_signChanges_48 (tgt := 117) (by decide) (fun c48 => ?_) (fun c48 => ?_)
        · refine lv_iload_n hxe hcd dX10_signChanges_117 rfl (lv_at hl 2 rfl) ?_
          refine r_iret S hr hlk (F := (mE Z B)) (u := (up1 (up1 (up1 ν 0 (upd (ν 0) 0 (nI 0))) 6 o27) 7 g27)) hW ?_ dX10_signChanges_118
          rw [show i = ln q by omega]
          exact Or.inr ⟨q, hq, rfl, rfl, o27, g27, rfl⟩
        · refine lv_aload_n hxe hcd dX10_signChanges_51 rfl (lv_at hl 0 rfl) ?_
          refine gf_X10_32 S hW dX10_signChanges_52 ?_
          refine lv_iload hxe hcd dX10_signChanges_55 (lv_at hl 4 rfl) ?_
          refine gm_ald S hW (i := 6) (k := i) (n := 160) (by decide) (by decide) rfl (by omega) dX10_signChanges_57 ?_
          refine r_as (y := (flV (ν 1) q nf i)) (by rw [up1_o (j := 6) (i := 7) (by decide), up1_s]; exact hO27 i (by omega)) ?_
          refine lv_if_ne (tgt := 64) hxe hcd dX10_signChanges_58 (by decide) (fun c58 => ?_) (fun c58 => ?_)
          · refine lv_iload_n hxe hcd dX10_signChanges_64 rfl (lv_at hl 2 rfl) ?_
            refine lv_iload_n hxe hcd dX10_signChanges_65 rfl (lv_at hl 3 rfl) ?_
            refine lv_if_eq (tgt := 100) hxe hcd dX10_signChanges_66 (by decide) (fun c66 => ?_) (fun c66 => ?_)
            · refine lv_iconst (v := (nI 0)) hxe hcd dX10_signChanges_100 (by decide) ?_
              refine n_iadd S (a := (chgN (flV (ν 1) q nf) i)) (b := 0) dX10_signChanges_101 ?_
              refine lv_istore_n (lv' := [(2, .int (nI ((chgN (flV (ν 1) q nf) i) + 0))), (0, .ref (B 0)), (1, .int (nI q)), (3, .int (lastN (flV (ν 1) q nf) i)), (4, .int (nI i))]) hxe hcd dX10_signChanges_102 rfl hl (by decide) rfl (fun ls hl => ?_)
              refine lv_aload_n hxe hcd dX10_signChanges_103 rfl (lv_at hl 1 rfl) ?_
              refine gf_X10_32 S hW dX10_signChanges_104 ?_
              refine lv_iload hxe hcd dX10_signChanges_107 (lv_at hl 4 rfl) ?_
              refine gm_ald S hW (i := 6) (k := i) (n := 160) (by decide) (by decide) rfl (by omega) dX10_signChanges_109 ?_
              refine r_as (y := (flV (ν 1) q nf i)) (by rw [up1_o (j := 6) (i := 7) (by decide), up1_s]; exact hO27 i (by omega)) ?_
              refine lv_istore_n (lv' := [(3, .int (flV (ν 1) q nf i)), (2, .int (nI ((chgN (flV (ν 1) q nf) i) + 0))), (0, .ref (B 0)), (1, .int (nI q)), (4, .int (nI i))]) hxe hcd dX10_signChanges_110 rfl hl (by decide) rfl (fun ls hl => ?_)
              refine lv_iinc (v := (nI (i + 1))) (lv' := [(4, .int (nI (i + 1))), (3, .int (flV (ν 1) q nf i)), (2, .int (nI ((chgN (flV (ν 1) q nf) i) + 0))), (0, .ref (B 0)), (1, .int (nI q))]) hxe hcd dX10_signChanges_111 hl (k := 4) rfl (nI_add i 1) (by decide) rfl (fun ls hl => ?_)
              refine lv_goto (tgt := 37) hxe hcd dX10_signChanges_114 (by decide) ?_
              have hl : lv_has ls 5 [(4, .int (nI (i + 1))), (3, .int (lastN (flV (ν 1) q nf) (i + 1))), (2, .int (nI (chgN (flV (ν 1) q nf) (i + 1)))), (0, .ref (B 0)), (1, .int (nI q))] := by
                rw [lastN, chgN, if_neg c58, if_neg c58, if_neg (fun h => h.1 c66)]
                exact lv_sub hl [0, 1, 2, 3, 4] rfl
              exact ih37 (i + 1) (by omega) (by omega) _ _ _ hW (lv_sub hl [3, 4, 2, 1, 0] rfl)
            · refine lv_iload_n hxe hcd dX10_signChanges_69 rfl (lv_at hl 3 rfl) ?_
              refine lv_if_ge (tgt := 77) hxe hcd dX10_signChanges_70 (by decide) (fun c70 => ?_) (fun c70 => ?_)
              · refine lv_iconst (v := (nI 0)) hxe hcd dX10_signChanges_77 (by decide) ?_
                refine lv_aload_n hxe hcd dX10_signChanges_78 rfl (lv_at hl 0 rfl) ?_
                refine gf_X10_32 S hW dX10_signChanges_79 ?_
                refine lv_iload hxe hcd dX10_signChanges_82 (lv_at hl 4 rfl) ?_
                refine gm_ald S hW (i := 6) (k := i) (n := 160) (by decide) (by decide) rfl (by omega) dX10_signChanges_84 ?_
                refine r_as (y := (flV (ν 1) q nf i)) (by rw [up1_o (j := 6) (i := 7) (by decide), up1_s]; exact hO27 i (by omega)) ?_
                refine lv_if_ge (tgt := 92) hxe hcd dX10_signChanges_85 (by decide) (fun c85 => ?_) (fun c85 => ?_)
                · refine lv_iconst (v := (nI 0)) hxe hcd dX10_signChanges_92 (by decide) ?_
                  refine lv_icmp_eq (tgt := 100) hxe hcd dX10_signChanges_93 (by decide) (fun _ => ?_) (fun h => absurd (by decide) h)
                  refine lv_iconst (v := (nI 0)) hxe hcd dX10_signChanges_100 (by decide) ?_
                  refine n_iadd S (a := (chgN (flV (ν 1) q nf) i)) (b := 0) dX10_signChanges_101 ?_
                  refine lv_istore_n (lv' := [(2, .int (nI ((chgN (flV (ν 1) q nf) i) + 0))), (0, .ref (B 0)), (1, .int (nI q)), (3, .int (lastN (flV (ν 1) q nf) i)), (4, .int (nI i))]) hxe hcd dX10_signChanges_102 rfl hl (by decide) rfl (fun ls hl => ?_)
                  refine lv_aload_n hxe hcd dX10_signChanges_103 rfl (lv_at hl 1 rfl) ?_
                  refine gf_X10_32 S hW dX10_signChanges_104 ?_
                  refine lv_iload hxe hcd dX10_signChanges_107 (lv_at hl 4 rfl) ?_
                  refine gm_ald S hW (i := 6) (k := i) (n := 160) (by decide) (by decide) rfl (by omega) dX10_signChanges_109 ?_
                  refine r_as (y := (flV (ν 1) q nf i)) (by rw [up1_o (j := 6) (i := 7) (by decide), up1_s]; exact hO27 i (by omega)) ?_
                  refine lv_istore_n (lv' := [(3, .int (flV (ν 1) q nf i)), (2, .int (nI ((chgN (flV (ν 1) q nf) i) + 0))), (0, .ref (B 0)), (1, .int (nI q)), (4, .int (nI i))]) hxe hcd dX10_signChanges_110 rfl hl (by decide) rfl (fun ls hl => ?_)
                  refine lv_iinc (v := (nI (i + 1))) (lv' := [(4, .int (nI (i + 1))), (3, .int (flV (ν 1) q nf i)), (2, .int (nI ((chgN (flV (ν 1) q nf) i) + 0))), (0, .ref (B 0)), (1, .int (nI q))]) hxe hcd dX10_signChanges_111 hl (k := 4) rfl (nI_add i 1) (by decide) rfl (fun ls hl => ?_)
                  refine lv_goto (tgt := 37) hxe hcd dX10_signChanges_114 (by decide) ?_
                  have hl : lv_has ls 5 [(4, .int (nI (i + 1))), (3, .int (lastN (flV (ν 1) q nf) (i + 1))), (2, .int (nI (chgN (flV (ν 1) q nf) (i + 1)))), (0, .ref (B 0)), (1, .int (nI q))] := by
                    rw [lastN, chgN, if_neg c58, if_neg c58, if_neg (fun h => h.2 ⟨fun z => absurd z (I_nlt.mpr c70), fun z => absurd z (I_nlt.mpr c85)⟩)]
                    exact lv_sub hl [0, 1, 2, 3, 4] rfl
                  exact ih37 (i + 1) (by omega) (by omega) _ _ _ hW (lv_sub hl [3, 4, 2, 1, 0] rfl)
                · refine lv_iconst (v := (nI 1)) hxe hcd dX10_signChanges_88 (by decide) ?_
                  refine lv_goto (tgt := 93) hxe hcd dX10_signChanges_89 (by decide) ?_
                  refine lv_icmp_eq (tgt := 100) hxe hcd dX10_signChanges_93 (by decide) (fun h => absurd h (by decide)) (fun _ => ?_)
                  refine lv_iconst (v := (nI 1)) hxe hcd dX10_signChanges_96 (by decide) ?_
                  refine lv_goto (tgt := 101) hxe hcd dX10_signChanges_97 (by decide) ?_
                  refine n_iadd S (a := (chgN (flV (ν 1) q nf) i)) (b := 1) dX10_signChanges_101 ?_
                  refine lv_istore_n (lv' := [(2, .int (nI ((chgN (flV (ν 1) q nf) i) + 1))), (0, .ref (B 0)), (1, .int (nI q)), (3, .int (lastN (flV (ν 1) q nf) i)), (4, .int (nI i))]) hxe hcd dX10_signChanges_102 rfl hl (by decide) rfl (fun ls hl => ?_)
                  refine lv_aload_n hxe hcd dX10_signChanges_103 rfl (lv_at hl 1 rfl) ?_
                  refine gf_X10_32 S hW dX10_signChanges_104 ?_
                  refine lv_iload hxe hcd dX10_signChanges_107 (lv_at hl 4 rfl) ?_
                  refine gm_ald S hW (i := 6) (k := i) (n := 160) (by decide) (by decide) rfl (by omega) dX10_signChanges_109 ?_
                  refine r_as (y := (flV (ν 1) q nf i)) (by rw [up1_o (j := 6) (i := 7) (by decide), up1_s]; exact hO27 i (by omega)) ?_
                  refine lv_istore_n (lv' := [(3, .int (flV (ν 1) q nf i)), (2, .int (nI ((chgN (flV (ν 1) q nf) i) + 1))), (0, .ref (B 0)), (1, .int (nI q)), (4, .int (nI i))]) hxe hcd dX10_signChanges_110 rfl hl (by decide) rfl (fun ls hl => ?_)
                  refine lv_iinc (v := (nI (i + 1))) (lv' := [(4, .int (nI (i + 1))), (3, .int (flV (ν 1) q nf i)), (2, .int (nI ((chgN (flV (ν 1) q nf) i) + 1))), (0, .ref (B 0)), (1, .int (nI q))]) hxe hcd dX10_signChanges_111 hl (k := 4) rfl (nI_add i 1) (by decide) rfl (fun ls hl => ?_)
                  refine lv_goto (tgt := 37) hxe hcd dX10_signChanges_114 (by decide) ?_
                  have hl : lv_has ls 5 [(4, .int (nI (i + 1))), (3, .int (lastN (flV (ν 1) q nf) (i + 1))), (2, .int (nI (chgN (flV (ν 1) q nf) (i + 1)))), (0, .ref (B 0)), (1, .int (nI q))] := by
                    rw [lastN, chgN, if_neg c58, if_neg c58, if_pos ⟨c66, fun h => (I_nlt.mpr c70) (h.mpr (I_nle.mp c85))⟩]
                    exact lv_sub hl [0, 1, 2, 3, 4] rfl
                  exact ih37 (i + 1) (by omega) (by omega) _ _ _ hW (lv_sub hl [3, 4, 2, 1, 0] rfl)
              · refine lv_iconst (v := (nI 1)) hxe hcd dX10_signChanges_73 (by decide) ?_
                refine lv_goto (tgt := 78) hxe hcd dX10_signChanges_74 (by decide) ?_
                refine lv_aload_n hxe hcd dX10_signChanges_78 rfl (lv_at hl 0 rfl) ?_
                refine gf_X10_32 S hW dX10_signChanges_79 ?_
                refine lv_iload hxe hcd dX10_signChanges_82 (lv_at hl 4 rfl) ?_
                refine gm_ald S hW (i := 6) (k := i) (n := 160) (by decide) (by decide) rfl (by omega) dX10_signChanges_84 ?_
                refine r_as (y := (flV (ν 1) q nf i)) (by rw [up1_o (j := 6) (i := 7) (by decide), up1_s]; exact hO27 i (by omega)) ?_
                refine lv_if_ge (tgt := 92) hxe hcd dX10_signChanges_85 (by decide) (fun c85 => ?_) (fun c85 => ?_)
                · refine lv_iconst (v := (nI 0)) hxe hcd dX10_signChanges_92 (by decide) ?_
                  refine lv_icmp_eq (tgt := 100) hxe hcd dX10_signChanges_93 (by decide) (fun h => absurd h (by decide)) (fun _ => ?_)
                  refine lv_iconst (v := (nI 1)) hxe hcd dX10_signChanges_96 (by decide) ?_
                  refine lv_goto (tgt := 101) hxe hcd dX10_signChanges_97 (by decide) ?_
                  refine n_iadd S (a := (chgN (flV (ν 1) q nf) i)) (b := 1) dX10_signChanges_101 ?_
                  refine lv_istore_n (lv' := [(2, .int (nI ((chgN (flV (ν 1) q nf) i) + 1))), (0, .ref (B 0)), (1, .int (nI q)), (3, .int (lastN (flV (ν 1) q nf) i)), (4, .int (nI i))]) hxe hcd dX10_signChanges_102 rfl hl (by decide) rfl (fun ls hl => ?_)
                  refine lv_aload_n hxe hcd dX10_signChanges_103 rfl (lv_at hl 1 rfl) ?_
                  refine gf_X10_32 S hW dX10_signChanges_104 ?_
                  refine lv_iload hxe hcd dX10_signChanges_107 (lv_at hl 4 rfl) ?_
                  refine gm_ald S hW (i := 6) (k := i) (n := 160) (by decide) (by decide) rfl (by omega) dX10_signChanges_109 ?_
                  refine r_as (y := (flV (ν 1) q nf i)) (by rw [up1_o (j := 6) (i := 7) (by decide), up1_s]; exact hO27 i (by omega)) ?_
                  refine lv_istore_n (lv' := [(3, .int (flV (ν 1) q nf i)), (2, .int (nI ((chgN (flV (ν 1) q nf) i) + 1))), (0, .ref (B 0)), (1, .int (nI q)), (4, .int (nI i))]) hxe hcd dX10_signChanges_110 rfl hl (by decide) rfl (fun ls hl => ?_)
                  refine lv_iinc (v := (nI (i + 1))) (lv' := [(4, .int (nI (i + 1))), (3, .int (flV (ν 1) q nf i)), (2, .int (nI ((chgN (flV (ν 1) q nf) i) + 1))), (0, .ref (B 0)), (1, .int (nI q))]) hxe hcd dX10_signChanges_111 hl (k := 4) rfl (nI_add i 1) (by decide) rfl (fun ls hl => ?_)
                  refine lv_goto (tgt := 37) hxe hcd dX10_signChanges_114 (by decide) ?_
                  have hl : lv_has ls 5 [(4, .int (nI (i + 1))), (3, .int (lastN (flV (ν 1) q nf) (i + 1))), (2, .int (nI (chgN (flV (ν 1) q nf) (i + 1)))), (0, .ref (B 0)), (1, .int (nI q))] := by
                    rw [lastN, chgN, if_neg c58, if_neg c58, if_pos ⟨c66, fun h => (I_nlt.mpr c85) (h.mp (I_nle.mp c70))⟩]
                    exact lv_sub hl [0, 1, 2, 3, 4] rfl
                  exact ih37 (i + 1) (by omega) (by omega) _ _ _ hW (lv_sub hl [3, 4, 2, 1, 0] rfl)
                · refine lv_iconst (v := (nI 1)) hxe hcd dX10_signChanges_88 (by decide) ?_
                  refine lv_goto (tgt := 93) hxe hcd dX10_signChanges_89 (by decide) ?_
                  refine lv_icmp_eq (tgt := 100) hxe hcd dX10_signChanges_93 (by decide) (fun _ => ?_) (fun h => absurd (by decide) h)
                  refine lv_iconst (v := (nI 0)) hxe hcd dX10_signChanges_100 (by decide) ?_
                  refine n_iadd S (a := (chgN (flV (ν 1) q nf) i)) (b := 0) dX10_signChanges_101 ?_
                  refine lv_istore_n (lv' := [(2, .int (nI ((chgN (flV (ν 1) q nf) i) + 0))), (0, .ref (B 0)), (1, .int (nI q)), (3, .int (lastN (flV (ν 1) q nf) i)), (4, .int (nI i))]) hxe hcd dX10_signChanges_102 rfl hl (by decide) rfl (fun ls hl => ?_)
                  refine lv_aload_n hxe hcd dX10_signChanges_103 rfl (lv_at hl 1 rfl) ?_
                  refine gf_X10_32 S hW dX10_signChanges_104 ?_
                  refine lv_iload hxe hcd dX10_signChanges_107 (lv_at hl 4 rfl) ?_
                  refine gm_ald S hW (i := 6) (k := i) (n := 160) (by decide) (by decide) rfl (by omega) dX10_signChanges_109 ?_
                  refine r_as (y := (flV (ν 1) q nf i)) (by rw [up1_o (j := 6) (i := 7) (by decide), up1_s]; exact hO27 i (by omega)) ?_
                  refine lv_istore_n (lv' := [(3, .int (flV (ν 1) q nf i)), (2, .int (nI ((chgN (flV (ν 1) q nf) i) + 0))), (0, .ref (B 0)), (1, .int (nI q)), (4, .int (nI i))]) hxe hcd dX10_signChanges_110 rfl hl (by decide) rfl (fun ls hl => ?_)
                  refine lv_iinc (v := (nI (i + 1))) (lv' := [(4, .int (nI (i + 1))), (3, .int (flV (ν 1) q nf i)), (2, .int (nI ((chgN (flV (ν 1) q nf) i) + 0))), (0, .ref (B 0)), (1, .int (nI q))]) hxe hcd dX10_signChanges_111 hl (k := 4) rfl (nI_add i 1) (by decide) rfl (fun ls hl => ?_)
                  refine lv_goto (tgt := 37) hxe hcd dX10_signChanges_114 (by decide) ?_
                  have hl : lv_has ls 5 [(4, .int (nI (i + 1))), (3, .int (lastN (flV (ν 1) q nf) (i + 1))), (2, .int (nI (chgN (flV (ν 1) q nf) (i + 1)))), (0, .ref (B 0)), (1, .int (nI q))] := by
                    rw [lastN, chgN, if_neg c58, if_neg c58, if_neg (fun h => h.2 ⟨fun _ => (I_nle.mp c85), fun _ => (I_nle.mp c70)⟩)]
                    exact lv_sub hl [0, 1, 2, 3, 4] rfl
                  exact ih37 (i + 1) (by omega) (by omega) _ _ _ hW (lv_sub hl [3, 4, 2, 1, 0] rfl)
          · refine lv_goto (tgt := 111) hxe hcd dX10_signChanges_61 (by decide) ?_
            refine lv_iinc (v := (nI (i + 1))) (lv' := [(4, .int (nI (i + 1))), (0, .ref (B 0)), (1, .int (nI q)), (2, .int (nI (chgN (flV (ν 1) q nf) i))), (3, .int (lastN (flV (ν 1) q nf) i))]) hxe hcd dX10_signChanges_111 hl (k := 4) rfl (nI_add i 1) (by decide) rfl (fun ls hl => ?_)
            refine lv_goto (tgt := 37) hxe hcd dX10_signChanges_114 (by decide) ?_
            have hl : lv_has ls 5 [(4, .int (nI (i + 1))), (3, .int (lastN (flV (ν 1) q nf) (i + 1))), (2, .int (nI (chgN (flV (ν 1) q nf) (i + 1)))), (0, .ref (B 0)), (1, .int (nI q))] := by
              rw [lastN, chgN, if_pos c58, if_pos c58]
              exact lv_sub hl [0, 4, 3, 1, 2] rfl
            exact ih37 (i + 1) (by omega) (by omega) _ _ _ hW (lv_sub hl [3, 4, 2, 1, 0] rfl)
    exact loop37 ((ln q) + 1) 0 (Nat.lt_succ_self _) (Nat.zero_le _) _ _ _ hW (lv_sub hl [3, 4, 2, 1, 0] rfl)
  · subst hp20
    refine lv_if_eq (tgt := 12) hxe hcd dX10_signChanges_5 (by decide) (fun _ => ?_) (fun h => absurd (by decide) h)
    refine lv_iconst (v := (nI 1)) hxe hcd dX10_signChanges_12 (by decide) ?_
    refine gp_X10_53 S hW dX10_signChanges_13 (fun H locs hW => ?_)
    refine lv_aload_n hxe hcd dX10_signChanges_16 rfl (lv_at hl 0 rfl) ?_
    refine gf_X10_53 S hW dX10_signChanges_17 ?_
    refine r_as (y := (nI 1)) (by rw [up1_s, upd_s]) ?_
    refine lv_if_eq (tgt := 25) hxe hcd dX10_signChanges_20 (by decide) (fun h => absurd h (by decide)) (fun _ => ?_)
    refine lv_iconst (v := (nI 0)) hxe hcd dX10_signChanges_23 (by decide) ?_
    refine r_iret S hr hlk (F := (mE Z B)) (u := (up1 ν 0 (upd (ν 0) 0 (nI 1)))) hW ?_ dX10_signChanges_24
    exact Or.inl ⟨hp2, rfl, rfl⟩
set_option maxHeartbeats 4000000 in
set_option maxRecDepth 100000 in
theorem t_X10_strongestSong (l : Launch) {Z : ZT} (hZ : zOK Z) (B : Nat → Nat) (ν : MM) (sz : Nat) (ln : Nat → Nat) (hln : ∀ q, q < 4 → ν 1 (25 + q) = nI (ln q) ∧ ln q ≤ 160) {nf : Nat} (hnf : ν 1 0 = nI nf) (hnf8 : nf ≤ 8) (ps : Nat → Nat) (hps : ∀ f, f < nf → ν 1 (13 + f) = nI (ps f) ∧ ps f ≤ 999 ∧ KP (ν 1 (5 + f)) (nI (ps f))) : XMi l yX10_strongestSong cX10_strongestSong 3 (some .int) 4 [.ref (B 0)] Z mds B (mE Z B) ν sz (fun r u => r = nI (stg (fun k => sqS (flV (ν 1) k nf) (ln k)) 4) ∧ ∃ o2 g2 : Nat → Int32, u = up1 (up1 (up1 ν 0 (upd (ν 0) 0 (nI 0))) 6 o2) 7 g2) := by
  refine r_met (E := (mE Z B ν)) (by decide +kernel) (Nat.le_of_ble_eq_true rfl) ?_
  intro p e s m below meth c ls S hr hlk hnm hsz hW hl
  have hxe := S.1
  have hcd := S.2.1
  subst hsz
  have hl : lv_has ls 3 [(0, .ref (B 0))] := hl
  refine lv_aload_n hxe hcd dX10_strongestSong_0 rfl (lv_at hl 0 rfl) ?_
  refine lv_iconst (v := (nI 0)) hxe hcd dX10_strongestSong_1 (by decide) ?_
  refine gp_X10_53 S hW dX10_strongestSong_2 (fun H locs hW => ?_)
  refine lv_iconst (v := (nI 0)) hxe hcd dX10_strongestSong_5 (by decide) ?_
  refine lv_istore_n (lv' := [(1, .int (nI 0)), (0, .ref (B 0))]) hxe hcd dX10_strongestSong_6 rfl hl (by decide) rfl (fun ls hl => ?_)
  refine lv_iconst (v := (nI 1)) hxe hcd dX10_strongestSong_7 (by decide) ?_
  refine lv_istore_n (lv' := [(2, .int (nI 1)), (1, .int (nI 0)), (0, .ref (B 0))]) hxe hcd dX10_strongestSong_8 rfl hl (by decide) rfl (fun ls hl => ?_)
  have hl : lv_has ls 3 [(2, .int (nI 1)), (1, .int (nI (stg (fun k => sqS (flV (ν 1) k nf) (ln k)) 1))), (0, .ref (B 0))] := by rw [stg_1]; exact hl
  have loop9 : ∀ (n_ : Nat) (i : Nat) (o2 g2 : Nat → Int32), 4 - i < n_ → (1 ≤ i) → (i ≤ 4) → ∀ (H : Heap) (locs : List Loc) (ls : Array Slot), wX Z mds B (mE Z B (up1 (up1 (up1 ν 0 (upd (ν 0) 0 (nI 0))) 6 o2) 7 g2)) (fA mds B (mE Z B ν) s.heap.size) s H locs → lv_has ls 3 [(0, .ref (B 0)), (1, .int (nI (stg (fun k => sqS (flV (ν 1) k nf) (ln k)) i))), (2, .int (nI i))] → W p l e (rmD 4 0 0) s m ([.ref (B 0)] : List Value).toArray below meth c H locs 0 0 (MQ below (va_Qi (fun r u => r = nI (stg (fun k => sqS (flV (ν 1) k nf) (ln k)) 4) ∧ ∃ o2 g2 : Nat → Int32, u = up1 (up1 (up1 ν 0 (upd (ν 0) 0 (nI 0))) 6 o2) 7 g2) (fun u t => qB Z mds B ((mE Z B) u) (fA mds B (mE Z B ν) s.heap.size) t) (fA mds B (mE Z B ν) s.heap.size)) ([.ref (B 0)] : List Value).toArray s 0 0 (fA mds B (mE Z B ν) s.heap.size)) (F0 m 9 ls []) := by
    intro n_
    induction n_ with
    | zero => intro i o2 g2 hm; exact absurd hm (Nat.not_lt_zero _)
    | succ n_ ih9 =>
      intro i o2 g2 hm hi1 hi H locs ls hW hl
      have hbs := stg_lt0 (fun k => sqS (flV (ν 1) k nf) (ln k)) (show 0 < i by omega)
      have hbs4 : stg (fun k => sqS (flV (ν 1) k nf) (ln k)) i < 4 := by omega
      refine lv_iload_n hxe hcd dX10_strongestSong_9 rfl (lv_at hl 2 rfl) ?_
      refine lv_iconst (v := (nI 4)) hxe hcd dX10_strongestSong_10 (by decide) ?_
      refine n_ge S (a := i) (b := 4) (by omega) (by omega) dX10_strongestSong_11 (tgt := 36) (by decide) (fun c11 => ?_) (fun c11 => ?_)
      · refine lv_iload_n hxe hcd dX10_strongestSong_36 rfl (lv_at hl 1 rfl) ?_
        refine r_iret S hr hlk (F := (mE Z B)) (u := (up1 (up1 (up1 ν 0 (upd (ν 0) 0 (nI 0))) 6 o2) 7 g2)) hW ?_ dX10_strongestSong_37
        rw [show i = 4 by omega]
        exact ⟨rfl, o2, g2, rfl⟩
      · have hi4 : i < 4 := by omega
        refine lv_aload_n hxe hcd dX10_strongestSong_14 rfl (lv_at hl 0 rfl) ?_
        refine lv_iload_n hxe hcd dX10_strongestSong_15 rfl (lv_at hl 2 rfl) ?_
        refine r_calll (F := (mE Z B)) (r_runV hZ S hW (As := [.int (nI i)]) (rest := []) (t_X10_power l hZ B (up1 (up1 (up1 ν 0 (upd (ν 0) 0 (nI 0))) 6 o2) 7 g2) H.size (q := i) (n := ln i) (by assumption) (hln i (by assumption)).1 (hln i (by assumption)).2 hnf hnf8 ps hps) k_X10_140 (r_recv hW (x := 0) (List.mem_range.mpr (by decide)) rfl rfl) (hl.1) rfl rfl (Nat.le_of_ble_eq_true rfl) ⟨Nat.le_of_ble_eq_true rfl, Nat.le_of_ble_eq_true rfl⟩ ⟨Nat.le_of_ble_eq_true rfl, Nat.le_of_ble_eq_true rfl⟩ dX10_strongestSong_16) hW (fun r16 u16 H locs hp16 hW => ?_)
        obtain ⟨hr16, o16, g16, hm16⟩ := hp16
        subst hm16
        have hr16 : r16 = sqS (flV (ν 1) i nf) (ln i) := hr16
        subst hr16
        refine lv_aload_n hxe hcd dX10_strongestSong_19 rfl (lv_at hl 0 rfl) ?_
        refine lv_iload_n hxe hcd dX10_strongestSong_20 rfl (lv_at hl 1 rfl) ?_
        refine r_calll (F := (mE Z B)) (r_runV hZ S hW (As := [.int (nI (stg (fun k => sqS (flV (ν 1) k nf) (ln k)) i))]) (rest := [.long (sqS (flV (ν 1) i nf) (ln i))]) (t_X10_power l hZ B (up1 (up1 (up1 (up1 (up1 ν 0 (upd (ν 0) 0 (nI 0))) 6 o2) 7 g2) 6 o16) 7 g16) H.size (q := (stg (fun k => sqS (flV (ν 1) k nf) (ln k)) i)) (n := ln (stg (fun k => sqS (flV (ν 1) k nf) (ln k)) i)) (by assumption) (hln (stg (fun k => sqS (flV (ν 1) k nf) (ln k)) i) (by assumption)).1 (hln (stg (fun k => sqS (flV (ν 1) k nf) (ln k)) i) (by assumption)).2 hnf hnf8 ps hps) k_X10_140 (r_recv hW (x := 0) (List.mem_range.mpr (by decide)) rfl rfl) (hl.1) rfl rfl (Nat.le_of_ble_eq_true rfl) ⟨Nat.le_of_ble_eq_true rfl, Nat.le_of_ble_eq_true rfl⟩ ⟨Nat.le_of_ble_eq_true rfl, Nat.le_of_ble_eq_true rfl⟩ dX10_strongestSong_21) hW (fun r21 u21 H locs hp21 hW => ?_)
        obtain ⟨hr21, o21, g21, hm21⟩ := hp21
        subst hm21
        have hr21 : r21 = sqS (flV (ν 1) (stg (fun k => sqS (flV (ν 1) k nf) (ln k)) i) nf) (ln (stg (fun k => sqS (flV (ν 1) k nf) (ln k)) i)) := hr21
        subst hr21
        refine W.lcmp hxe hcd dX10_strongestSong_24 ?_
        refine lv_if_le (tgt := 30) hxe hcd dX10_strongestSong_25 (by decide) (fun c25 => ?_) (fun c25 => ?_)
        · refine lv_iinc (v := (nI (i + 1))) (lv' := [(2, .int (nI (i + 1))), (0, .ref (B 0)), (1, .int (nI (stg (fun k => sqS (flV (ν 1) k nf) (ln k)) i)))]) hxe hcd dX10_strongestSong_30 hl (k := 2) rfl (nI_add i 1) (by decide) rfl (fun ls hl => ?_)
          refine lv_goto (tgt := 9) hxe hcd dX10_strongestSong_33 (by decide) ?_
          have hl : lv_has ls 3 [(2, .int (nI (i + 1))), (1, .int (nI (stg (fun k => sqS (flV (ν 1) k nf) (ln k)) (i + 1)))), (0, .ref (B 0))] := by
            rw [show stg (fun k => sqS (flV (ν 1) k nf) (ln k)) (i + 1) = stg (fun k => sqS (flV (ν 1) k nf) (ln k)) i from by rw [stg]; exact if_neg (lgc_le.mp c25)]
            exact lv_sub hl [0, 2, 1] rfl
          exact ih9 (i + 1) o21 g21 (by omega) (by omega) (by omega) _ _ _ (by rw [up67, up67] at hW; exact hW) (lv_sub hl [2, 1, 0] rfl)
        · refine lv_iload_n hxe hcd dX10_strongestSong_28 rfl (lv_at hl 2 rfl) ?_
          refine lv_istore_n (lv' := [(1, .int (nI i)), (0, .ref (B 0)), (2, .int (nI i))]) hxe hcd dX10_strongestSong_29 rfl hl (by decide) rfl (fun ls hl => ?_)
          refine lv_iinc (v := (nI (i + 1))) (lv' := [(2, .int (nI (i + 1))), (1, .int (nI i)), (0, .ref (B 0))]) hxe hcd dX10_strongestSong_30 hl (k := 2) rfl (nI_add i 1) (by decide) rfl (fun ls hl => ?_)
          refine lv_goto (tgt := 9) hxe hcd dX10_strongestSong_33 (by decide) ?_
          have hl : lv_has ls 3 [(2, .int (nI (i + 1))), (1, .int (nI (stg (fun k => sqS (flV (ν 1) k nf) (ln k)) (i + 1)))), (0, .ref (B 0))] := by
            rw [show stg (fun k => sqS (flV (ν 1) k nf) (ln k)) (i + 1) = i from by rw [stg]; exact if_pos (lgc_gt c25)]
            exact lv_sub hl [0, 1, 2] rfl
          exact ih9 (i + 1) o21 g21 (by omega) (by omega) (by omega) _ _ _ (by rw [up67, up67] at hW; exact hW) (lv_sub hl [2, 1, 0] rfl)
  exact loop9 ((4 - 1) + 1) 1 (ν 6) (ν 7) (Nat.lt_succ_self _) (Nat.le_refl _) (by decide) _ _ _ (by rw [up1_p (i := 6) (f := ν 6) (by rfl), up1_p (i := 7) (f := ν 7) (by rfl)]; exact hW) (lv_sub hl [2, 1, 0] rfl)
